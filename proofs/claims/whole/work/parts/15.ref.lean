/-! printed walks: the reference, without its minute -/
abbrev rm_X7_in : Room := { frames := 0, cells := 0, slots := 0, locals := 0 }
def m_X7_in (x : Int32) (a : Int32) (b : Int32) : Bool :=
  if x < a then false
  else if b < x then false
  else true
set_option maxHeartbeats 4000000 in
set_option maxRecDepth 100000 in
theorem c_X7_in (l : Launch) (G : GG) (W0 : va_W) (x : Int32) (a : Int32) (b : Int32) : Ct l G yX7_in cX7_in 3 (some Jvm.ClassFile.FieldType.boolean) rm_X7_in [.int x, .int a, .int b] (W0) (fun rv W1 => rv = some (.int (bi (m_X7_in x a b))) ∧ W1 = W0) := by
  refine Ct.mk2 (by decide) (Nat.le_of_ble_eq_true rfl) ?_
  intro p e s m args below meth c A H locs ls Q cx wo hl hQ
  obtain ⟨hx, hb, hml, hr, hlo, hown, hts, hnm, kn, hA⟩ := id cx
  have hl : lv_has ls 3 [(0, .int x), (1, .int a), (2, .int b)] := hl
  generalize hM : m_X7_in x a b = M at hQ
  unfold m_X7_in at hM
  refine lv_iload_n hx hb dX7_in_0 rfl (lv_at hl 0 rfl) ?_
  refine lv_iload_n hx hb dX7_in_1 rfl (lv_at hl 1 rfl) ?_
  refine lv_icmp_lt (tgt := 14) hx hb dX7_in_2 (by decide) (fun c_1 => ?_) (fun c_1 => ?_)
  · skip
    rw [if_pos c_1] at hM
    refine lv_iconst (v := 0) hx hb dX7_in_14 (by decide) ?_
    refine tope (y := bi false) rfl ?_
    exact r2_z cx hQ wo dX7_in_15 (by subst hM; exact ⟨rfl, rfl⟩)
  · skip
    rw [if_neg c_1] at hM
    refine lv_iload_n hx hb dX7_in_5 rfl (lv_at hl 0 rfl) ?_
    refine lv_iload_n hx hb dX7_in_6 rfl (lv_at hl 2 rfl) ?_
    refine lv_icmp_gt (tgt := 14) hx hb dX7_in_7 (by decide) (fun c_2 => ?_) (fun c_2 => ?_)
    · skip
      rw [if_pos c_2] at hM
      refine lv_iconst (v := 0) hx hb dX7_in_14 (by decide) ?_
      refine tope (y := bi false) rfl ?_
      exact r2_z cx hQ wo dX7_in_15 (by subst hM; exact ⟨rfl, rfl⟩)
    · skip
      rw [if_neg c_2] at hM
      refine lv_iconst (v := 1) hx hb dX7_in_10 (by decide) ?_
      refine lv_goto (tgt := 15) hx hb dX7_in_11 (by decide) ?_
      refine tope (y := bi true) rfl ?_
      exact r2_z cx hQ wo dX7_in_15 (by subst hM; exact ⟨rfl, rfl⟩)
theorem ne_nI {x k : Nat} (h : ¬ nI x = nI k) : x ≠ k := fun e => h (by rw [e])
theorem inb {x : Int32} {lo hi : Nat} (h : m_X7_in x (nI lo) (nI hi) = true) (hk : hi + 1 < 2 ^ 31 := by decide) (hlo : lo ≤ hi := by decide) : x = nI x.toNatClampNeg ∧ lo ≤ x.toNatClampNeg ∧ x.toNatClampNeg ≤ hi := by
  unfold m_X7_in at h
  by_cases c1 : x < nI lo
  · rw [if_pos c1] at h; cases h
  rw [if_neg c1] at h
  by_cases c2 : nI hi < x
  · rw [if_pos c2] at h; cases h
  have h0 : ¬ x < 0 := fun q => c1 (Int32.lt_iff_toInt_lt.mpr (by have := Int32.lt_iff_toInt_lt.mp q; rw [nI_toInt (by omega)]; have e : (0 : Int32).toInt = 0 := rfl; omega))
  obtain ⟨j, hj, rfl⟩ := nI_of h0
  rw [nI_clamp hj]
  exact ⟨rfl, by rw [nI_ltI hj (by omega)] at c1; omega, by rw [nI_ltI (by omega) hj] at c2; omega⟩
theorem carn {x : Int32} (h0 : ¬ x < 0) (h1 : x < 4) : x = nI x.toNatClampNeg ∧ x.toNatClampNeg < 4 := by
  obtain ⟨j, hj, rfl⟩ := nI_of h0
  rw [nI_clamp hj]
  exact ⟨rfl, (nI_ltI (b := 4) hj (by decide)).mp h1⟩
abbrev rm_X7_vesselAt : Room := { frames := 0, cells := 0, slots := 0, locals := 0 }
def m_X7_vesselAt (x : Int32) : Int32 :=
  if x = 4 then 0
  else if x = 8 then 1
  else if x = 12 then 2
  else (-1)
set_option maxHeartbeats 4000000 in
set_option maxRecDepth 100000 in
theorem c_X7_vesselAt (l : Launch) (G : GG) (W0 : va_W) (x : Int32) : Ct l G yX7_vesselAt cX7_vesselAt 1 (some Jvm.ClassFile.FieldType.int) rm_X7_vesselAt [.int x] (W0) (fun rv W1 => rv = some (.int (m_X7_vesselAt x)) ∧ W1 = W0) := by
  refine Ct.mk2 (by decide) (Nat.le_of_ble_eq_true rfl) ?_
  intro p e s m args below meth c A H locs ls Q cx wo hl hQ
  obtain ⟨hx, hb, hml, hr, hlo, hown, hts, hnm, kn, hA⟩ := id cx
  have hl : lv_has ls 1 [(0, .int x)] := hl
  generalize hM : m_X7_vesselAt x = M at hQ
  unfold m_X7_vesselAt at hM
  refine lv_iload_n hx hb dX7_vesselAt_0 rfl (lv_at hl 0 rfl) ?_
  refine lv_iconst (v := 4) hx hb dX7_vesselAt_1 (by decide) ?_
  refine lv_icmp_ne (tgt := 9) hx hb dX7_vesselAt_2 (by decide) (fun c_1 => ?_) (fun c_1 => ?_)
  · skip
    rw [if_neg c_1] at hM
    refine lv_iload_n hx hb dX7_vesselAt_9 rfl (lv_at hl 0 rfl) ?_
    refine lv_bipush (v := 8) hx hb dX7_vesselAt_10 (by decide) ?_
    refine lv_icmp_ne (tgt := 19) hx hb dX7_vesselAt_12 (by decide) (fun c_2 => ?_) (fun c_2 => ?_)
    · skip
      rw [if_neg c_2] at hM
      refine lv_iload_n hx hb dX7_vesselAt_19 rfl (lv_at hl 0 rfl) ?_
      refine lv_bipush (v := 12) hx hb dX7_vesselAt_20 (by decide) ?_
      refine lv_icmp_ne (tgt := 29) hx hb dX7_vesselAt_22 (by decide) (fun c_3 => ?_) (fun c_3 => ?_)
      · skip
        rw [if_neg c_3] at hM
        refine lv_iconst (v := (-1)) hx hb dX7_vesselAt_29 (by decide) ?_
        exact r2_i cx hQ wo dX7_vesselAt_30 (by subst hM; exact ⟨rfl, rfl⟩)
      · skip
        rw [if_pos c_3] at hM
        refine lv_iconst (v := 2) hx hb dX7_vesselAt_25 (by decide) ?_
        refine lv_goto (tgt := 30) hx hb dX7_vesselAt_26 (by decide) ?_
        exact r2_i cx hQ wo dX7_vesselAt_30 (by subst hM; exact ⟨rfl, rfl⟩)
    · skip
      rw [if_pos c_2] at hM
      refine lv_iconst (v := 1) hx hb dX7_vesselAt_15 (by decide) ?_
      refine lv_goto (tgt := 30) hx hb dX7_vesselAt_16 (by decide) ?_
      exact r2_i cx hQ wo dX7_vesselAt_30 (by subst hM; exact ⟨rfl, rfl⟩)
  · skip
    rw [if_pos c_1] at hM
    refine lv_iconst (v := 0) hx hb dX7_vesselAt_5 (by decide) ?_
    refine lv_goto (tgt := 30) hx hb dX7_vesselAt_6 (by decide) ?_
    exact r2_i cx hQ wo dX7_vesselAt_30 (by subst hM; exact ⟨rfl, rfl⟩)
theorem m_X7_vesselAt_n {x : Int32} (h : ¬ m_X7_vesselAt x < 0) : m_X7_vesselAt x = nI (m_X7_vesselAt x).toNatClampNeg ∧ (m_X7_vesselAt x).toNatClampNeg < 3 := by
  revert h
  unfold m_X7_vesselAt
  (repeat' split) <;> decide
abbrev rm_X7_isFloor : Room := { frames := 1, cells := 0, slots := 0, locals := 20 }
def m_X7_isFloor (x : Int32) : Bool :=
  if x = 0 then false
  else if x = 2 then false
  else if x = 15 then false
  else if 0 ≤ (m_X7_vesselAt x) then false
  else true
set_option maxHeartbeats 4000000 in
set_option maxRecDepth 100000 in
theorem c_X7_isFloor (l : Launch) (G : GG) (W0 : va_W) (x : Int32) : Ct l G yX7_isFloor cX7_isFloor 1 (some Jvm.ClassFile.FieldType.boolean) rm_X7_isFloor [.int x] (W0) (fun rv W1 => rv = some (.int (bi (m_X7_isFloor x))) ∧ W1 = W0) := by
  refine Ct.mk2 (by decide) (Nat.le_of_ble_eq_true rfl) ?_
  intro p e s m args below meth c A H locs ls Q cx wo hl hQ
  obtain ⟨hx, hb, hml, hr, hlo, hown, hts, hnm, kn, hA⟩ := id cx
  have hl : lv_has ls 1 [(0, .int x)] := hl
  generalize hM : m_X7_isFloor x = M at hQ
  unfold m_X7_isFloor at hM
  refine lv_iload_n hx hb dX7_isFloor_0 rfl (lv_at hl 0 rfl) ?_
  refine lv_if_eq (tgt := 26) hx hb dX7_isFloor_1 (by decide) (fun c_1 => ?_) (fun c_1 => ?_)
  · skip
    rw [if_pos c_1] at hM
    refine lv_iconst (v := 0) hx hb dX7_isFloor_26 (by decide) ?_
    refine tope (y := bi false) rfl ?_
    exact r2_z cx hQ wo dX7_isFloor_27 (by subst hM; exact ⟨rfl, rfl⟩)
  · skip
    rw [if_neg c_1] at hM
    refine lv_iload_n hx hb dX7_isFloor_4 rfl (lv_at hl 0 rfl) ?_
    refine lv_iconst (v := 2) hx hb dX7_isFloor_5 (by decide) ?_
    refine lv_icmp_eq (tgt := 26) hx hb dX7_isFloor_6 (by decide) (fun c_2 => ?_) (fun c_2 => ?_)
    · skip
      rw [if_pos c_2] at hM
      refine lv_iconst (v := 0) hx hb dX7_isFloor_26 (by decide) ?_
      refine tope (y := bi false) rfl ?_
      exact r2_z cx hQ wo dX7_isFloor_27 (by subst hM; exact ⟨rfl, rfl⟩)
    · skip
      rw [if_neg c_2] at hM
      refine lv_iload_n hx hb dX7_isFloor_9 rfl (lv_at hl 0 rfl) ?_
      refine lv_bipush (v := 15) hx hb dX7_isFloor_10 (by decide) ?_
      refine lv_icmp_eq (tgt := 26) hx hb dX7_isFloor_12 (by decide) (fun c_3 => ?_) (fun c_3 => ?_)
      · skip
        rw [if_pos c_3] at hM
        refine lv_iconst (v := 0) hx hb dX7_isFloor_26 (by decide) ?_
        refine tope (y := bi false) rfl ?_
        exact r2_z cx hQ wo dX7_isFloor_27 (by subst hM; exact ⟨rfl, rfl⟩)
      · skip
        rw [if_neg c_3] at hM
        refine lv_iload_n hx hb dX7_isFloor_15 rfl (lv_at hl 0 rfl) ?_
        refine call_S (As := [.int x]) (rest := []) (fun X => X) Fr_id cx (c_X7_vesselAt l G _ x) fx_X7_vesselAt m_715 m_716 ⟨by decide, by decide⟩ wo rfl hl.1 rfl (Nat.le_of_ble_eq_true rfl) dX7_isFloor_16 ⟨by decide, by decide⟩ (fun v W1 H locs hp wo => ?_)
        obtain ⟨rfl, hw9⟩ := hp
        rw [hw9] at wo
        clear hw9
        refine nrm_i ?_
        refine lv_if_ge (tgt := 26) hx hb dX7_isFloor_19 (by decide) (fun c_4 => ?_) (fun c_4 => ?_)
        · skip
          rw [if_pos c_4] at hM
          refine lv_iconst (v := 0) hx hb dX7_isFloor_26 (by decide) ?_
          refine tope (y := bi false) rfl ?_
          exact r2_z cx hQ wo dX7_isFloor_27 (by subst hM; exact ⟨rfl, rfl⟩)
        · skip
          rw [if_neg c_4] at hM
          refine lv_iconst (v := 1) hx hb dX7_isFloor_22 (by decide) ?_
          refine lv_goto (tgt := 27) hx hb dX7_isFloor_23 (by decide) ?_
          refine tope (y := bi true) rfl ?_
          exact r2_z cx hQ wo dX7_isFloor_27 (by subst hM; exact ⟨rfl, rfl⟩)
abbrev rm_X7_sum : Room := { frames := 0, cells := 0, slots := 0, locals := 0 }
def m_X7_sum (g : St) (a : Nat) : Int32 :=
  ((((g a) + (g (1 + a))) + (g (2 + a))) + (g (3 + a)))
set_option maxHeartbeats 4000000 in
set_option maxRecDepth 100000 in
theorem c_X7_sum (l : Launch) (G : GG) (am : Nat → Nat) (g kf : St) (nk : Int32) {a : Nat} (ha : a < 147) : Ct l G yX7_sum cX7_sum 2 (some Jvm.ClassFile.FieldType.int) rm_X7_sum [.ref (am 0), .int (nI a)] (mw G am g kf nk) (fun rv W1 => rv = some (.int (m_X7_sum g a)) ∧ W1 = mw G am g kf nk) := by
  refine Ct.mk2 (by decide) (Nat.le_of_ble_eq_true rfl) ?_
  intro p e s m args below meth c A H locs ls Q cx wo hl hQ
  obtain ⟨hx, hb, hml, hr, hlo, hown, hts, hnm, kn, hA⟩ := id cx
  have hl : lv_has ls 2 [(0, .ref (am 0)), (1, .int (nI a))] := hl
  generalize hM : m_X7_sum g a = M at hQ
  unfold m_X7_sum at hM
  refine lv_aload_n hx hb dX7_sum_0 rfl (lv_at hl 0 rfl) ?_
  refine mg_st cx wo m_631 dX7_sum_1 ?_
  refine lv_iload_n hx hb dX7_sum_4 rfl (lv_at hl 1 rfl) ?_
  refine ml_st (n := a) cx wo rfl (by omega) dX7_sum_5 ?_
  refine lv_aload_n hx hb dX7_sum_6 rfl (lv_at hl 0 rfl) ?_
  refine mg_st cx wo m_631 dX7_sum_7 ?_
  refine lv_iload_n hx hb dX7_sum_10 rfl (lv_at hl 1 rfl) ?_
  refine lv_iconst (v := 1) hx hb dX7_sum_11 (by decide) ?_
  refine lv_iadd hx hb dX7_sum_12 ?_
  refine tope (y := (nI (1 + a))) (ai (a := a) (b := 1) rfl rfl (by omega)) ?_
  refine ml_st (n := 1 + a) cx wo rfl (by omega) dX7_sum_13 ?_
  refine lv_iadd hx hb dX7_sum_14 ?_
  refine lv_aload_n hx hb dX7_sum_15 rfl (lv_at hl 0 rfl) ?_
  refine mg_st cx wo m_631 dX7_sum_16 ?_
  refine lv_iload_n hx hb dX7_sum_19 rfl (lv_at hl 1 rfl) ?_
  refine lv_iconst (v := 2) hx hb dX7_sum_20 (by decide) ?_
  refine lv_iadd hx hb dX7_sum_21 ?_
  refine tope (y := (nI (2 + a))) (ai (a := a) (b := 2) rfl rfl (by omega)) ?_
  refine ml_st (n := 2 + a) cx wo rfl (by omega) dX7_sum_22 ?_
  refine lv_iadd hx hb dX7_sum_23 ?_
  refine lv_aload_n hx hb dX7_sum_24 rfl (lv_at hl 0 rfl) ?_
  refine mg_st cx wo m_631 dX7_sum_25 ?_
  refine lv_iload_n hx hb dX7_sum_28 rfl (lv_at hl 1 rfl) ?_
  refine lv_iconst (v := 3) hx hb dX7_sum_29 (by decide) ?_
  refine lv_iadd hx hb dX7_sum_30 ?_
  refine tope (y := (nI (3 + a))) (ai (a := a) (b := 3) rfl rfl (by omega)) ?_
  refine ml_st (n := 3 + a) cx wo rfl (by omega) dX7_sum_31 ?_
  refine lv_iadd hx hb dX7_sum_32 ?_
  exact r2_i cx hQ wo dX7_sum_33 (by subst hM; exact ⟨rfl, rfl⟩)
abbrev rm_X7_fed : Room := { frames := 0, cells := 0, slots := 0, locals := 0 }
def m_X7_fed (g : St) (x : Int32) : Int32 × St :=
  if x = 0 then ((g 149), (upd g 149 0))
  else ((g 149), (upd g 149 1))
set_option maxHeartbeats 4000000 in
set_option maxRecDepth 100000 in
theorem c_X7_fed (l : Launch) (G : GG) (am : Nat → Nat) (g kf : St) (nk : Int32) (x : Int32) : Ct l G yX7_fed cX7_fed 3 (some Jvm.ClassFile.FieldType.int) rm_X7_fed [.ref (am 0), .int x] (mw G am g kf nk) (fun rv W1 => rv = some (.int (m_X7_fed g x).1) ∧ W1 = mw G am (m_X7_fed g x).2 kf nk) := by
  refine Ct.mk2 (by decide) (Nat.le_of_ble_eq_true rfl) ?_
  intro p e s m args below meth c A H locs ls Q cx wo hl hQ
  obtain ⟨hx, hb, hml, hr, hlo, hown, hts, hnm, kn, hA⟩ := id cx
  have hl : lv_has ls 3 [(0, .ref (am 0)), (1, .int x)] := hl
  generalize hM : m_X7_fed g x = M at hQ
  unfold m_X7_fed at hM
  refine lv_aload_n hx hb dX7_fed_0 rfl (lv_at hl 0 rfl) ?_
  refine mg_st cx wo m_631 dX7_fed_1 ?_
  refine lv_sipush (v := 149) hx hb dX7_fed_4 (by decide) ?_
  refine ml_st (n := 149) cx wo rfl (by omega) dX7_fed_7 ?_
  refine lv_istore_n (lv' := [(2, .int (g 149)), (0, .ref (am 0)), (1, .int x)]) hx hb dX7_fed_8 rfl hl (by decide) rfl (fun ls hl => ?_)
  refine lv_aload_n hx hb dX7_fed_9 rfl (lv_at hl 1 rfl) ?_
  refine mg_st cx wo m_631 dX7_fed_10 ?_
  refine lv_sipush (v := 149) hx hb dX7_fed_13 (by decide) ?_
  refine lv_iload_n hx hb dX7_fed_16 rfl (lv_at hl 2 rfl) ?_
  refine lv_if_eq (tgt := 24) hx hb dX7_fed_17 (by decide) (fun c_1 => ?_) (fun c_1 => ?_)
  · skip
    rw [if_pos c_1] at hM
    refine lv_iconst (v := 0) hx hb dX7_fed_24 (by decide) ?_
    refine ms_st (n := 149) cx wo rfl (by omega) dX7_fed_25 (fun H locs gz hgz wo => ?_)
    subst hgz
    refine lv_iload_n hx hb dX7_fed_26 rfl (lv_at hl 0 rfl) ?_
    exact r2_i cx hQ wo dX7_fed_27 (by subst hM; exact ⟨rfl, rfl⟩)
  · skip
    rw [if_neg c_1] at hM
    refine lv_iconst (v := 1) hx hb dX7_fed_20 (by decide) ?_
    refine lv_goto (tgt := 25) hx hb dX7_fed_21 (by decide) ?_
    refine ms_st (n := 149) cx wo rfl (by omega) dX7_fed_25 (fun H locs gz hgz wo => ?_)
    subst hgz
    refine lv_iload_n hx hb dX7_fed_26 rfl (lv_at hl 0 rfl) ?_
    exact r2_i cx hQ wo dX7_fed_27 (by subst hM; exact ⟨rfl, rfl⟩)
abbrev rm_X7_limit : Room := { frames := 1, cells := 0, slots := 0, locals := 22 }
def m_X7_limit (g : St) (x : Int32) : Int32 × St :=
  if (m_X7_in x 0 30) = true then ((g 148), (upd g 148 (nI (x.toNatClampNeg))))
  else ((-1), g)
set_option maxHeartbeats 4000000 in
set_option maxRecDepth 100000 in
theorem c_X7_limit (l : Launch) (G : GG) (am : Nat → Nat) (g kf : St) (nk : Int32) (x : Int32) : Ct l G yX7_limit cX7_limit 3 (some Jvm.ClassFile.FieldType.int) rm_X7_limit [.ref (am 0), .int x] (mw G am g kf nk) (fun rv W1 => rv = some (.int (m_X7_limit g x).1) ∧ W1 = mw G am (m_X7_limit g x).2 kf nk) := by
  refine Ct.mk2 (by decide) (Nat.le_of_ble_eq_true rfl) ?_
  intro p e s m args below meth c A H locs ls Q cx wo hl hQ
  obtain ⟨hx, hb, hml, hr, hlo, hown, hts, hnm, kn, hA⟩ := id cx
  have hl : lv_has ls 3 [(0, .ref (am 0)), (1, .int x)] := hl
  generalize hM : m_X7_limit g x = M at hQ
  unfold m_X7_limit at hM
  refine lv_iload_n hx hb dX7_limit_0 rfl (lv_at hl 1 rfl) ?_
  refine lv_iconst (v := 0) hx hb dX7_limit_1 (by decide) ?_
  refine lv_bipush (v := 30) hx hb dX7_limit_2 (by decide) ?_
  refine call_S (As := [.int x, .int 0, .int 30]) (rest := []) (fun X => X) Fr_id cx (c_X7_in l G _ x 0 30) fx_X7_in m_649 m_650 ⟨by decide, by decide⟩ wo rfl hl.1 rfl (Nat.le_of_ble_eq_true rfl) dX7_limit_4 ⟨by decide, by decide⟩ (fun v W1 H locs hp wo => ?_)
  obtain ⟨rfl, rfl⟩ := hp
  refine nrm_i ?_
  refine if_ne_b (tgt := 12) hx hb dX7_limit_7 (by decide) (fun c_1 => ?_) (fun c_1 => ?_)
  · skip
    rw [if_pos c_1] at hM
    have q_2 := inb (lo := 0) (hi := 30) c_1
    have q_2b := q_2.2
    refine lv_aload_n hx hb dX7_limit_12 rfl (lv_at hl 0 rfl) ?_
    refine mg_st cx wo m_631 dX7_limit_13 ?_
    refine lv_sipush (v := 148) hx hb dX7_limit_16 (by decide) ?_
    refine ml_st (n := 148) cx wo rfl (by omega) dX7_limit_19 ?_
    refine lv_istore_n (lv' := [(2, .int (g 148)), (0, .ref (am 0)), (1, .int x)]) hx hb dX7_limit_20 rfl hl (by decide) rfl (fun ls hl => ?_)
    refine lv_aload_n hx hb dX7_limit_21 rfl (lv_at hl 1 rfl) ?_
    refine mg_st cx wo m_631 dX7_limit_22 ?_
    refine lv_sipush (v := 148) hx hb dX7_limit_25 (by decide) ?_
    refine lv_iload_n hx hb dX7_limit_28 rfl (lv_at hl 2 rfl) ?_
    refine tope (y := (nI (x.toNatClampNeg))) q_2.1 ?_
    refine ms_st (n := 148) cx wo rfl (by omega) dX7_limit_29 (fun H locs gz hgz wo => ?_)
    subst hgz
    refine lv_iload_n hx hb dX7_limit_30 rfl (lv_at hl 0 rfl) ?_
    exact r2_i cx hQ wo dX7_limit_31 (by subst hM; exact ⟨rfl, rfl⟩)
  · skip
    rw [if_neg c_1] at hM
    refine lv_iconst (v := (-1)) hx hb dX7_limit_10 (by decide) ?_
    exact r2_i cx hQ wo dX7_limit_11 (by subst hM; exact ⟨rfl, rfl⟩)
abbrev rm_X7_blow : Room := { frames := 1, cells := 0, slots := 0, locals := 22 }
def m_X7_blow (g : St) (x : Int32) (y : Int32) : Int32 × St :=
  if (m_X7_in x 0 2) = true then (if y = 0 then ((g (79 + x.toNatClampNeg)), (upd g (79 + x.toNatClampNeg) 0))
    else if (m_X7_sum g (4 + 4 * x.toNatClampNeg)) = 0 then ((-2), g)
    else ((g (79 + x.toNatClampNeg)), (upd g (79 + x.toNatClampNeg) 1)))
  else ((-1), g)
set_option maxHeartbeats 4000000 in
set_option maxRecDepth 100000 in
theorem c_X7_blow (l : Launch) (G : GG) (am : Nat → Nat) (g kf : St) (nk : Int32) (x : Int32) (y : Int32) : Ct l G yX7_blow cX7_blow 4 (some Jvm.ClassFile.FieldType.int) rm_X7_blow [.ref (am 0), .int x, .int y] (mw G am g kf nk) (fun rv W1 => rv = some (.int (m_X7_blow g x y).1) ∧ W1 = mw G am (m_X7_blow g x y).2 kf nk) := by
  refine Ct.mk2 (by decide) (Nat.le_of_ble_eq_true rfl) ?_
  intro p e s m args below meth c A H locs ls Q cx wo hl hQ
  obtain ⟨hx, hb, hml, hr, hlo, hown, hts, hnm, kn, hA⟩ := id cx
  have hl : lv_has ls 4 [(0, .ref (am 0)), (1, .int x), (2, .int y)] := hl
  generalize hM : m_X7_blow g x y = M at hQ
  unfold m_X7_blow at hM
  refine lv_iload_n hx hb dX7_blow_0 rfl (lv_at hl 1 rfl) ?_
  refine lv_iconst (v := 0) hx hb dX7_blow_1 (by decide) ?_
  refine lv_iconst (v := 2) hx hb dX7_blow_2 (by decide) ?_
  refine call_S (As := [.int x, .int 0, .int 2]) (rest := []) (fun X => X) Fr_id cx (c_X7_in l G _ x 0 2) fx_X7_in m_649 m_650 ⟨by decide, by decide⟩ wo rfl hl.1 rfl (Nat.le_of_ble_eq_true rfl) dX7_blow_3 ⟨by decide, by decide⟩ (fun v W1 H locs hp wo => ?_)
  obtain ⟨rfl, rfl⟩ := hp
  refine nrm_i ?_
  refine if_ne_b (tgt := 11) hx hb dX7_blow_6 (by decide) (fun c_1 => ?_) (fun c_1 => ?_)
  · skip
    rw [if_pos c_1] at hM
    have q_2 := inb (lo := 0) (hi := 2) c_1
    have q_2b := q_2.2
    refine lv_iload_n hx hb dX7_blow_11 rfl (lv_at hl 2 rfl) ?_
    refine lv_if_eq (tgt := 30) hx hb dX7_blow_12 (by decide) (fun c_3 => ?_) (fun c_3 => ?_)
    · skip
      rw [if_pos c_3] at hM
      refine lv_aload_n hx hb dX7_blow_30 rfl (lv_at hl 0 rfl) ?_
      refine mg_st cx wo m_631 dX7_blow_31 ?_
      refine lv_bipush (v := 79) hx hb dX7_blow_34 (by decide) ?_
      refine lv_iload_n hx hb dX7_blow_36 rfl (lv_at hl 1 rfl) ?_
      refine tope (y := (nI (x.toNatClampNeg))) q_2.1 ?_
      refine lv_iadd hx hb dX7_blow_37 ?_
      refine tope (y := (nI (79 + x.toNatClampNeg))) (ai (a := 79) (b := x.toNatClampNeg) rfl rfl (by omega)) ?_
      refine ml_st (n := 79 + x.toNatClampNeg) cx wo rfl (by omega) dX7_blow_38 ?_
      refine lv_istore_n (lv' := [(3, .int (g (79 + x.toNatClampNeg))), (0, .ref (am 0)), (1, .int x), (2, .int y)]) hx hb dX7_blow_39 rfl hl (by decide) rfl (fun ls hl => ?_)
      refine lv_aload_n hx hb dX7_blow_40 rfl (lv_at hl 1 rfl) ?_
      refine mg_st cx wo m_631 dX7_blow_41 ?_
      refine lv_bipush (v := 79) hx hb dX7_blow_44 (by decide) ?_
      refine lv_iload_n hx hb dX7_blow_46 rfl (lv_at hl 2 rfl) ?_
      refine tope (y := (nI (x.toNatClampNeg))) q_2.1 ?_
      refine lv_iadd hx hb dX7_blow_47 ?_
      refine tope (y := (nI (79 + x.toNatClampNeg))) (ai (a := 79) (b := x.toNatClampNeg) rfl rfl (by omega)) ?_
      refine lv_iload_n hx hb dX7_blow_48 rfl (lv_at hl 3 rfl) ?_
      refine lv_if_eq (tgt := 56) hx hb dX7_blow_49 (by decide) (fun _ => ?_) (fun h => absurd c_3 h)
      refine lv_iconst (v := 0) hx hb dX7_blow_56 (by decide) ?_
      refine ms_st (n := 79 + x.toNatClampNeg) cx wo rfl (by omega) dX7_blow_57 (fun H locs gz hgz wo => ?_)
      subst hgz
      refine lv_iload_n hx hb dX7_blow_58 rfl (lv_at hl 0 rfl) ?_
      exact r2_i cx hQ wo dX7_blow_59 (by subst hM; exact ⟨rfl, rfl⟩)
    · skip
      rw [if_neg c_3] at hM
      refine lv_aload_n hx hb dX7_blow_15 rfl (lv_at hl 0 rfl) ?_
      refine lv_iconst (v := 4) hx hb dX7_blow_16 (by decide) ?_
      refine lv_iconst (v := 4) hx hb dX7_blow_17 (by decide) ?_
      refine lv_iload_n hx hb dX7_blow_18 rfl (lv_at hl 1 rfl) ?_
      refine tope (y := (nI (x.toNatClampNeg))) q_2.1 ?_
      refine lv_imul hx hb dX7_blow_19 ?_
      refine tope (y := (nI (4 * x.toNatClampNeg))) (mi (a := 4) (b := x.toNatClampNeg) rfl rfl (by omega)) ?_
      refine lv_iadd hx hb dX7_blow_20 ?_
      refine tope (y := (nI (4 + 4 * x.toNatClampNeg))) (ai (a := 4) (b := 4 * x.toNatClampNeg) rfl rfl (by omega)) ?_
      refine call_V (As := [.int (nI (4 + 4 * x.toNatClampNeg))]) (rest := []) (fun X => X) Fr_id cx (c_X7_sum l G am _ _ _ (a := 4 + 4 * x.toNatClampNeg) (by omega)) fx_X7_sum m_656 m_658 m_19 ⟨by decide, by decide⟩ wo (k := 0) rfl rfl rfl rfl hl.1 rfl (Nat.le_of_ble_eq_true rfl) dX7_blow_21 ⟨by decide, by decide⟩ (fun v W1 H locs hp wo => ?_)
      obtain ⟨rfl, rfl⟩ := hp
      refine nrm_i ?_
      refine lv_if_ne (tgt := 30) hx hb dX7_blow_24 (by decide) (fun c_4 => ?_) (fun c_4 => ?_)
      · skip
        rw [if_neg c_4] at hM
        refine lv_aload_n hx hb dX7_blow_30 rfl (lv_at hl 0 rfl) ?_
        refine mg_st cx wo m_631 dX7_blow_31 ?_
        refine lv_bipush (v := 79) hx hb dX7_blow_34 (by decide) ?_
        refine lv_iload_n hx hb dX7_blow_36 rfl (lv_at hl 1 rfl) ?_
        refine tope (y := (nI (x.toNatClampNeg))) q_2.1 ?_
        refine lv_iadd hx hb dX7_blow_37 ?_
        refine tope (y := (nI (79 + x.toNatClampNeg))) (ai (a := 79) (b := x.toNatClampNeg) rfl rfl (by omega)) ?_
        refine ml_st (n := 79 + x.toNatClampNeg) cx wo rfl (by omega) dX7_blow_38 ?_
        refine lv_istore_n (lv' := [(3, .int (g (79 + x.toNatClampNeg))), (0, .ref (am 0)), (1, .int x), (2, .int y)]) hx hb dX7_blow_39 rfl hl (by decide) rfl (fun ls hl => ?_)
        refine lv_aload_n hx hb dX7_blow_40 rfl (lv_at hl 1 rfl) ?_
        refine mg_st cx wo m_631 dX7_blow_41 ?_
        refine lv_bipush (v := 79) hx hb dX7_blow_44 (by decide) ?_
        refine lv_iload_n hx hb dX7_blow_46 rfl (lv_at hl 2 rfl) ?_
        refine tope (y := (nI (x.toNatClampNeg))) q_2.1 ?_
        refine lv_iadd hx hb dX7_blow_47 ?_
        refine tope (y := (nI (79 + x.toNatClampNeg))) (ai (a := 79) (b := x.toNatClampNeg) rfl rfl (by omega)) ?_
        refine lv_iload_n hx hb dX7_blow_48 rfl (lv_at hl 3 rfl) ?_
        refine lv_if_eq (tgt := 56) hx hb dX7_blow_49 (by decide) (fun h => absurd h c_3) (fun _ => ?_)
        refine lv_iconst (v := 1) hx hb dX7_blow_52 (by decide) ?_
        refine lv_goto (tgt := 57) hx hb dX7_blow_53 (by decide) ?_
        refine ms_st (n := 79 + x.toNatClampNeg) cx wo rfl (by omega) dX7_blow_57 (fun H locs gz hgz wo => ?_)
        subst hgz
        refine lv_iload_n hx hb dX7_blow_58 rfl (lv_at hl 0 rfl) ?_
        exact r2_i cx hQ wo dX7_blow_59 (by subst hM; exact ⟨rfl, rfl⟩)
      · skip
        rw [if_pos c_4] at hM
        refine lv_bipush (v := (-2)) hx hb dX7_blow_27 (by decide) ?_
        exact r2_i cx hQ wo dX7_blow_29 (by subst hM; exact ⟨rfl, rfl⟩)
  · skip
    rw [if_neg c_1] at hM
    refine lv_iconst (v := (-1)) hx hb dX7_blow_9 (by decide) ?_
    exact r2_i cx hQ wo dX7_blow_10 (by subst hM; exact ⟨rfl, rfl⟩)
abbrev rm_X7_cold : Room := { frames := 1, cells := 0, slots := 0, locals := 22 }
def m_X7_cold (g : St) (x : Int32) (y : Int32) : Int32 × St :=
  if (m_X7_in x 0 2) = true then (if (m_X7_in y 1 50) = true then (if (m_X7_sum g (4 + 4 * x.toNatClampNeg)) = 0 then ((-2), g)
      else if ((m_X7_sum g (4 + 4 * x.toNatClampNeg)) + (nI (y.toNatClampNeg))) ≤ 300 then ((((g (76 + x.toNatClampNeg)) * (m_X7_sum g (4 + 4 * x.toNatClampNeg))) / ((m_X7_sum g (4 + 4 * x.toNatClampNeg)) + (nI (y.toNatClampNeg)))), (upd (upd (upd g (76 + x.toNatClampNeg) (((g (76 + x.toNatClampNeg)) * (m_X7_sum g (4 + 4 * x.toNatClampNeg))) / ((m_X7_sum g (4 + 4 * x.toNatClampNeg)) + (nI (y.toNatClampNeg))))) (4 + 4 * x.toNatClampNeg) ((g (4 + 4 * x.toNatClampNeg)) + (nI (y.toNatClampNeg)))) 64 ((g 64) + (nI (y.toNatClampNeg)))))
      else ((-2), g))
    else ((-1), g))
  else ((-1), g)
set_option maxHeartbeats 4000000 in
set_option maxRecDepth 100000 in
theorem c_X7_cold (l : Launch) (G : GG) (am : Nat → Nat) (g kf : St) (nk : Int32) (x : Int32) (y : Int32) (hz : ∀ v k, v < 3 → 1 ≤ k → k ≤ 50 → ¬ m_X7_sum g (4 + 4 * v) = 0 → m_X7_sum g (4 + 4 * v) + nI k ≤ 300 → ¬ m_X7_sum g (4 + 4 * v) + nI k = 0) : Ct l G yX7_cold cX7_cold 4 (some Jvm.ClassFile.FieldType.int) rm_X7_cold [.ref (am 0), .int x, .int y] (mw G am g kf nk) (fun rv W1 => rv = some (.int (m_X7_cold g x y).1) ∧ W1 = mw G am (m_X7_cold g x y).2 kf nk) := by
  refine Ct.mk2 (by decide) (Nat.le_of_ble_eq_true rfl) ?_
  intro p e s m args below meth c A H locs ls Q cx wo hl hQ
  obtain ⟨hx, hb, hml, hr, hlo, hown, hts, hnm, kn, hA⟩ := id cx
  have hl : lv_has ls 4 [(0, .ref (am 0)), (1, .int x), (2, .int y)] := hl
  generalize hM : m_X7_cold g x y = M at hQ
  unfold m_X7_cold at hM
  refine lv_iload_n hx hb dX7_cold_0 rfl (lv_at hl 1 rfl) ?_
  refine lv_iconst (v := 0) hx hb dX7_cold_1 (by decide) ?_
  refine lv_iconst (v := 2) hx hb dX7_cold_2 (by decide) ?_
  refine call_S (As := [.int x, .int 0, .int 2]) (rest := []) (fun X => X) Fr_id cx (c_X7_in l G _ x 0 2) fx_X7_in m_649 m_650 ⟨by decide, by decide⟩ wo rfl hl.1 rfl (Nat.le_of_ble_eq_true rfl) dX7_cold_3 ⟨by decide, by decide⟩ (fun v W1 H locs hp wo => ?_)
  obtain ⟨rfl, rfl⟩ := hp
  refine nrm_i ?_
  refine if_eq_b (tgt := 19) hx hb dX7_cold_6 (by decide) (fun c_1 => ?_) (fun c_1 => ?_)
  · skip
    rw [if_neg c_1] at hM
    refine lv_iconst (v := (-1)) hx hb dX7_cold_19 (by decide) ?_
    exact r2_i cx hQ wo dX7_cold_20 (by subst hM; exact ⟨rfl, rfl⟩)
  · skip
    rw [if_pos c_1] at hM
    have q_2 := inb (lo := 0) (hi := 2) c_1
    have q_2b := q_2.2
    refine lv_iload_n hx hb dX7_cold_9 rfl (lv_at hl 2 rfl) ?_
    refine lv_iconst (v := 1) hx hb dX7_cold_10 (by decide) ?_
    refine lv_bipush (v := 50) hx hb dX7_cold_11 (by decide) ?_
    refine call_S (As := [.int y, .int 1, .int 50]) (rest := []) (fun X => X) Fr_id cx (c_X7_in l G _ y 1 50) fx_X7_in m_649 m_650 ⟨by decide, by decide⟩ wo rfl hl.1 rfl (Nat.le_of_ble_eq_true rfl) dX7_cold_13 ⟨by decide, by decide⟩ (fun v W1 H locs hp wo => ?_)
    obtain ⟨rfl, rfl⟩ := hp
    refine nrm_i ?_
    refine if_ne_b (tgt := 21) hx hb dX7_cold_16 (by decide) (fun c_3 => ?_) (fun c_3 => ?_)
    · skip
      rw [if_pos c_3] at hM
      have q_4 := inb (lo := 1) (hi := 50) c_3
      have q_4b := q_4.2
      refine lv_aload_n hx hb dX7_cold_21 rfl (lv_at hl 0 rfl) ?_
      refine lv_iconst (v := 4) hx hb dX7_cold_22 (by decide) ?_
      refine lv_iconst (v := 4) hx hb dX7_cold_23 (by decide) ?_
      refine lv_iload_n hx hb dX7_cold_24 rfl (lv_at hl 1 rfl) ?_
      refine tope (y := (nI (x.toNatClampNeg))) q_2.1 ?_
      refine lv_imul hx hb dX7_cold_25 ?_
      refine tope (y := (nI (4 * x.toNatClampNeg))) (mi (a := 4) (b := x.toNatClampNeg) rfl rfl (by omega)) ?_
      refine lv_iadd hx hb dX7_cold_26 ?_
      refine tope (y := (nI (4 + 4 * x.toNatClampNeg))) (ai (a := 4) (b := 4 * x.toNatClampNeg) rfl rfl (by omega)) ?_
      refine call_V (As := [.int (nI (4 + 4 * x.toNatClampNeg))]) (rest := []) (fun X => X) Fr_id cx (c_X7_sum l G am _ _ _ (a := 4 + 4 * x.toNatClampNeg) (by omega)) fx_X7_sum m_656 m_658 m_19 ⟨by decide, by decide⟩ wo (k := 0) rfl rfl rfl rfl hl.1 rfl (Nat.le_of_ble_eq_true rfl) dX7_cold_27 ⟨by decide, by decide⟩ (fun v W1 H locs hp wo => ?_)
      obtain ⟨rfl, rfl⟩ := hp
      refine nrm_i ?_
      refine lv_istore_n (lv' := [(3, .int (m_X7_sum g (4 + 4 * x.toNatClampNeg))), (0, .ref (am 0)), (1, .int x), (2, .int y)]) hx hb dX7_cold_30 rfl hl (by decide) rfl (fun ls hl => ?_)
      refine lv_iload_n hx hb dX7_cold_31 rfl (lv_at hl 0 rfl) ?_
      refine lv_if_eq (tgt := 44) hx hb dX7_cold_32 (by decide) (fun c_5 => ?_) (fun c_5 => ?_)
      · skip
        rw [if_pos c_5] at hM
        refine lv_bipush (v := (-2)) hx hb dX7_cold_44 (by decide) ?_
        exact r2_i cx hQ wo dX7_cold_46 (by subst hM; exact ⟨rfl, rfl⟩)
      · skip
        rw [if_neg c_5] at hM
        refine lv_iload_n hx hb dX7_cold_35 rfl (lv_at hl 0 rfl) ?_
        refine lv_iload_n hx hb dX7_cold_36 rfl (lv_at hl 3 rfl) ?_
        refine tope (y := (nI (y.toNatClampNeg))) q_4.1 ?_
        refine lv_iadd hx hb dX7_cold_37 ?_
        refine lv_sipush (v := 300) hx hb dX7_cold_38 (by decide) ?_
        refine lv_icmp_le (tgt := 47) hx hb dX7_cold_41 (by decide) (fun c_6 => ?_) (fun c_6 => ?_)
        · skip
          rw [if_pos c_6] at hM
          refine lv_aload_n hx hb dX7_cold_47 rfl (lv_at hl 1 rfl) ?_
          refine mg_st cx wo m_631 dX7_cold_48 ?_
          refine lv_bipush (v := 76) hx hb dX7_cold_51 (by decide) ?_
          refine lv_iload_n hx hb dX7_cold_53 rfl (lv_at hl 2 rfl) ?_
          refine tope (y := (nI (x.toNatClampNeg))) q_2.1 ?_
          refine lv_iadd hx hb dX7_cold_54 ?_
          refine tope (y := (nI (76 + x.toNatClampNeg))) (ai (a := 76) (b := x.toNatClampNeg) rfl rfl (by omega)) ?_
          refine lv_aload_n hx hb dX7_cold_55 rfl (lv_at hl 1 rfl) ?_
          refine mg_st cx wo m_631 dX7_cold_56 ?_
          refine lv_bipush (v := 76) hx hb dX7_cold_59 (by decide) ?_
          refine lv_iload_n hx hb dX7_cold_61 rfl (lv_at hl 2 rfl) ?_
          refine tope (y := (nI (x.toNatClampNeg))) q_2.1 ?_
          refine lv_iadd hx hb dX7_cold_62 ?_
          refine tope (y := (nI (76 + x.toNatClampNeg))) (ai (a := 76) (b := x.toNatClampNeg) rfl rfl (by omega)) ?_
          refine ml_st (n := 76 + x.toNatClampNeg) cx wo rfl (by omega) dX7_cold_63 ?_
          refine lv_iload_n hx hb dX7_cold_64 rfl (lv_at hl 0 rfl) ?_
          refine lv_imul hx hb dX7_cold_65 ?_
          refine lv_iload_n hx hb dX7_cold_66 rfl (lv_at hl 0 rfl) ?_
          refine lv_iload_n hx hb dX7_cold_67 rfl (lv_at hl 3 rfl) ?_
          refine tope (y := (nI (y.toNatClampNeg))) q_4.1 ?_
          refine lv_iadd hx hb dX7_cold_68 ?_
          refine lv_idiv hx hb dX7_cold_69 (hz _ _ (by omega) (by omega) (by omega) c_5 c_6) ?_
          refine ms_st (n := 76 + x.toNatClampNeg) cx wo rfl (by omega) dX7_cold_70 (fun H locs gz hgz wo => ?_)
          subst hgz
          refine lv_aload_n hx hb dX7_cold_71 rfl (lv_at hl 1 rfl) ?_
          refine mg_st cx wo m_631 dX7_cold_72 ?_
          refine lv_iconst (v := 4) hx hb dX7_cold_75 (by decide) ?_
          refine lv_iconst (v := 4) hx hb dX7_cold_76 (by decide) ?_
          refine lv_iload_n hx hb dX7_cold_77 rfl (lv_at hl 2 rfl) ?_
          refine tope (y := (nI (x.toNatClampNeg))) q_2.1 ?_
          refine lv_imul hx hb dX7_cold_78 ?_
          refine tope (y := (nI (4 * x.toNatClampNeg))) (mi (a := 4) (b := x.toNatClampNeg) rfl rfl (by omega)) ?_
          refine lv_iadd hx hb dX7_cold_79 ?_
          refine tope (y := (nI (4 + 4 * x.toNatClampNeg))) (ai (a := 4) (b := 4 * x.toNatClampNeg) rfl rfl (by omega)) ?_
          refine lv_dup2_11 hx hb dX7_cold_80 rfl rfl ?_
          refine ml_st (n := 4 + 4 * x.toNatClampNeg) cx wo rfl (by omega) dX7_cold_81 ?_
          refine tope (y := (g (4 + 4 * x.toNatClampNeg))) (show (upd g (76 + x.toNatClampNeg) (((g (76 + x.toNatClampNeg)) * (m_X7_sum g (4 + 4 * x.toNatClampNeg))) / ((m_X7_sum g (4 + 4 * x.toNatClampNeg)) + (nI (y.toNatClampNeg))))) (4 + 4 * x.toNatClampNeg) = (g (4 + 4 * x.toNatClampNeg)) from (rdN (by omega) rfl)) ?_
          refine lv_iload_n hx hb dX7_cold_82 rfl (lv_at hl 3 rfl) ?_
          refine tope (y := (nI (y.toNatClampNeg))) q_4.1 ?_
          refine lv_iadd hx hb dX7_cold_83 ?_
          refine ms_st (n := 4 + 4 * x.toNatClampNeg) cx wo rfl (by omega) dX7_cold_84 (fun H locs gz hgz wo => ?_)
          subst hgz
          refine lv_aload_n hx hb dX7_cold_85 rfl (lv_at hl 1 rfl) ?_
          refine mg_st cx wo m_631 dX7_cold_86 ?_
          refine lv_bipush (v := 64) hx hb dX7_cold_89 (by decide) ?_
          refine lv_dup2_11 hx hb dX7_cold_91 rfl rfl ?_
          refine ml_st (n := 64) cx wo rfl (by omega) dX7_cold_92 ?_
          refine tope (y := (g 64)) (show (upd (upd g (76 + x.toNatClampNeg) (((g (76 + x.toNatClampNeg)) * (m_X7_sum g (4 + 4 * x.toNatClampNeg))) / ((m_X7_sum g (4 + 4 * x.toNatClampNeg)) + (nI (y.toNatClampNeg))))) (4 + 4 * x.toNatClampNeg) ((g (4 + 4 * x.toNatClampNeg)) + (nI (y.toNatClampNeg)))) 64 = (g 64) from (rdN (by omega) (rdN (by omega) rfl))) ?_
          refine lv_iload_n hx hb dX7_cold_93 rfl (lv_at hl 3 rfl) ?_
          refine tope (y := (nI (y.toNatClampNeg))) q_4.1 ?_
          refine lv_iadd hx hb dX7_cold_94 ?_
          refine ms_st (n := 64) cx wo rfl (by omega) dX7_cold_95 (fun H locs gz hgz wo => ?_)
          subst hgz
          refine lv_aload_n hx hb dX7_cold_96 rfl (lv_at hl 1 rfl) ?_
          refine mg_st cx wo m_631 dX7_cold_97 ?_
          refine lv_bipush (v := 76) hx hb dX7_cold_100 (by decide) ?_
          refine lv_iload_n hx hb dX7_cold_102 rfl (lv_at hl 2 rfl) ?_
          refine tope (y := (nI (x.toNatClampNeg))) q_2.1 ?_
          refine lv_iadd hx hb dX7_cold_103 ?_
          refine tope (y := (nI (76 + x.toNatClampNeg))) (ai (a := 76) (b := x.toNatClampNeg) rfl rfl (by omega)) ?_
          refine ml_st (n := 76 + x.toNatClampNeg) cx wo rfl (by omega) dX7_cold_104 ?_
          refine tope (y := (((g (76 + x.toNatClampNeg)) * (m_X7_sum g (4 + 4 * x.toNatClampNeg))) / ((m_X7_sum g (4 + 4 * x.toNatClampNeg)) + (nI (y.toNatClampNeg))))) (show (upd (upd (upd g (76 + x.toNatClampNeg) (((g (76 + x.toNatClampNeg)) * (m_X7_sum g (4 + 4 * x.toNatClampNeg))) / ((m_X7_sum g (4 + 4 * x.toNatClampNeg)) + (nI (y.toNatClampNeg))))) (4 + 4 * x.toNatClampNeg) ((g (4 + 4 * x.toNatClampNeg)) + (nI (y.toNatClampNeg)))) 64 ((g 64) + (nI (y.toNatClampNeg)))) (76 + x.toNatClampNeg) = (((g (76 + x.toNatClampNeg)) * (m_X7_sum g (4 + 4 * x.toNatClampNeg))) / ((m_X7_sum g (4 + 4 * x.toNatClampNeg)) + (nI (y.toNatClampNeg)))) from (rdN (by omega) (rdN (by omega) (rdS (by omega))))) ?_
          exact r2_i cx hQ wo dX7_cold_105 (by subst hM; exact ⟨rfl, rfl⟩)
        · skip
          rw [if_neg c_6] at hM
          refine lv_bipush (v := (-2)) hx hb dX7_cold_44 (by decide) ?_
          exact r2_i cx hQ wo dX7_cold_46 (by subst hM; exact ⟨rfl, rfl⟩)
    · skip
      rw [if_neg c_3] at hM
      refine lv_iconst (v := (-1)) hx hb dX7_cold_19 (by decide) ?_
      exact r2_i cx hQ wo dX7_cold_20 (by subst hM; exact ⟨rfl, rfl⟩)
abbrev rm_X7_order : Room := { frames := 1, cells := 0, slots := 0, locals := 22 }
def m_X7_order (g : St) (x : Int32) (y : Int32) (z : Int32) : Int32 × St :=
  if (m_X7_in x 0 1) = true then (if (m_X7_in y 0 7) = true then (if (nI (y.toNatClampNeg)) = 0 then (if (m_X7_in z 0 15) = true then (if (nI ((g (104 + x.toNatClampNeg)).toNatClampNeg)) = 8 then ((-3), g)
          else ((nI (1 + (g (104 + x.toNatClampNeg)).toNatClampNeg)), (upd (upd (upd g (108 + 16 * x.toNatClampNeg + 2 * (g (104 + x.toNatClampNeg)).toNatClampNeg) (nI (y.toNatClampNeg))) (109 + 16 * x.toNatClampNeg + 2 * (g (104 + x.toNatClampNeg)).toNatClampNeg) (nI (z.toNatClampNeg))) (104 + x.toNatClampNeg) (nI (1 + (g (104 + x.toNatClampNeg)).toNatClampNeg)))))
        else ((-1), g))
      else if (nI ((g (104 + x.toNatClampNeg)).toNatClampNeg)) = 8 then ((-3), g)
      else ((nI (1 + (g (104 + x.toNatClampNeg)).toNatClampNeg)), (upd (upd (upd g (108 + 16 * x.toNatClampNeg + 2 * (g (104 + x.toNatClampNeg)).toNatClampNeg) (nI (y.toNatClampNeg))) (109 + 16 * x.toNatClampNeg + 2 * (g (104 + x.toNatClampNeg)).toNatClampNeg) z) (104 + x.toNatClampNeg) (nI (1 + (g (104 + x.toNatClampNeg)).toNatClampNeg)))))
    else ((-1), g))
  else ((-1), g)
set_option maxHeartbeats 4000000 in
set_option maxRecDepth 100000 in
theorem c_X7_order (l : Launch) (G : GG) (am : Nat → Nat) (g kf : St) (nk : Int32) (x : Int32) (y : Int32) (z : Int32) (hq : ∀ r, r < 2 → g (104 + r) = nI (g (104 + r)).toNatClampNeg ∧ (g (104 + r)).toNatClampNeg ≤ 8) : Ct l G yX7_order cX7_order 4 (some Jvm.ClassFile.FieldType.int) rm_X7_order [.ref (am 0), .int x, .int y, .int z] (mw G am g kf nk) (fun rv W1 => rv = some (.int (m_X7_order g x y z).1) ∧ W1 = mw G am (m_X7_order g x y z).2 kf nk) := by
  refine Ct.mk2 (by decide) (Nat.le_of_ble_eq_true rfl) ?_
  intro p e s m args below meth c A H locs ls Q cx wo hl hQ
  obtain ⟨hx, hb, hml, hr, hlo, hown, hts, hnm, kn, hA⟩ := id cx
  have hl : lv_has ls 4 [(0, .ref (am 0)), (1, .int x), (2, .int y), (3, .int z)] := hl
  generalize hM : m_X7_order g x y z = M at hQ
  unfold m_X7_order at hM
  refine lv_iload_n hx hb dX7_order_0 rfl (lv_at hl 1 rfl) ?_
  refine lv_iconst (v := 0) hx hb dX7_order_1 (by decide) ?_
  refine lv_iconst (v := 1) hx hb dX7_order_2 (by decide) ?_
  refine call_S (As := [.int x, .int 0, .int 1]) (rest := []) (fun X => X) Fr_id cx (c_X7_in l G _ x 0 1) fx_X7_in m_649 m_650 ⟨by decide, by decide⟩ wo rfl hl.1 rfl (Nat.le_of_ble_eq_true rfl) dX7_order_3 ⟨by decide, by decide⟩ (fun v W1 H locs hp wo => ?_)
  obtain ⟨rfl, rfl⟩ := hp
  refine nrm_i ?_
  refine if_eq_b (tgt := 33) hx hb dX7_order_6 (by decide) (fun c_1 => ?_) (fun c_1 => ?_)
  · skip
    rw [if_neg c_1] at hM
    refine lv_iconst (v := (-1)) hx hb dX7_order_33 (by decide) ?_
    exact r2_i cx hQ wo dX7_order_34 (by subst hM; exact ⟨rfl, rfl⟩)
  · skip
    rw [if_pos c_1] at hM
    have q_2 := inb (lo := 0) (hi := 1) c_1
    have q_2b := q_2.2
    have q_3 := hq x.toNatClampNeg (by omega)
    have q_3b := q_3.2
    refine lv_iload_n hx hb dX7_order_9 rfl (lv_at hl 2 rfl) ?_
    refine lv_iconst (v := 0) hx hb dX7_order_10 (by decide) ?_
    refine lv_bipush (v := 7) hx hb dX7_order_11 (by decide) ?_
    refine call_S (As := [.int y, .int 0, .int 7]) (rest := []) (fun X => X) Fr_id cx (c_X7_in l G _ y 0 7) fx_X7_in m_649 m_650 ⟨by decide, by decide⟩ wo rfl hl.1 rfl (Nat.le_of_ble_eq_true rfl) dX7_order_13 ⟨by decide, by decide⟩ (fun v W1 H locs hp wo => ?_)
    obtain ⟨rfl, rfl⟩ := hp
    refine nrm_i ?_
    refine if_eq_b (tgt := 33) hx hb dX7_order_16 (by decide) (fun c_4 => ?_) (fun c_4 => ?_)
    · skip
      rw [if_neg c_4] at hM
      refine lv_iconst (v := (-1)) hx hb dX7_order_33 (by decide) ?_
      exact r2_i cx hQ wo dX7_order_34 (by subst hM; exact ⟨rfl, rfl⟩)
    · skip
      rw [if_pos c_4] at hM
      have q_5 := inb (lo := 0) (hi := 7) c_4
      have q_5b := q_5.2
      refine lv_iload_n hx hb dX7_order_19 rfl (lv_at hl 2 rfl) ?_
      refine tope (y := (nI (y.toNatClampNeg))) q_5.1 ?_
      refine lv_if_ne (tgt := 35) hx hb dX7_order_20 (by decide) (fun c_6 => ?_) (fun c_6 => ?_)
      · skip
        rw [if_neg c_6] at hM
        have c_6n := ne_nI (k := 0) c_6
        refine lv_aload_n hx hb dX7_order_35 rfl (lv_at hl 0 rfl) ?_
        refine mg_st cx wo m_631 dX7_order_36 ?_
        refine lv_bipush (v := 104) hx hb dX7_order_39 (by decide) ?_
        refine lv_iload_n hx hb dX7_order_41 rfl (lv_at hl 1 rfl) ?_
        refine tope (y := (nI (x.toNatClampNeg))) q_2.1 ?_
        refine lv_iadd hx hb dX7_order_42 ?_
        refine tope (y := (nI (104 + x.toNatClampNeg))) (ai (a := 104) (b := x.toNatClampNeg) rfl rfl (by omega)) ?_
        refine ml_st (n := 104 + x.toNatClampNeg) cx wo rfl (by omega) dX7_order_43 ?_
        refine tope (y := (nI ((g (104 + x.toNatClampNeg)).toNatClampNeg))) q_3.1 ?_
        refine lv_bipush (v := 8) hx hb dX7_order_44 (by decide) ?_
        refine lv_icmp_ne (tgt := 52) hx hb dX7_order_46 (by decide) (fun c_7 => ?_) (fun c_7 => ?_)
        · skip
          rw [if_neg c_7] at hM
          have c_7n := ne_nI (k := 8) c_7
          refine lv_aload_n hx hb dX7_order_52 rfl (lv_at hl 0 rfl) ?_
          refine mg_st cx wo m_631 dX7_order_53 ?_
          refine lv_bipush (v := 108) hx hb dX7_order_56 (by decide) ?_
          refine lv_bipush (v := 16) hx hb dX7_order_58 (by decide) ?_
          refine lv_iload_n hx hb dX7_order_60 rfl (lv_at hl 1 rfl) ?_
          refine tope (y := (nI (x.toNatClampNeg))) q_2.1 ?_
          refine lv_imul hx hb dX7_order_61 ?_
          refine tope (y := (nI (16 * x.toNatClampNeg))) (mi (a := 16) (b := x.toNatClampNeg) rfl rfl (by omega)) ?_
          refine lv_iadd hx hb dX7_order_62 ?_
          refine tope (y := (nI (108 + 16 * x.toNatClampNeg))) (ai (a := 108) (b := 16 * x.toNatClampNeg) rfl rfl (by omega)) ?_
          refine lv_iconst (v := 2) hx hb dX7_order_63 (by decide) ?_
          refine lv_aload_n hx hb dX7_order_64 rfl (lv_at hl 0 rfl) ?_
          refine mg_st cx wo m_631 dX7_order_65 ?_
          refine lv_bipush (v := 104) hx hb dX7_order_68 (by decide) ?_
          refine lv_iload_n hx hb dX7_order_70 rfl (lv_at hl 1 rfl) ?_
          refine tope (y := (nI (x.toNatClampNeg))) q_2.1 ?_
          refine lv_iadd hx hb dX7_order_71 ?_
          refine tope (y := (nI (104 + x.toNatClampNeg))) (ai (a := 104) (b := x.toNatClampNeg) rfl rfl (by omega)) ?_
          refine ml_st (n := 104 + x.toNatClampNeg) cx wo rfl (by omega) dX7_order_72 ?_
          refine tope (y := (nI ((g (104 + x.toNatClampNeg)).toNatClampNeg))) q_3.1 ?_
          refine lv_imul hx hb dX7_order_73 ?_
          refine tope (y := (nI (2 * (g (104 + x.toNatClampNeg)).toNatClampNeg))) (mi (a := 2) (b := (g (104 + x.toNatClampNeg)).toNatClampNeg) rfl rfl (by omega)) ?_
          refine lv_iadd hx hb dX7_order_74 ?_
          refine tope (y := (nI (108 + 16 * x.toNatClampNeg + 2 * (g (104 + x.toNatClampNeg)).toNatClampNeg))) (ai (a := 108 + 16 * x.toNatClampNeg) (b := 2 * (g (104 + x.toNatClampNeg)).toNatClampNeg) rfl rfl (by omega)) ?_
          refine lv_iload_n hx hb dX7_order_75 rfl (lv_at hl 2 rfl) ?_
          refine tope (y := (nI (y.toNatClampNeg))) q_5.1 ?_
          refine ms_st (n := 108 + 16 * x.toNatClampNeg + 2 * (g (104 + x.toNatClampNeg)).toNatClampNeg) cx wo rfl (by omega) dX7_order_76 (fun H locs gz hgz wo => ?_)
          subst hgz
          refine lv_aload_n hx hb dX7_order_77 rfl (lv_at hl 0 rfl) ?_
          refine mg_st cx wo m_631 dX7_order_78 ?_
          refine lv_bipush (v := 108) hx hb dX7_order_81 (by decide) ?_
          refine lv_bipush (v := 16) hx hb dX7_order_83 (by decide) ?_
          refine lv_iload_n hx hb dX7_order_85 rfl (lv_at hl 1 rfl) ?_
          refine tope (y := (nI (x.toNatClampNeg))) q_2.1 ?_
          refine lv_imul hx hb dX7_order_86 ?_
          refine tope (y := (nI (16 * x.toNatClampNeg))) (mi (a := 16) (b := x.toNatClampNeg) rfl rfl (by omega)) ?_
          refine lv_iadd hx hb dX7_order_87 ?_
          refine tope (y := (nI (108 + 16 * x.toNatClampNeg))) (ai (a := 108) (b := 16 * x.toNatClampNeg) rfl rfl (by omega)) ?_
          refine lv_iconst (v := 2) hx hb dX7_order_88 (by decide) ?_
          refine lv_aload_n hx hb dX7_order_89 rfl (lv_at hl 0 rfl) ?_
          refine mg_st cx wo m_631 dX7_order_90 ?_
          refine lv_bipush (v := 104) hx hb dX7_order_93 (by decide) ?_
          refine lv_iload_n hx hb dX7_order_95 rfl (lv_at hl 1 rfl) ?_
          refine tope (y := (nI (x.toNatClampNeg))) q_2.1 ?_
          refine lv_iadd hx hb dX7_order_96 ?_
          refine tope (y := (nI (104 + x.toNatClampNeg))) (ai (a := 104) (b := x.toNatClampNeg) rfl rfl (by omega)) ?_
          refine ml_st (n := 104 + x.toNatClampNeg) cx wo rfl (by omega) dX7_order_97 ?_
          refine tope (y := (g (104 + x.toNatClampNeg))) (show (upd g (108 + 16 * x.toNatClampNeg + 2 * (g (104 + x.toNatClampNeg)).toNatClampNeg) (nI (y.toNatClampNeg))) (104 + x.toNatClampNeg) = (g (104 + x.toNatClampNeg)) from (rdN (by omega) rfl)) ?_
          refine tope (y := (nI ((g (104 + x.toNatClampNeg)).toNatClampNeg))) q_3.1 ?_
          refine lv_imul hx hb dX7_order_98 ?_
          refine tope (y := (nI (2 * (g (104 + x.toNatClampNeg)).toNatClampNeg))) (mi (a := 2) (b := (g (104 + x.toNatClampNeg)).toNatClampNeg) rfl rfl (by omega)) ?_
          refine lv_iadd hx hb dX7_order_99 ?_
          refine tope (y := (nI (108 + 16 * x.toNatClampNeg + 2 * (g (104 + x.toNatClampNeg)).toNatClampNeg))) (ai (a := 108 + 16 * x.toNatClampNeg) (b := 2 * (g (104 + x.toNatClampNeg)).toNatClampNeg) rfl rfl (by omega)) ?_
          refine lv_iconst (v := 1) hx hb dX7_order_100 (by decide) ?_
          refine lv_iadd hx hb dX7_order_101 ?_
          refine tope (y := (nI (109 + 16 * x.toNatClampNeg + 2 * (g (104 + x.toNatClampNeg)).toNatClampNeg))) (ai (a := 108 + 16 * x.toNatClampNeg + 2 * (g (104 + x.toNatClampNeg)).toNatClampNeg) (b := 1) rfl rfl (by omega)) ?_
          refine lv_iload_n hx hb dX7_order_102 rfl (lv_at hl 3 rfl) ?_
          refine ms_st (n := 109 + 16 * x.toNatClampNeg + 2 * (g (104 + x.toNatClampNeg)).toNatClampNeg) cx wo rfl (by omega) dX7_order_103 (fun H locs gz hgz wo => ?_)
          subst hgz
          refine lv_aload_n hx hb dX7_order_104 rfl (lv_at hl 0 rfl) ?_
          refine mg_st cx wo m_631 dX7_order_105 ?_
          refine lv_bipush (v := 104) hx hb dX7_order_108 (by decide) ?_
          refine lv_iload_n hx hb dX7_order_110 rfl (lv_at hl 1 rfl) ?_
          refine tope (y := (nI (x.toNatClampNeg))) q_2.1 ?_
          refine lv_iadd hx hb dX7_order_111 ?_
          refine tope (y := (nI (104 + x.toNatClampNeg))) (ai (a := 104) (b := x.toNatClampNeg) rfl rfl (by omega)) ?_
          refine lv_dup2_11 hx hb dX7_order_112 rfl rfl ?_
          refine ml_st (n := 104 + x.toNatClampNeg) cx wo rfl (by omega) dX7_order_113 ?_
          refine tope (y := (g (104 + x.toNatClampNeg))) (show (upd (upd g (108 + 16 * x.toNatClampNeg + 2 * (g (104 + x.toNatClampNeg)).toNatClampNeg) (nI (y.toNatClampNeg))) (109 + 16 * x.toNatClampNeg + 2 * (g (104 + x.toNatClampNeg)).toNatClampNeg) z) (104 + x.toNatClampNeg) = (g (104 + x.toNatClampNeg)) from (rdN (by omega) (rdN (by omega) rfl))) ?_
          refine tope (y := (nI ((g (104 + x.toNatClampNeg)).toNatClampNeg))) q_3.1 ?_
          refine lv_iconst (v := 1) hx hb dX7_order_114 (by decide) ?_
          refine lv_iadd hx hb dX7_order_115 ?_
          refine tope (y := (nI (1 + (g (104 + x.toNatClampNeg)).toNatClampNeg))) (ai (a := (g (104 + x.toNatClampNeg)).toNatClampNeg) (b := 1) rfl rfl (by omega)) ?_
          refine ms_st (n := 104 + x.toNatClampNeg) cx wo rfl (by omega) dX7_order_116 (fun H locs gz hgz wo => ?_)
          subst hgz
          refine lv_aload_n hx hb dX7_order_117 rfl (lv_at hl 0 rfl) ?_
          refine mg_st cx wo m_631 dX7_order_118 ?_
          refine lv_bipush (v := 104) hx hb dX7_order_121 (by decide) ?_
          refine lv_iload_n hx hb dX7_order_123 rfl (lv_at hl 1 rfl) ?_
          refine tope (y := (nI (x.toNatClampNeg))) q_2.1 ?_
          refine lv_iadd hx hb dX7_order_124 ?_
          refine tope (y := (nI (104 + x.toNatClampNeg))) (ai (a := 104) (b := x.toNatClampNeg) rfl rfl (by omega)) ?_
          refine ml_st (n := 104 + x.toNatClampNeg) cx wo rfl (by omega) dX7_order_125 ?_
          refine tope (y := (nI (1 + (g (104 + x.toNatClampNeg)).toNatClampNeg))) (show (upd (upd (upd g (108 + 16 * x.toNatClampNeg + 2 * (g (104 + x.toNatClampNeg)).toNatClampNeg) (nI (y.toNatClampNeg))) (109 + 16 * x.toNatClampNeg + 2 * (g (104 + x.toNatClampNeg)).toNatClampNeg) z) (104 + x.toNatClampNeg) (nI (1 + (g (104 + x.toNatClampNeg)).toNatClampNeg))) (104 + x.toNatClampNeg) = (nI (1 + (g (104 + x.toNatClampNeg)).toNatClampNeg)) from (rdS (by omega))) ?_
          exact r2_i cx hQ wo dX7_order_126 (by subst hM; exact ⟨rfl, rfl⟩)
        · skip
          rw [if_pos c_7] at hM
          refine lv_bipush (v := (-3)) hx hb dX7_order_49 (by decide) ?_
          exact r2_i cx hQ wo dX7_order_51 (by subst hM; exact ⟨rfl, rfl⟩)
      · skip
        rw [if_pos c_6] at hM
        refine lv_iload_n hx hb dX7_order_23 rfl (lv_at hl 3 rfl) ?_
        refine lv_iconst (v := 0) hx hb dX7_order_24 (by decide) ?_
        refine lv_bipush (v := 15) hx hb dX7_order_25 (by decide) ?_
        refine call_S (As := [.int z, .int 0, .int 15]) (rest := []) (fun X => X) Fr_id cx (c_X7_in l G _ z 0 15) fx_X7_in m_649 m_650 ⟨by decide, by decide⟩ wo rfl hl.1 rfl (Nat.le_of_ble_eq_true rfl) dX7_order_27 ⟨by decide, by decide⟩ (fun v W1 H locs hp wo => ?_)
        obtain ⟨rfl, rfl⟩ := hp
        refine nrm_i ?_
        refine if_ne_b (tgt := 35) hx hb dX7_order_30 (by decide) (fun c_8 => ?_) (fun c_8 => ?_)
        · skip
          rw [if_pos c_8] at hM
          have q_9 := inb (lo := 0) (hi := 15) c_8
          have q_9b := q_9.2
          refine lv_aload_n hx hb dX7_order_35 rfl (lv_at hl 0 rfl) ?_
          refine mg_st cx wo m_631 dX7_order_36 ?_
          refine lv_bipush (v := 104) hx hb dX7_order_39 (by decide) ?_
          refine lv_iload_n hx hb dX7_order_41 rfl (lv_at hl 1 rfl) ?_
          refine tope (y := (nI (x.toNatClampNeg))) q_2.1 ?_
          refine lv_iadd hx hb dX7_order_42 ?_
          refine tope (y := (nI (104 + x.toNatClampNeg))) (ai (a := 104) (b := x.toNatClampNeg) rfl rfl (by omega)) ?_
          refine ml_st (n := 104 + x.toNatClampNeg) cx wo rfl (by omega) dX7_order_43 ?_
          refine tope (y := (nI ((g (104 + x.toNatClampNeg)).toNatClampNeg))) q_3.1 ?_
          refine lv_bipush (v := 8) hx hb dX7_order_44 (by decide) ?_
          refine lv_icmp_ne (tgt := 52) hx hb dX7_order_46 (by decide) (fun c_10 => ?_) (fun c_10 => ?_)
          · skip
            rw [if_neg c_10] at hM
            have c_10n := ne_nI (k := 8) c_10
            refine lv_aload_n hx hb dX7_order_52 rfl (lv_at hl 0 rfl) ?_
            refine mg_st cx wo m_631 dX7_order_53 ?_
            refine lv_bipush (v := 108) hx hb dX7_order_56 (by decide) ?_
            refine lv_bipush (v := 16) hx hb dX7_order_58 (by decide) ?_
            refine lv_iload_n hx hb dX7_order_60 rfl (lv_at hl 1 rfl) ?_
            refine tope (y := (nI (x.toNatClampNeg))) q_2.1 ?_
            refine lv_imul hx hb dX7_order_61 ?_
            refine tope (y := (nI (16 * x.toNatClampNeg))) (mi (a := 16) (b := x.toNatClampNeg) rfl rfl (by omega)) ?_
            refine lv_iadd hx hb dX7_order_62 ?_
            refine tope (y := (nI (108 + 16 * x.toNatClampNeg))) (ai (a := 108) (b := 16 * x.toNatClampNeg) rfl rfl (by omega)) ?_
            refine lv_iconst (v := 2) hx hb dX7_order_63 (by decide) ?_
            refine lv_aload_n hx hb dX7_order_64 rfl (lv_at hl 0 rfl) ?_
            refine mg_st cx wo m_631 dX7_order_65 ?_
            refine lv_bipush (v := 104) hx hb dX7_order_68 (by decide) ?_
            refine lv_iload_n hx hb dX7_order_70 rfl (lv_at hl 1 rfl) ?_
            refine tope (y := (nI (x.toNatClampNeg))) q_2.1 ?_
            refine lv_iadd hx hb dX7_order_71 ?_
            refine tope (y := (nI (104 + x.toNatClampNeg))) (ai (a := 104) (b := x.toNatClampNeg) rfl rfl (by omega)) ?_
            refine ml_st (n := 104 + x.toNatClampNeg) cx wo rfl (by omega) dX7_order_72 ?_
            refine tope (y := (nI ((g (104 + x.toNatClampNeg)).toNatClampNeg))) q_3.1 ?_
            refine lv_imul hx hb dX7_order_73 ?_
            refine tope (y := (nI (2 * (g (104 + x.toNatClampNeg)).toNatClampNeg))) (mi (a := 2) (b := (g (104 + x.toNatClampNeg)).toNatClampNeg) rfl rfl (by omega)) ?_
            refine lv_iadd hx hb dX7_order_74 ?_
            refine tope (y := (nI (108 + 16 * x.toNatClampNeg + 2 * (g (104 + x.toNatClampNeg)).toNatClampNeg))) (ai (a := 108 + 16 * x.toNatClampNeg) (b := 2 * (g (104 + x.toNatClampNeg)).toNatClampNeg) rfl rfl (by omega)) ?_
            refine lv_iload_n hx hb dX7_order_75 rfl (lv_at hl 2 rfl) ?_
            refine tope (y := (nI (y.toNatClampNeg))) q_5.1 ?_
            refine ms_st (n := 108 + 16 * x.toNatClampNeg + 2 * (g (104 + x.toNatClampNeg)).toNatClampNeg) cx wo rfl (by omega) dX7_order_76 (fun H locs gz hgz wo => ?_)
            subst hgz
            refine lv_aload_n hx hb dX7_order_77 rfl (lv_at hl 0 rfl) ?_
            refine mg_st cx wo m_631 dX7_order_78 ?_
            refine lv_bipush (v := 108) hx hb dX7_order_81 (by decide) ?_
            refine lv_bipush (v := 16) hx hb dX7_order_83 (by decide) ?_
            refine lv_iload_n hx hb dX7_order_85 rfl (lv_at hl 1 rfl) ?_
            refine tope (y := (nI (x.toNatClampNeg))) q_2.1 ?_
            refine lv_imul hx hb dX7_order_86 ?_
            refine tope (y := (nI (16 * x.toNatClampNeg))) (mi (a := 16) (b := x.toNatClampNeg) rfl rfl (by omega)) ?_
            refine lv_iadd hx hb dX7_order_87 ?_
            refine tope (y := (nI (108 + 16 * x.toNatClampNeg))) (ai (a := 108) (b := 16 * x.toNatClampNeg) rfl rfl (by omega)) ?_
            refine lv_iconst (v := 2) hx hb dX7_order_88 (by decide) ?_
            refine lv_aload_n hx hb dX7_order_89 rfl (lv_at hl 0 rfl) ?_
            refine mg_st cx wo m_631 dX7_order_90 ?_
            refine lv_bipush (v := 104) hx hb dX7_order_93 (by decide) ?_
            refine lv_iload_n hx hb dX7_order_95 rfl (lv_at hl 1 rfl) ?_
            refine tope (y := (nI (x.toNatClampNeg))) q_2.1 ?_
            refine lv_iadd hx hb dX7_order_96 ?_
            refine tope (y := (nI (104 + x.toNatClampNeg))) (ai (a := 104) (b := x.toNatClampNeg) rfl rfl (by omega)) ?_
            refine ml_st (n := 104 + x.toNatClampNeg) cx wo rfl (by omega) dX7_order_97 ?_
            refine tope (y := (g (104 + x.toNatClampNeg))) (show (upd g (108 + 16 * x.toNatClampNeg + 2 * (g (104 + x.toNatClampNeg)).toNatClampNeg) (nI (y.toNatClampNeg))) (104 + x.toNatClampNeg) = (g (104 + x.toNatClampNeg)) from (rdN (by omega) rfl)) ?_
            refine tope (y := (nI ((g (104 + x.toNatClampNeg)).toNatClampNeg))) q_3.1 ?_
            refine lv_imul hx hb dX7_order_98 ?_
            refine tope (y := (nI (2 * (g (104 + x.toNatClampNeg)).toNatClampNeg))) (mi (a := 2) (b := (g (104 + x.toNatClampNeg)).toNatClampNeg) rfl rfl (by omega)) ?_
            refine lv_iadd hx hb dX7_order_99 ?_
            refine tope (y := (nI (108 + 16 * x.toNatClampNeg + 2 * (g (104 + x.toNatClampNeg)).toNatClampNeg))) (ai (a := 108 + 16 * x.toNatClampNeg) (b := 2 * (g (104 + x.toNatClampNeg)).toNatClampNeg) rfl rfl (by omega)) ?_
            refine lv_iconst (v := 1) hx hb dX7_order_100 (by decide) ?_
            refine lv_iadd hx hb dX7_order_101 ?_
            refine tope (y := (nI (109 + 16 * x.toNatClampNeg + 2 * (g (104 + x.toNatClampNeg)).toNatClampNeg))) (ai (a := 108 + 16 * x.toNatClampNeg + 2 * (g (104 + x.toNatClampNeg)).toNatClampNeg) (b := 1) rfl rfl (by omega)) ?_
            refine lv_iload_n hx hb dX7_order_102 rfl (lv_at hl 3 rfl) ?_
            refine tope (y := (nI (z.toNatClampNeg))) q_9.1 ?_
            refine ms_st (n := 109 + 16 * x.toNatClampNeg + 2 * (g (104 + x.toNatClampNeg)).toNatClampNeg) cx wo rfl (by omega) dX7_order_103 (fun H locs gz hgz wo => ?_)
            subst hgz
            refine lv_aload_n hx hb dX7_order_104 rfl (lv_at hl 0 rfl) ?_
            refine mg_st cx wo m_631 dX7_order_105 ?_
            refine lv_bipush (v := 104) hx hb dX7_order_108 (by decide) ?_
            refine lv_iload_n hx hb dX7_order_110 rfl (lv_at hl 1 rfl) ?_
            refine tope (y := (nI (x.toNatClampNeg))) q_2.1 ?_
            refine lv_iadd hx hb dX7_order_111 ?_
            refine tope (y := (nI (104 + x.toNatClampNeg))) (ai (a := 104) (b := x.toNatClampNeg) rfl rfl (by omega)) ?_
            refine lv_dup2_11 hx hb dX7_order_112 rfl rfl ?_
            refine ml_st (n := 104 + x.toNatClampNeg) cx wo rfl (by omega) dX7_order_113 ?_
            refine tope (y := (g (104 + x.toNatClampNeg))) (show (upd (upd g (108 + 16 * x.toNatClampNeg + 2 * (g (104 + x.toNatClampNeg)).toNatClampNeg) (nI (y.toNatClampNeg))) (109 + 16 * x.toNatClampNeg + 2 * (g (104 + x.toNatClampNeg)).toNatClampNeg) (nI (z.toNatClampNeg))) (104 + x.toNatClampNeg) = (g (104 + x.toNatClampNeg)) from (rdN (by omega) (rdN (by omega) rfl))) ?_
            refine tope (y := (nI ((g (104 + x.toNatClampNeg)).toNatClampNeg))) q_3.1 ?_
            refine lv_iconst (v := 1) hx hb dX7_order_114 (by decide) ?_
            refine lv_iadd hx hb dX7_order_115 ?_
            refine tope (y := (nI (1 + (g (104 + x.toNatClampNeg)).toNatClampNeg))) (ai (a := (g (104 + x.toNatClampNeg)).toNatClampNeg) (b := 1) rfl rfl (by omega)) ?_
            refine ms_st (n := 104 + x.toNatClampNeg) cx wo rfl (by omega) dX7_order_116 (fun H locs gz hgz wo => ?_)
            subst hgz
            refine lv_aload_n hx hb dX7_order_117 rfl (lv_at hl 0 rfl) ?_
            refine mg_st cx wo m_631 dX7_order_118 ?_
            refine lv_bipush (v := 104) hx hb dX7_order_121 (by decide) ?_
            refine lv_iload_n hx hb dX7_order_123 rfl (lv_at hl 1 rfl) ?_
            refine tope (y := (nI (x.toNatClampNeg))) q_2.1 ?_
            refine lv_iadd hx hb dX7_order_124 ?_
            refine tope (y := (nI (104 + x.toNatClampNeg))) (ai (a := 104) (b := x.toNatClampNeg) rfl rfl (by omega)) ?_
            refine ml_st (n := 104 + x.toNatClampNeg) cx wo rfl (by omega) dX7_order_125 ?_
            refine tope (y := (nI (1 + (g (104 + x.toNatClampNeg)).toNatClampNeg))) (show (upd (upd (upd g (108 + 16 * x.toNatClampNeg + 2 * (g (104 + x.toNatClampNeg)).toNatClampNeg) (nI (y.toNatClampNeg))) (109 + 16 * x.toNatClampNeg + 2 * (g (104 + x.toNatClampNeg)).toNatClampNeg) (nI (z.toNatClampNeg))) (104 + x.toNatClampNeg) (nI (1 + (g (104 + x.toNatClampNeg)).toNatClampNeg))) (104 + x.toNatClampNeg) = (nI (1 + (g (104 + x.toNatClampNeg)).toNatClampNeg)) from (rdS (by omega))) ?_
            exact r2_i cx hQ wo dX7_order_126 (by subst hM; exact ⟨rfl, rfl⟩)
          · skip
            rw [if_pos c_10] at hM
            refine lv_bipush (v := (-3)) hx hb dX7_order_49 (by decide) ?_
            exact r2_i cx hQ wo dX7_order_51 (by subst hM; exact ⟨rfl, rfl⟩)
        · skip
          rw [if_neg c_8] at hM
          refine lv_iconst (v := (-1)) hx hb dX7_order_33 (by decide) ?_
          exact r2_i cx hQ wo dX7_order_34 (by subst hM; exact ⟨rfl, rfl⟩)
abbrev rm_X7_drop : Room := { frames := 1, cells := 0, slots := 0, locals := 22 }
def m_X7_drop (g : St) (x : Int32) : Int32 × St :=
  if (m_X7_in x 0 1) = true then ((g (104 + x.toNatClampNeg)), (upd g (104 + x.toNatClampNeg) 0))
  else ((-1), g)
set_option maxHeartbeats 4000000 in
set_option maxRecDepth 100000 in
theorem c_X7_drop (l : Launch) (G : GG) (am : Nat → Nat) (g kf : St) (nk : Int32) (x : Int32) : Ct l G yX7_drop cX7_drop 3 (some Jvm.ClassFile.FieldType.int) rm_X7_drop [.ref (am 0), .int x] (mw G am g kf nk) (fun rv W1 => rv = some (.int (m_X7_drop g x).1) ∧ W1 = mw G am (m_X7_drop g x).2 kf nk) := by
  refine Ct.mk2 (by decide) (Nat.le_of_ble_eq_true rfl) ?_
  intro p e s m args below meth c A H locs ls Q cx wo hl hQ
  obtain ⟨hx, hb, hml, hr, hlo, hown, hts, hnm, kn, hA⟩ := id cx
  have hl : lv_has ls 3 [(0, .ref (am 0)), (1, .int x)] := hl
  generalize hM : m_X7_drop g x = M at hQ
  unfold m_X7_drop at hM
  refine lv_iload_n hx hb dX7_drop_0 rfl (lv_at hl 1 rfl) ?_
  refine lv_iconst (v := 0) hx hb dX7_drop_1 (by decide) ?_
  refine lv_iconst (v := 1) hx hb dX7_drop_2 (by decide) ?_
  refine call_S (As := [.int x, .int 0, .int 1]) (rest := []) (fun X => X) Fr_id cx (c_X7_in l G _ x 0 1) fx_X7_in m_649 m_650 ⟨by decide, by decide⟩ wo rfl hl.1 rfl (Nat.le_of_ble_eq_true rfl) dX7_drop_3 ⟨by decide, by decide⟩ (fun v W1 H locs hp wo => ?_)
  obtain ⟨rfl, rfl⟩ := hp
  refine nrm_i ?_
  refine if_ne_b (tgt := 11) hx hb dX7_drop_6 (by decide) (fun c_1 => ?_) (fun c_1 => ?_)
  · skip
    rw [if_pos c_1] at hM
    have q_2 := inb (lo := 0) (hi := 1) c_1
    have q_2b := q_2.2
    refine lv_aload_n hx hb dX7_drop_11 rfl (lv_at hl 0 rfl) ?_
    refine mg_st cx wo m_631 dX7_drop_12 ?_
    refine lv_bipush (v := 104) hx hb dX7_drop_15 (by decide) ?_
    refine lv_iload_n hx hb dX7_drop_17 rfl (lv_at hl 1 rfl) ?_
    refine tope (y := (nI (x.toNatClampNeg))) q_2.1 ?_
    refine lv_iadd hx hb dX7_drop_18 ?_
    refine tope (y := (nI (104 + x.toNatClampNeg))) (ai (a := 104) (b := x.toNatClampNeg) rfl rfl (by omega)) ?_
    refine ml_st (n := 104 + x.toNatClampNeg) cx wo rfl (by omega) dX7_drop_19 ?_
    refine lv_istore_n (lv' := [(2, .int (g (104 + x.toNatClampNeg))), (0, .ref (am 0)), (1, .int x)]) hx hb dX7_drop_20 rfl hl (by decide) rfl (fun ls hl => ?_)
    refine lv_aload_n hx hb dX7_drop_21 rfl (lv_at hl 1 rfl) ?_
    refine mg_st cx wo m_631 dX7_drop_22 ?_
    refine lv_bipush (v := 104) hx hb dX7_drop_25 (by decide) ?_
    refine lv_iload_n hx hb dX7_drop_27 rfl (lv_at hl 2 rfl) ?_
    refine tope (y := (nI (x.toNatClampNeg))) q_2.1 ?_
    refine lv_iadd hx hb dX7_drop_28 ?_
    refine tope (y := (nI (104 + x.toNatClampNeg))) (ai (a := 104) (b := x.toNatClampNeg) rfl rfl (by omega)) ?_
    refine lv_iconst (v := 0) hx hb dX7_drop_29 (by decide) ?_
    refine ms_st (n := 104 + x.toNatClampNeg) cx wo rfl (by omega) dX7_drop_30 (fun H locs gz hgz wo => ?_)
    subst hgz
    refine lv_iload_n hx hb dX7_drop_31 rfl (lv_at hl 0 rfl) ?_
    exact r2_i cx hQ wo dX7_drop_32 (by subst hM; exact ⟨rfl, rfl⟩)
  · skip
    rw [if_neg c_1] at hM
    refine lv_iconst (v := (-1)) hx hb dX7_drop_9 (by decide) ?_
    exact r2_i cx hQ wo dX7_drop_10 (by subst hM; exact ⟨rfl, rfl⟩)
abbrev rm_X7_feeds : Room := { frames := 1, cells := 0, slots := 0, locals := 21 }
def m_X7_feeds (g : St) : St :=
  if (g 149) = 0 then g
  else if ((m_X7_sum g 0) + 9) ≤ 600 then (upd (upd (upd (upd (upd (upd g 0 ((g 0) + 4)) 64 ((g 64) + 4)) 1 ((g 1) + 3)) 65 ((g 65) + 3)) 2 ((g 2) + 2)) 66 ((g 66) + 2))
  else (upd g 145 ((g 145) + 1))
set_option maxHeartbeats 4000000 in
set_option maxRecDepth 100000 in
theorem c_X7_feeds (l : Launch) (G : GG) (am : Nat → Nat) (g kf : St) (nk : Int32)  : Ct l G yX7_feeds cX7_feeds 2 (none : Option Jvm.ClassFile.FieldType) rm_X7_feeds [.ref (am 0)] (mw G am g kf nk) (fun rv W1 => rv = none ∧ W1 = mw G am (m_X7_feeds g) kf nk) := by
  refine Ct.mk2 (by decide) (Nat.le_of_ble_eq_true rfl) ?_
  intro p e s m args below meth c A H locs ls Q cx wo hl hQ
  obtain ⟨hx, hb, hml, hr, hlo, hown, hts, hnm, kn, hA⟩ := id cx
  have hl : lv_has ls 2 [(0, .ref (am 0))] := hl
  generalize hM : m_X7_feeds g = M at hQ
  unfold m_X7_feeds at hM
  refine lv_aload_n hx hb dX7_feeds_0 rfl (lv_at hl 0 rfl) ?_
  refine mg_st cx wo m_631 dX7_feeds_1 ?_
  refine lv_sipush (v := 149) hx hb dX7_feeds_4 (by decide) ?_
  refine ml_st (n := 149) cx wo rfl (by omega) dX7_feeds_7 ?_
  refine lv_if_ne (tgt := 12) hx hb dX7_feeds_8 (by decide) (fun c_1 => ?_) (fun c_1 => ?_)
  · skip
    rw [if_neg c_1] at hM
    refine lv_aload_n hx hb dX7_feeds_12 rfl (lv_at hl 0 rfl) ?_
    refine lv_iconst (v := 0) hx hb dX7_feeds_13 (by decide) ?_
    refine call_V (As := [.int 0]) (rest := []) (fun X => X) Fr_id cx (c_X7_sum l G am _ _ _ (a := 0) (by omega)) fx_X7_sum m_656 m_658 m_19 ⟨by decide, by decide⟩ wo (k := 0) rfl rfl rfl rfl hl.1 rfl (Nat.le_of_ble_eq_true rfl) dX7_feeds_14 ⟨by decide, by decide⟩ (fun v W1 H locs hp wo => ?_)
    obtain ⟨rfl, rfl⟩ := hp
    refine nrm_i ?_
    refine lv_bipush (v := 9) hx hb dX7_feeds_17 (by decide) ?_
    refine lv_iadd hx hb dX7_feeds_19 ?_
    refine lv_sipush (v := 600) hx hb dX7_feeds_20 (by decide) ?_
    refine lv_icmp_le (tgt := 39) hx hb dX7_feeds_23 (by decide) (fun c_2 => ?_) (fun c_2 => ?_)
    · skip
      rw [if_pos c_2] at hM
      refine lv_iconst (v := 0) hx hb dX7_feeds_39 (by decide) ?_
      refine lv_istore_n (lv' := [(1, .int 0), (0, .ref (am 0))]) hx hb dX7_feeds_40 rfl hl (by decide) rfl (fun ls hl => ?_)
      refine lv_iload_n hx hb dX7_feeds_41 rfl (lv_at hl 0 rfl) ?_
      refine lv_iconst (v := 3) hx hb dX7_feeds_42 (by decide) ?_
      refine lv_icmp_ge (tgt := 81) hx hb dX7_feeds_43 (by decide) (fun h => absurd h (by decide)) (fun _ => ?_)
      refine lv_aload_n hx hb dX7_feeds_46 rfl (lv_at hl 1 rfl) ?_
      refine mg_st cx wo m_631 dX7_feeds_47 ?_
      refine lv_iconst (v := 0) hx hb dX7_feeds_50 (by decide) ?_
      refine lv_iload_n hx hb dX7_feeds_51 rfl (lv_at hl 0 rfl) ?_
      refine lv_iadd hx hb dX7_feeds_52 ?_
      refine tope (y := 0) (by decide) ?_
      refine lv_dup2_11 hx hb dX7_feeds_53 rfl rfl ?_
      refine ml_st (n := 0) cx wo rfl (by omega) dX7_feeds_54 ?_
      refine lv_iconst (v := 4) hx hb dX7_feeds_55 (by decide) ?_
      refine lv_iload_n hx hb dX7_feeds_56 rfl (lv_at hl 0 rfl) ?_
      refine lv_isub hx hb dX7_feeds_57 ?_
      refine tope (y := 4) (by decide) ?_
      refine lv_iadd hx hb dX7_feeds_58 ?_
      refine ms_st (n := 0) cx wo rfl (by omega) dX7_feeds_59 (fun H locs gz hgz wo => ?_)
      subst hgz
      refine lv_aload_n hx hb dX7_feeds_60 rfl (lv_at hl 1 rfl) ?_
      refine mg_st cx wo m_631 dX7_feeds_61 ?_
      refine lv_bipush (v := 64) hx hb dX7_feeds_64 (by decide) ?_
      refine lv_iload_n hx hb dX7_feeds_66 rfl (lv_at hl 0 rfl) ?_
      refine lv_iadd hx hb dX7_feeds_67 ?_
      refine tope (y := 64) (by decide) ?_
      refine lv_dup2_11 hx hb dX7_feeds_68 rfl rfl ?_
      refine ml_st (n := 64) cx wo rfl (by omega) dX7_feeds_69 ?_
      refine tope (y := (g 64)) (show (upd g 0 ((g 0) + 4)) 64 = (g 64) from (rdN (by omega) rfl)) ?_
      refine lv_iconst (v := 4) hx hb dX7_feeds_70 (by decide) ?_
      refine lv_iload_n hx hb dX7_feeds_71 rfl (lv_at hl 0 rfl) ?_
      refine lv_isub hx hb dX7_feeds_72 ?_
      refine tope (y := 4) (by decide) ?_
      refine lv_iadd hx hb dX7_feeds_73 ?_
      refine ms_st (n := 64) cx wo rfl (by omega) dX7_feeds_74 (fun H locs gz hgz wo => ?_)
      subst hgz
      refine lv_iinc (v := 1) (lv' := [(1, .int 1), (0, .ref (am 0))]) hx hb dX7_feeds_75 hl (k := 0) rfl (by decide) (by decide) rfl (fun ls hl => ?_)
      refine lv_goto (tgt := 41) hx hb dX7_feeds_78 (by decide) ?_
      refine lv_iload_n hx hb dX7_feeds_41 rfl (lv_at hl 0 rfl) ?_
      refine lv_iconst (v := 3) hx hb dX7_feeds_42 (by decide) ?_
      refine lv_icmp_ge (tgt := 81) hx hb dX7_feeds_43 (by decide) (fun h => absurd h (by decide)) (fun _ => ?_)
      refine lv_aload_n hx hb dX7_feeds_46 rfl (lv_at hl 1 rfl) ?_
      refine mg_st cx wo m_631 dX7_feeds_47 ?_
      refine lv_iconst (v := 0) hx hb dX7_feeds_50 (by decide) ?_
      refine lv_iload_n hx hb dX7_feeds_51 rfl (lv_at hl 0 rfl) ?_
      refine lv_iadd hx hb dX7_feeds_52 ?_
      refine tope (y := 1) (by decide) ?_
      refine lv_dup2_11 hx hb dX7_feeds_53 rfl rfl ?_
      refine ml_st (n := 1) cx wo rfl (by omega) dX7_feeds_54 ?_
      refine tope (y := (g 1)) (show (upd (upd g 0 ((g 0) + 4)) 64 ((g 64) + 4)) 1 = (g 1) from (rdN (by omega) (rdN (by omega) rfl))) ?_
      refine lv_iconst (v := 4) hx hb dX7_feeds_55 (by decide) ?_
      refine lv_iload_n hx hb dX7_feeds_56 rfl (lv_at hl 0 rfl) ?_
      refine lv_isub hx hb dX7_feeds_57 ?_
      refine tope (y := 3) (by decide) ?_
      refine lv_iadd hx hb dX7_feeds_58 ?_
      refine ms_st (n := 1) cx wo rfl (by omega) dX7_feeds_59 (fun H locs gz hgz wo => ?_)
      subst hgz
      refine lv_aload_n hx hb dX7_feeds_60 rfl (lv_at hl 1 rfl) ?_
      refine mg_st cx wo m_631 dX7_feeds_61 ?_
      refine lv_bipush (v := 64) hx hb dX7_feeds_64 (by decide) ?_
      refine lv_iload_n hx hb dX7_feeds_66 rfl (lv_at hl 0 rfl) ?_
      refine lv_iadd hx hb dX7_feeds_67 ?_
      refine tope (y := 65) (by decide) ?_
      refine lv_dup2_11 hx hb dX7_feeds_68 rfl rfl ?_
      refine ml_st (n := 65) cx wo rfl (by omega) dX7_feeds_69 ?_
      refine tope (y := (g 65)) (show (upd (upd (upd g 0 ((g 0) + 4)) 64 ((g 64) + 4)) 1 ((g 1) + 3)) 65 = (g 65) from (rdN (by omega) (rdN (by omega) (rdN (by omega) rfl)))) ?_
      refine lv_iconst (v := 4) hx hb dX7_feeds_70 (by decide) ?_
      refine lv_iload_n hx hb dX7_feeds_71 rfl (lv_at hl 0 rfl) ?_
      refine lv_isub hx hb dX7_feeds_72 ?_
      refine tope (y := 3) (by decide) ?_
      refine lv_iadd hx hb dX7_feeds_73 ?_
      refine ms_st (n := 65) cx wo rfl (by omega) dX7_feeds_74 (fun H locs gz hgz wo => ?_)
      subst hgz
      refine lv_iinc (v := 2) (lv' := [(1, .int 2), (0, .ref (am 0))]) hx hb dX7_feeds_75 hl (k := 0) rfl (by decide) (by decide) rfl (fun ls hl => ?_)
      refine lv_goto (tgt := 41) hx hb dX7_feeds_78 (by decide) ?_
      refine lv_iload_n hx hb dX7_feeds_41 rfl (lv_at hl 0 rfl) ?_
      refine lv_iconst (v := 3) hx hb dX7_feeds_42 (by decide) ?_
      refine lv_icmp_ge (tgt := 81) hx hb dX7_feeds_43 (by decide) (fun h => absurd h (by decide)) (fun _ => ?_)
      refine lv_aload_n hx hb dX7_feeds_46 rfl (lv_at hl 1 rfl) ?_
      refine mg_st cx wo m_631 dX7_feeds_47 ?_
      refine lv_iconst (v := 0) hx hb dX7_feeds_50 (by decide) ?_
      refine lv_iload_n hx hb dX7_feeds_51 rfl (lv_at hl 0 rfl) ?_
      refine lv_iadd hx hb dX7_feeds_52 ?_
      refine tope (y := 2) (by decide) ?_
      refine lv_dup2_11 hx hb dX7_feeds_53 rfl rfl ?_
      refine ml_st (n := 2) cx wo rfl (by omega) dX7_feeds_54 ?_
      refine tope (y := (g 2)) (show (upd (upd (upd (upd g 0 ((g 0) + 4)) 64 ((g 64) + 4)) 1 ((g 1) + 3)) 65 ((g 65) + 3)) 2 = (g 2) from (rdN (by omega) (rdN (by omega) (rdN (by omega) (rdN (by omega) rfl))))) ?_
      refine lv_iconst (v := 4) hx hb dX7_feeds_55 (by decide) ?_
      refine lv_iload_n hx hb dX7_feeds_56 rfl (lv_at hl 0 rfl) ?_
      refine lv_isub hx hb dX7_feeds_57 ?_
      refine tope (y := 2) (by decide) ?_
      refine lv_iadd hx hb dX7_feeds_58 ?_
      refine ms_st (n := 2) cx wo rfl (by omega) dX7_feeds_59 (fun H locs gz hgz wo => ?_)
      subst hgz
      refine lv_aload_n hx hb dX7_feeds_60 rfl (lv_at hl 1 rfl) ?_
      refine mg_st cx wo m_631 dX7_feeds_61 ?_
      refine lv_bipush (v := 64) hx hb dX7_feeds_64 (by decide) ?_
      refine lv_iload_n hx hb dX7_feeds_66 rfl (lv_at hl 0 rfl) ?_
      refine lv_iadd hx hb dX7_feeds_67 ?_
      refine tope (y := 66) (by decide) ?_
      refine lv_dup2_11 hx hb dX7_feeds_68 rfl rfl ?_
      refine ml_st (n := 66) cx wo rfl (by omega) dX7_feeds_69 ?_
      refine tope (y := (g 66)) (show (upd (upd (upd (upd (upd g 0 ((g 0) + 4)) 64 ((g 64) + 4)) 1 ((g 1) + 3)) 65 ((g 65) + 3)) 2 ((g 2) + 2)) 66 = (g 66) from (rdN (by omega) (rdN (by omega) (rdN (by omega) (rdN (by omega) (rdN (by omega) rfl)))))) ?_
      refine lv_iconst (v := 4) hx hb dX7_feeds_70 (by decide) ?_
      refine lv_iload_n hx hb dX7_feeds_71 rfl (lv_at hl 0 rfl) ?_
      refine lv_isub hx hb dX7_feeds_72 ?_
      refine tope (y := 2) (by decide) ?_
      refine lv_iadd hx hb dX7_feeds_73 ?_
      refine ms_st (n := 66) cx wo rfl (by omega) dX7_feeds_74 (fun H locs gz hgz wo => ?_)
      subst hgz
      refine lv_iinc (v := 3) (lv' := [(1, .int 3), (0, .ref (am 0))]) hx hb dX7_feeds_75 hl (k := 0) rfl (by decide) (by decide) rfl (fun ls hl => ?_)
      refine lv_goto (tgt := 41) hx hb dX7_feeds_78 (by decide) ?_
      refine lv_iload_n hx hb dX7_feeds_41 rfl (lv_at hl 0 rfl) ?_
      refine lv_iconst (v := 3) hx hb dX7_feeds_42 (by decide) ?_
      refine lv_icmp_ge (tgt := 81) hx hb dX7_feeds_43 (by decide) (fun _ => ?_) (fun h => absurd (show ¬ _ from h) (by decide))
      exact r2_v cx hQ wo dX7_feeds_81 (by subst hM; exact ⟨rfl, rfl⟩)
    · skip
      rw [if_neg c_2] at hM
      refine lv_aload_n hx hb dX7_feeds_26 rfl (lv_at hl 0 rfl) ?_
      refine mg_st cx wo m_631 dX7_feeds_27 ?_
      refine lv_sipush (v := 145) hx hb dX7_feeds_30 (by decide) ?_
      refine lv_dup2_11 hx hb dX7_feeds_33 rfl rfl ?_
      refine ml_st (n := 145) cx wo rfl (by omega) dX7_feeds_34 ?_
      refine lv_iconst (v := 1) hx hb dX7_feeds_35 (by decide) ?_
      refine lv_iadd hx hb dX7_feeds_36 ?_
      refine ms_st (n := 145) cx wo rfl (by omega) dX7_feeds_37 (fun H locs gz hgz wo => ?_)
      subst hgz
      exact r2_v cx hQ wo dX7_feeds_38 (by subst hM; exact ⟨rfl, rfl⟩)
  · skip
    rw [if_pos c_1] at hM
    exact r2_v cx hQ wo dX7_feeds_11 (by subst hM; exact ⟨rfl, rfl⟩)
abbrev rm_X7_blows : Room := { frames := 0, cells := 0, slots := 0, locals := 0 }
def m_X7_blows (g : St) (v : Nat) : St :=
  if (g (76 + v)) < 1000 then (upd (upd g (79 + v) 0) (85 + v) ((g (85 + v)) + 1))
  else if (g (76 + v)) ≤ 1300 then (if ((g 142) + (if (6 - (if 6 ≤ (g (5 + 4 * v)) then 6 else (g (5 + 4 * v)))) ≤ (g (6 + 4 * v)) then (6 - (if 6 ≤ (g (5 + 4 * v)) then 6 else (g (5 + 4 * v)))) else (g (6 + 4 * v)))) ≤ (g 148) then (upd (upd (upd (upd (upd (upd (upd (upd (upd (upd (upd g (4 + 4 * v) ((g (4 + 4 * v)) - (if ((6 - (if 6 ≤ (g (5 + 4 * v)) then 6 else (g (5 + 4 * v)))) - (if (6 - (if 6 ≤ (g (5 + 4 * v)) then 6 else (g (5 + 4 * v)))) ≤ (g (6 + 4 * v)) then (6 - (if 6 ≤ (g (5 + 4 * v)) then 6 else (g (5 + 4 * v)))) else (g (6 + 4 * v)))) ≤ (g (4 + 4 * v)) then ((6 - (if 6 ≤ (g (5 + 4 * v)) then 6 else (g (5 + 4 * v)))) - (if (6 - (if 6 ≤ (g (5 + 4 * v)) then 6 else (g (5 + 4 * v)))) ≤ (g (6 + 4 * v)) then (6 - (if 6 ≤ (g (5 + 4 * v)) then 6 else (g (5 + 4 * v)))) else (g (6 + 4 * v)))) else (g (4 + 4 * v))))) (5 + 4 * v) ((g (5 + 4 * v)) - (if 6 ≤ (g (5 + 4 * v)) then 6 else (g (5 + 4 * v))))) (6 + 4 * v) ((g (6 + 4 * v)) - (if (6 - (if 6 ≤ (g (5 + 4 * v)) then 6 else (g (5 + 4 * v)))) ≤ (g (6 + 4 * v)) then (6 - (if 6 ≤ (g (5 + 4 * v)) then 6 else (g (5 + 4 * v)))) else (g (6 + 4 * v))))) (7 + 4 * v) ((g (7 + 4 * v)) + ((if 6 ≤ (g (5 + 4 * v)) then 6 else (g (5 + 4 * v))) + (if ((6 - (if 6 ≤ (g (5 + 4 * v)) then 6 else (g (5 + 4 * v)))) - (if (6 - (if 6 ≤ (g (5 + 4 * v)) then 6 else (g (5 + 4 * v)))) ≤ (g (6 + 4 * v)) then (6 - (if 6 ≤ (g (5 + 4 * v)) then 6 else (g (5 + 4 * v)))) else (g (6 + 4 * v)))) ≤ (g (4 + 4 * v)) then ((6 - (if 6 ≤ (g (5 + 4 * v)) then 6 else (g (5 + 4 * v)))) - (if (6 - (if 6 ≤ (g (5 + 4 * v)) then 6 else (g (5 + 4 * v)))) ≤ (g (6 + 4 * v)) then (6 - (if 6 ≤ (g (5 + 4 * v)) then 6 else (g (5 + 4 * v)))) else (g (6 + 4 * v)))) else (g (4 + 4 * v)))))) 68 ((g 68) + (if ((6 - (if 6 ≤ (g (5 + 4 * v)) then 6 else (g (5 + 4 * v)))) - (if (6 - (if 6 ≤ (g (5 + 4 * v)) then 6 else (g (5 + 4 * v)))) ≤ (g (6 + 4 * v)) then (6 - (if 6 ≤ (g (5 + 4 * v)) then 6 else (g (5 + 4 * v)))) else (g (6 + 4 * v)))) ≤ (g (4 + 4 * v)) then ((6 - (if 6 ≤ (g (5 + 4 * v)) then 6 else (g (5 + 4 * v)))) - (if (6 - (if 6 ≤ (g (5 + 4 * v)) then 6 else (g (5 + 4 * v)))) ≤ (g (6 + 4 * v)) then (6 - (if 6 ≤ (g (5 + 4 * v)) then 6 else (g (5 + 4 * v)))) else (g (6 + 4 * v)))) else (g (4 + 4 * v))))) 69 ((g 69) + (if 6 ≤ (g (5 + 4 * v)) then 6 else (g (5 + 4 * v))))) 70 ((g 70) + (if (6 - (if 6 ≤ (g (5 + 4 * v)) then 6 else (g (5 + 4 * v)))) ≤ (g (6 + 4 * v)) then (6 - (if 6 ≤ (g (5 + 4 * v)) then 6 else (g (5 + 4 * v)))) else (g (6 + 4 * v))))) 75 ((g 75) + ((if 6 ≤ (g (5 + 4 * v)) then 6 else (g (5 + 4 * v))) + (if ((6 - (if 6 ≤ (g (5 + 4 * v)) then 6 else (g (5 + 4 * v)))) - (if (6 - (if 6 ≤ (g (5 + 4 * v)) then 6 else (g (5 + 4 * v)))) ≤ (g (6 + 4 * v)) then (6 - (if 6 ≤ (g (5 + 4 * v)) then 6 else (g (5 + 4 * v)))) else (g (6 + 4 * v)))) ≤ (g (4 + 4 * v)) then ((6 - (if 6 ≤ (g (5 + 4 * v)) then 6 else (g (5 + 4 * v)))) - (if (6 - (if 6 ≤ (g (5 + 4 * v)) then 6 else (g (5 + 4 * v)))) ≤ (g (6 + 4 * v)) then (6 - (if 6 ≤ (g (5 + 4 * v)) then 6 else (g (5 + 4 * v)))) else (g (6 + 4 * v)))) else (g (4 + 4 * v)))))) (76 + v) ((g (76 + v)) + (((4 * (if 6 ≤ (g (5 + 4 * v)) then 6 else (g (5 + 4 * v)))) + (3 * (if (6 - (if 6 ≤ (g (5 + 4 * v)) then 6 else (g (5 + 4 * v)))) ≤ (g (6 + 4 * v)) then (6 - (if 6 ≤ (g (5 + 4 * v)) then 6 else (g (5 + 4 * v)))) else (g (6 + 4 * v))))) + (2 * (if ((6 - (if 6 ≤ (g (5 + 4 * v)) then 6 else (g (5 + 4 * v)))) - (if (6 - (if 6 ≤ (g (5 + 4 * v)) then 6 else (g (5 + 4 * v)))) ≤ (g (6 + 4 * v)) then (6 - (if 6 ≤ (g (5 + 4 * v)) then 6 else (g (5 + 4 * v)))) else (g (6 + 4 * v)))) ≤ (g (4 + 4 * v)) then ((6 - (if 6 ≤ (g (5 + 4 * v)) then 6 else (g (5 + 4 * v)))) - (if (6 - (if 6 ≤ (g (5 + 4 * v)) then 6 else (g (5 + 4 * v)))) ≤ (g (6 + 4 * v)) then (6 - (if 6 ≤ (g (5 + 4 * v)) then 6 else (g (5 + 4 * v)))) else (g (6 + 4 * v)))) else (g (4 + 4 * v))))))) 142 ((g 142) + (if (6 - (if 6 ≤ (g (5 + 4 * v)) then 6 else (g (5 + 4 * v)))) ≤ (g (6 + 4 * v)) then (6 - (if 6 ≤ (g (5 + 4 * v)) then 6 else (g (5 + 4 * v)))) else (g (6 + 4 * v))))) 141 ((g 141) + (if (6 - (if 6 ≤ (g (5 + 4 * v)) then 6 else (g (5 + 4 * v)))) ≤ (g (6 + 4 * v)) then (6 - (if 6 ≤ (g (5 + 4 * v)) then 6 else (g (5 + 4 * v)))) else (g (6 + 4 * v)))))
    else (upd g (82 + v) ((g (82 + v)) + 1)))
  else (upd (upd g (79 + v) 0) (85 + v) ((g (85 + v)) + 1))
set_option maxHeartbeats 4000000 in
set_option maxRecDepth 100000 in
theorem c_X7_blows (l : Launch) (G : GG) (am : Nat → Nat) (g kf : St) (nk : Int32) {v : Nat} (hv : v < 3) : Ct l G yX7_blows cX7_blows 6 (none : Option Jvm.ClassFile.FieldType) rm_X7_blows [.ref (am 0), .int (nI v)] (mw G am g kf nk) (fun rv W1 => rv = none ∧ W1 = mw G am (m_X7_blows g v) kf nk) := by
  refine Ct.mk2 (by decide) (Nat.le_of_ble_eq_true rfl) ?_
  intro p e s m args below meth c A H locs ls Q cx wo hl hQ
  obtain ⟨hx, hb, hml, hr, hlo, hown, hts, hnm, kn, hA⟩ := id cx
  have hl : lv_has ls 6 [(0, .ref (am 0)), (1, .int (nI v))] := hl
  generalize hM : m_X7_blows g v = M at hQ
  unfold m_X7_blows at hM
  refine lv_aload_n hx hb dX7_blows_0 rfl (lv_at hl 0 rfl) ?_
  refine mg_st cx wo m_631 dX7_blows_1 ?_
  refine lv_bipush (v := 76) hx hb dX7_blows_4 (by decide) ?_
  refine lv_iload_n hx hb dX7_blows_6 rfl (lv_at hl 1 rfl) ?_
  refine lv_iadd hx hb dX7_blows_7 ?_
  refine tope (y := (nI (76 + v))) (ai (a := 76) (b := v) rfl rfl (by omega)) ?_
  refine ml_st (n := 76 + v) cx wo rfl (by omega) dX7_blows_8 ?_
  refine lv_sipush (v := 1000) hx hb dX7_blows_9 (by decide) ?_
  refine lv_icmp_lt (tgt := 30) hx hb dX7_blows_12 (by decide) (fun c_1 => ?_) (fun c_1 => ?_)
  · skip
    rw [if_pos c_1] at hM
    refine lv_aload_n hx hb dX7_blows_30 rfl (lv_at hl 0 rfl) ?_
    refine mg_st cx wo m_631 dX7_blows_31 ?_
    refine lv_bipush (v := 79) hx hb dX7_blows_34 (by decide) ?_
    refine lv_iload_n hx hb dX7_blows_36 rfl (lv_at hl 1 rfl) ?_
    refine lv_iadd hx hb dX7_blows_37 ?_
    refine tope (y := (nI (79 + v))) (ai (a := 79) (b := v) rfl rfl (by omega)) ?_
    refine lv_iconst (v := 0) hx hb dX7_blows_38 (by decide) ?_
    refine ms_st (n := 79 + v) cx wo rfl (by omega) dX7_blows_39 (fun H locs gz hgz wo => ?_)
    subst hgz
    refine lv_aload_n hx hb dX7_blows_40 rfl (lv_at hl 0 rfl) ?_
    refine mg_st cx wo m_631 dX7_blows_41 ?_
    refine lv_bipush (v := 85) hx hb dX7_blows_44 (by decide) ?_
    refine lv_iload_n hx hb dX7_blows_46 rfl (lv_at hl 1 rfl) ?_
    refine lv_iadd hx hb dX7_blows_47 ?_
    refine tope (y := (nI (85 + v))) (ai (a := 85) (b := v) rfl rfl (by omega)) ?_
    refine lv_dup2_11 hx hb dX7_blows_48 rfl rfl ?_
    refine ml_st (n := 85 + v) cx wo rfl (by omega) dX7_blows_49 ?_
    refine tope (y := (g (85 + v))) (show (upd g (79 + v) 0) (85 + v) = (g (85 + v)) from (rdN (by omega) rfl)) ?_
    refine lv_iconst (v := 1) hx hb dX7_blows_50 (by decide) ?_
    refine lv_iadd hx hb dX7_blows_51 ?_
    refine ms_st (n := 85 + v) cx wo rfl (by omega) dX7_blows_52 (fun H locs gz hgz wo => ?_)
    subst hgz
    exact r2_v cx hQ wo dX7_blows_53 (by subst hM; exact ⟨rfl, rfl⟩)
  · skip
    rw [if_neg c_1] at hM
    refine lv_aload_n hx hb dX7_blows_15 rfl (lv_at hl 0 rfl) ?_
    refine mg_st cx wo m_631 dX7_blows_16 ?_
    refine lv_bipush (v := 76) hx hb dX7_blows_19 (by decide) ?_
    refine lv_iload_n hx hb dX7_blows_21 rfl (lv_at hl 1 rfl) ?_
    refine lv_iadd hx hb dX7_blows_22 ?_
    refine tope (y := (nI (76 + v))) (ai (a := 76) (b := v) rfl rfl (by omega)) ?_
    refine ml_st (n := 76 + v) cx wo rfl (by omega) dX7_blows_23 ?_
    refine lv_sipush (v := 1300) hx hb dX7_blows_24 (by decide) ?_
    refine lv_icmp_le (tgt := 54) hx hb dX7_blows_27 (by decide) (fun c_2 => ?_) (fun c_2 => ?_)
    · skip
      rw [if_pos c_2] at hM
      refine lv_iconst (v := 4) hx hb dX7_blows_54 (by decide) ?_
      refine lv_iconst (v := 4) hx hb dX7_blows_55 (by decide) ?_
      refine lv_iload_n hx hb dX7_blows_56 rfl (lv_at hl 1 rfl) ?_
      refine lv_imul hx hb dX7_blows_57 ?_
      refine tope (y := (nI (4 * v))) (mi (a := 4) (b := v) rfl rfl (by omega)) ?_
      refine lv_iadd hx hb dX7_blows_58 ?_
      refine tope (y := (nI (4 + 4 * v))) (ai (a := 4) (b := 4 * v) rfl rfl (by omega)) ?_
      refine lv_istore_n (lv' := [(2, .int (nI (4 + 4 * v))), (0, .ref (am 0)), (1, .int (nI v))]) hx hb dX7_blows_59 rfl hl (by decide) rfl (fun ls hl => ?_)
      refine lv_aload_n hx hb dX7_blows_60 rfl (lv_at hl 1 rfl) ?_
      refine mg_st cx wo m_631 dX7_blows_61 ?_
      refine lv_iload_n hx hb dX7_blows_64 rfl (lv_at hl 0 rfl) ?_
      refine lv_iconst (v := 1) hx hb dX7_blows_65 (by decide) ?_
      refine lv_iadd hx hb dX7_blows_66 ?_
      refine tope (y := (nI (5 + 4 * v))) (ai (a := 4 + 4 * v) (b := 1) rfl rfl (by omega)) ?_
      refine ml_st (n := 5 + 4 * v) cx wo rfl (by omega) dX7_blows_67 ?_
      refine lv_bipush (v := 6) hx hb dX7_blows_68 (by decide) ?_
      have hj_3 : ∀ (H : Heap) (locs : List Loc) (ls : Array Slot), Wo G A s.heap H locs (mw G am g kf nk) → lv_has ls 6 [(2, .int (nI (4 + 4 * v))), (0, .ref (am 0)), (1, .int (nI v))] → W p l e rm_X7_blows s m args below meth c H locs 0 0 Q (F0 m 86 ls [.int (if 6 ≤ (g (5 + 4 * v)) then 6 else (g (5 + 4 * v)))]) := by
        intro H locs ls wo hl
        refine lv_istore_n (lv' := [(3, .int (if 6 ≤ (g (5 + 4 * v)) then 6 else (g (5 + 4 * v)))), (2, .int (nI (4 + 4 * v))), (0, .ref (am 0)), (1, .int (nI v))]) hx hb dX7_blows_86 rfl hl (by decide) rfl (fun ls hl => ?_)
        refine lv_aload_n hx hb dX7_blows_87 rfl (lv_at hl 2 rfl) ?_
        refine mg_st cx wo m_631 dX7_blows_88 ?_
        refine lv_iload_n hx hb dX7_blows_91 rfl (lv_at hl 1 rfl) ?_
        refine lv_iconst (v := 2) hx hb dX7_blows_92 (by decide) ?_
        refine lv_iadd hx hb dX7_blows_93 ?_
        refine tope (y := (nI (6 + 4 * v))) (ai (a := 4 + 4 * v) (b := 2) rfl rfl (by omega)) ?_
        refine ml_st (n := 6 + 4 * v) cx wo rfl (by omega) dX7_blows_94 ?_
        refine lv_bipush (v := 6) hx hb dX7_blows_95 (by decide) ?_
        refine lv_iload_n hx hb dX7_blows_97 rfl (lv_at hl 0 rfl) ?_
        refine lv_isub hx hb dX7_blows_98 ?_
        have hj_4 : ∀ (H : Heap) (locs : List Loc) (ls : Array Slot), Wo G A s.heap H locs (mw G am g kf nk) → lv_has ls 6 [(3, .int (if 6 ≤ (g (5 + 4 * v)) then 6 else (g (5 + 4 * v)))), (2, .int (nI (4 + 4 * v))), (0, .ref (am 0)), (1, .int (nI v))] → W p l e rm_X7_blows s m args below meth c H locs 0 0 Q (F0 m 117 ls [.int (if (6 - (if 6 ≤ (g (5 + 4 * v)) then 6 else (g (5 + 4 * v)))) ≤ (g (6 + 4 * v)) then (6 - (if 6 ≤ (g (5 + 4 * v)) then 6 else (g (5 + 4 * v)))) else (g (6 + 4 * v)))]) := by
          intro H locs ls wo hl
          refine lv_istore (lv' := [(4, .int (if (6 - (if 6 ≤ (g (5 + 4 * v)) then 6 else (g (5 + 4 * v)))) ≤ (g (6 + 4 * v)) then (6 - (if 6 ≤ (g (5 + 4 * v)) then 6 else (g (5 + 4 * v)))) else (g (6 + 4 * v)))), (3, .int (if 6 ≤ (g (5 + 4 * v)) then 6 else (g (5 + 4 * v)))), (2, .int (nI (4 + 4 * v))), (0, .ref (am 0)), (1, .int (nI v))]) hx hb dX7_blows_117 hl (by decide) rfl (fun ls hl => ?_)
          refine lv_aload_n hx hb dX7_blows_119 rfl (lv_at hl 3 rfl) ?_
          refine mg_st cx wo m_631 dX7_blows_120 ?_
          refine lv_iload_n hx hb dX7_blows_123 rfl (lv_at hl 2 rfl) ?_
          refine ml_st (n := 4 + 4 * v) cx wo rfl (by omega) dX7_blows_124 ?_
          refine lv_bipush (v := 6) hx hb dX7_blows_125 (by decide) ?_
          refine lv_iload_n hx hb dX7_blows_127 rfl (lv_at hl 1 rfl) ?_
          refine lv_isub hx hb dX7_blows_128 ?_
          refine lv_iload hx hb dX7_blows_129 (lv_at hl 0 rfl) ?_
          refine lv_isub hx hb dX7_blows_131 ?_
          have hj_5 : ∀ (H : Heap) (locs : List Loc) (ls : Array Slot), Wo G A s.heap H locs (mw G am g kf nk) → lv_has ls 6 [(4, .int (if (6 - (if 6 ≤ (g (5 + 4 * v)) then 6 else (g (5 + 4 * v)))) ≤ (g (6 + 4 * v)) then (6 - (if 6 ≤ (g (5 + 4 * v)) then 6 else (g (5 + 4 * v)))) else (g (6 + 4 * v)))), (3, .int (if 6 ≤ (g (5 + 4 * v)) then 6 else (g (5 + 4 * v)))), (2, .int (nI (4 + 4 * v))), (0, .ref (am 0)), (1, .int (nI v))] → W p l e rm_X7_blows s m args below meth c H locs 0 0 Q (F0 m 151 ls [.int (if ((6 - (if 6 ≤ (g (5 + 4 * v)) then 6 else (g (5 + 4 * v)))) - (if (6 - (if 6 ≤ (g (5 + 4 * v)) then 6 else (g (5 + 4 * v)))) ≤ (g (6 + 4 * v)) then (6 - (if 6 ≤ (g (5 + 4 * v)) then 6 else (g (5 + 4 * v)))) else (g (6 + 4 * v)))) ≤ (g (4 + 4 * v)) then ((6 - (if 6 ≤ (g (5 + 4 * v)) then 6 else (g (5 + 4 * v)))) - (if (6 - (if 6 ≤ (g (5 + 4 * v)) then 6 else (g (5 + 4 * v)))) ≤ (g (6 + 4 * v)) then (6 - (if 6 ≤ (g (5 + 4 * v)) then 6 else (g (5 + 4 * v)))) else (g (6 + 4 * v)))) else (g (4 + 4 * v)))]) := by
            intro H locs ls wo hl
            refine lv_istore (lv' := [(5, .int (if ((6 - (if 6 ≤ (g (5 + 4 * v)) then 6 else (g (5 + 4 * v)))) - (if (6 - (if 6 ≤ (g (5 + 4 * v)) then 6 else (g (5 + 4 * v)))) ≤ (g (6 + 4 * v)) then (6 - (if 6 ≤ (g (5 + 4 * v)) then 6 else (g (5 + 4 * v)))) else (g (6 + 4 * v)))) ≤ (g (4 + 4 * v)) then ((6 - (if 6 ≤ (g (5 + 4 * v)) then 6 else (g (5 + 4 * v)))) - (if (6 - (if 6 ≤ (g (5 + 4 * v)) then 6 else (g (5 + 4 * v)))) ≤ (g (6 + 4 * v)) then (6 - (if 6 ≤ (g (5 + 4 * v)) then 6 else (g (5 + 4 * v)))) else (g (6 + 4 * v)))) else (g (4 + 4 * v)))), (4, .int (if (6 - (if 6 ≤ (g (5 + 4 * v)) then 6 else (g (5 + 4 * v)))) ≤ (g (6 + 4 * v)) then (6 - (if 6 ≤ (g (5 + 4 * v)) then 6 else (g (5 + 4 * v)))) else (g (6 + 4 * v)))), (3, .int (if 6 ≤ (g (5 + 4 * v)) then 6 else (g (5 + 4 * v)))), (2, .int (nI (4 + 4 * v))), (0, .ref (am 0)), (1, .int (nI v))]) hx hb dX7_blows_151 hl (by decide) rfl (fun ls hl => ?_)
            refine lv_aload_n hx hb dX7_blows_153 rfl (lv_at hl 4 rfl) ?_
            refine mg_st cx wo m_631 dX7_blows_154 ?_
            refine lv_sipush (v := 142) hx hb dX7_blows_157 (by decide) ?_
            refine ml_st (n := 142) cx wo rfl (by omega) dX7_blows_160 ?_
            refine lv_iload hx hb dX7_blows_161 (lv_at hl 1 rfl) ?_
            refine lv_iadd hx hb dX7_blows_163 ?_
            refine lv_aload_n hx hb dX7_blows_164 rfl (lv_at hl 4 rfl) ?_
            refine mg_st cx wo m_631 dX7_blows_165 ?_
            refine lv_sipush (v := 148) hx hb dX7_blows_168 (by decide) ?_
            refine ml_st (n := 148) cx wo rfl (by omega) dX7_blows_171 ?_
            refine lv_icmp_le (tgt := 189) hx hb dX7_blows_172 (by decide) (fun c_6 => ?_) (fun c_6 => ?_)
            · skip
              rw [if_pos c_6] at hM
              refine lv_aload_n hx hb dX7_blows_189 rfl (lv_at hl 4 rfl) ?_
              refine mg_st cx wo m_631 dX7_blows_190 ?_
              refine lv_iload_n hx hb dX7_blows_193 rfl (lv_at hl 3 rfl) ?_
              refine lv_dup2_11 hx hb dX7_blows_194 rfl rfl ?_
              refine ml_st (n := 4 + 4 * v) cx wo rfl (by omega) dX7_blows_195 ?_
              refine lv_iload hx hb dX7_blows_196 (lv_at hl 0 rfl) ?_
              refine lv_isub hx hb dX7_blows_198 ?_
              refine ms_st (n := 4 + 4 * v) cx wo rfl (by omega) dX7_blows_199 (fun H locs gz hgz wo => ?_)
              subst hgz
              refine lv_aload_n hx hb dX7_blows_200 rfl (lv_at hl 4 rfl) ?_
              refine mg_st cx wo m_631 dX7_blows_201 ?_
              refine lv_iload_n hx hb dX7_blows_204 rfl (lv_at hl 3 rfl) ?_
              refine lv_iconst (v := 1) hx hb dX7_blows_205 (by decide) ?_
              refine lv_iadd hx hb dX7_blows_206 ?_
              refine tope (y := (nI (5 + 4 * v))) (ai (a := 4 + 4 * v) (b := 1) rfl rfl (by omega)) ?_
              refine lv_dup2_11 hx hb dX7_blows_207 rfl rfl ?_
              refine ml_st (n := 5 + 4 * v) cx wo rfl (by omega) dX7_blows_208 ?_
              refine tope (y := (g (5 + 4 * v))) (show (upd g (4 + 4 * v) ((g (4 + 4 * v)) - (if ((6 - (if 6 ≤ (g (5 + 4 * v)) then 6 else (g (5 + 4 * v)))) - (if (6 - (if 6 ≤ (g (5 + 4 * v)) then 6 else (g (5 + 4 * v)))) ≤ (g (6 + 4 * v)) then (6 - (if 6 ≤ (g (5 + 4 * v)) then 6 else (g (5 + 4 * v)))) else (g (6 + 4 * v)))) ≤ (g (4 + 4 * v)) then ((6 - (if 6 ≤ (g (5 + 4 * v)) then 6 else (g (5 + 4 * v)))) - (if (6 - (if 6 ≤ (g (5 + 4 * v)) then 6 else (g (5 + 4 * v)))) ≤ (g (6 + 4 * v)) then (6 - (if 6 ≤ (g (5 + 4 * v)) then 6 else (g (5 + 4 * v)))) else (g (6 + 4 * v)))) else (g (4 + 4 * v))))) (5 + 4 * v) = (g (5 + 4 * v)) from (rdN (by omega) rfl)) ?_
              refine lv_iload_n hx hb dX7_blows_209 rfl (lv_at hl 2 rfl) ?_
              refine lv_isub hx hb dX7_blows_210 ?_
              refine ms_st (n := 5 + 4 * v) cx wo rfl (by omega) dX7_blows_211 (fun H locs gz hgz wo => ?_)
              subst hgz
              refine lv_aload_n hx hb dX7_blows_212 rfl (lv_at hl 4 rfl) ?_
              refine mg_st cx wo m_631 dX7_blows_213 ?_
              refine lv_iload_n hx hb dX7_blows_216 rfl (lv_at hl 3 rfl) ?_
              refine lv_iconst (v := 2) hx hb dX7_blows_217 (by decide) ?_
              refine lv_iadd hx hb dX7_blows_218 ?_
              refine tope (y := (nI (6 + 4 * v))) (ai (a := 4 + 4 * v) (b := 2) rfl rfl (by omega)) ?_
              refine lv_dup2_11 hx hb dX7_blows_219 rfl rfl ?_
              refine ml_st (n := 6 + 4 * v) cx wo rfl (by omega) dX7_blows_220 ?_
              refine tope (y := (g (6 + 4 * v))) (show (upd (upd g (4 + 4 * v) ((g (4 + 4 * v)) - (if ((6 - (if 6 ≤ (g (5 + 4 * v)) then 6 else (g (5 + 4 * v)))) - (if (6 - (if 6 ≤ (g (5 + 4 * v)) then 6 else (g (5 + 4 * v)))) ≤ (g (6 + 4 * v)) then (6 - (if 6 ≤ (g (5 + 4 * v)) then 6 else (g (5 + 4 * v)))) else (g (6 + 4 * v)))) ≤ (g (4 + 4 * v)) then ((6 - (if 6 ≤ (g (5 + 4 * v)) then 6 else (g (5 + 4 * v)))) - (if (6 - (if 6 ≤ (g (5 + 4 * v)) then 6 else (g (5 + 4 * v)))) ≤ (g (6 + 4 * v)) then (6 - (if 6 ≤ (g (5 + 4 * v)) then 6 else (g (5 + 4 * v)))) else (g (6 + 4 * v)))) else (g (4 + 4 * v))))) (5 + 4 * v) ((g (5 + 4 * v)) - (if 6 ≤ (g (5 + 4 * v)) then 6 else (g (5 + 4 * v))))) (6 + 4 * v) = (g (6 + 4 * v)) from (rdN (by omega) (rdN (by omega) rfl))) ?_
              refine lv_iload hx hb dX7_blows_221 (lv_at hl 1 rfl) ?_
              refine lv_isub hx hb dX7_blows_223 ?_
              refine ms_st (n := 6 + 4 * v) cx wo rfl (by omega) dX7_blows_224 (fun H locs gz hgz wo => ?_)
              subst hgz
              refine lv_aload_n hx hb dX7_blows_225 rfl (lv_at hl 4 rfl) ?_
              refine mg_st cx wo m_631 dX7_blows_226 ?_
              refine lv_iload_n hx hb dX7_blows_229 rfl (lv_at hl 3 rfl) ?_
              refine lv_iconst (v := 3) hx hb dX7_blows_230 (by decide) ?_
              refine lv_iadd hx hb dX7_blows_231 ?_
              refine tope (y := (nI (7 + 4 * v))) (ai (a := 4 + 4 * v) (b := 3) rfl rfl (by omega)) ?_
              refine lv_dup2_11 hx hb dX7_blows_232 rfl rfl ?_
              refine ml_st (n := 7 + 4 * v) cx wo rfl (by omega) dX7_blows_233 ?_
              refine tope (y := (g (7 + 4 * v))) (show (upd (upd (upd g (4 + 4 * v) ((g (4 + 4 * v)) - (if ((6 - (if 6 ≤ (g (5 + 4 * v)) then 6 else (g (5 + 4 * v)))) - (if (6 - (if 6 ≤ (g (5 + 4 * v)) then 6 else (g (5 + 4 * v)))) ≤ (g (6 + 4 * v)) then (6 - (if 6 ≤ (g (5 + 4 * v)) then 6 else (g (5 + 4 * v)))) else (g (6 + 4 * v)))) ≤ (g (4 + 4 * v)) then ((6 - (if 6 ≤ (g (5 + 4 * v)) then 6 else (g (5 + 4 * v)))) - (if (6 - (if 6 ≤ (g (5 + 4 * v)) then 6 else (g (5 + 4 * v)))) ≤ (g (6 + 4 * v)) then (6 - (if 6 ≤ (g (5 + 4 * v)) then 6 else (g (5 + 4 * v)))) else (g (6 + 4 * v)))) else (g (4 + 4 * v))))) (5 + 4 * v) ((g (5 + 4 * v)) - (if 6 ≤ (g (5 + 4 * v)) then 6 else (g (5 + 4 * v))))) (6 + 4 * v) ((g (6 + 4 * v)) - (if (6 - (if 6 ≤ (g (5 + 4 * v)) then 6 else (g (5 + 4 * v)))) ≤ (g (6 + 4 * v)) then (6 - (if 6 ≤ (g (5 + 4 * v)) then 6 else (g (5 + 4 * v)))) else (g (6 + 4 * v))))) (7 + 4 * v) = (g (7 + 4 * v)) from (rdN (by omega) (rdN (by omega) (rdN (by omega) rfl)))) ?_
              refine lv_iload_n hx hb dX7_blows_234 rfl (lv_at hl 2 rfl) ?_
              refine lv_iload hx hb dX7_blows_235 (lv_at hl 0 rfl) ?_
              refine lv_iadd hx hb dX7_blows_237 ?_
              refine lv_iadd hx hb dX7_blows_238 ?_
              refine ms_st (n := 7 + 4 * v) cx wo rfl (by omega) dX7_blows_239 (fun H locs gz hgz wo => ?_)
              subst hgz
              refine lv_aload_n hx hb dX7_blows_240 rfl (lv_at hl 4 rfl) ?_
              refine mg_st cx wo m_631 dX7_blows_241 ?_
              refine lv_bipush (v := 68) hx hb dX7_blows_244 (by decide) ?_
              refine lv_dup2_11 hx hb dX7_blows_246 rfl rfl ?_
              refine ml_st (n := 68) cx wo rfl (by omega) dX7_blows_247 ?_
              refine tope (y := (g 68)) (show (upd (upd (upd (upd g (4 + 4 * v) ((g (4 + 4 * v)) - (if ((6 - (if 6 ≤ (g (5 + 4 * v)) then 6 else (g (5 + 4 * v)))) - (if (6 - (if 6 ≤ (g (5 + 4 * v)) then 6 else (g (5 + 4 * v)))) ≤ (g (6 + 4 * v)) then (6 - (if 6 ≤ (g (5 + 4 * v)) then 6 else (g (5 + 4 * v)))) else (g (6 + 4 * v)))) ≤ (g (4 + 4 * v)) then ((6 - (if 6 ≤ (g (5 + 4 * v)) then 6 else (g (5 + 4 * v)))) - (if (6 - (if 6 ≤ (g (5 + 4 * v)) then 6 else (g (5 + 4 * v)))) ≤ (g (6 + 4 * v)) then (6 - (if 6 ≤ (g (5 + 4 * v)) then 6 else (g (5 + 4 * v)))) else (g (6 + 4 * v)))) else (g (4 + 4 * v))))) (5 + 4 * v) ((g (5 + 4 * v)) - (if 6 ≤ (g (5 + 4 * v)) then 6 else (g (5 + 4 * v))))) (6 + 4 * v) ((g (6 + 4 * v)) - (if (6 - (if 6 ≤ (g (5 + 4 * v)) then 6 else (g (5 + 4 * v)))) ≤ (g (6 + 4 * v)) then (6 - (if 6 ≤ (g (5 + 4 * v)) then 6 else (g (5 + 4 * v)))) else (g (6 + 4 * v))))) (7 + 4 * v) ((g (7 + 4 * v)) + ((if 6 ≤ (g (5 + 4 * v)) then 6 else (g (5 + 4 * v))) + (if ((6 - (if 6 ≤ (g (5 + 4 * v)) then 6 else (g (5 + 4 * v)))) - (if (6 - (if 6 ≤ (g (5 + 4 * v)) then 6 else (g (5 + 4 * v)))) ≤ (g (6 + 4 * v)) then (6 - (if 6 ≤ (g (5 + 4 * v)) then 6 else (g (5 + 4 * v)))) else (g (6 + 4 * v)))) ≤ (g (4 + 4 * v)) then ((6 - (if 6 ≤ (g (5 + 4 * v)) then 6 else (g (5 + 4 * v)))) - (if (6 - (if 6 ≤ (g (5 + 4 * v)) then 6 else (g (5 + 4 * v)))) ≤ (g (6 + 4 * v)) then (6 - (if 6 ≤ (g (5 + 4 * v)) then 6 else (g (5 + 4 * v)))) else (g (6 + 4 * v)))) else (g (4 + 4 * v)))))) 68 = (g 68) from (rdN (by omega) (rdN (by omega) (rdN (by omega) (rdN (by omega) rfl))))) ?_
              refine lv_iload hx hb dX7_blows_248 (lv_at hl 0 rfl) ?_
              refine lv_iadd hx hb dX7_blows_250 ?_
              refine ms_st (n := 68) cx wo rfl (by omega) dX7_blows_251 (fun H locs gz hgz wo => ?_)
              subst hgz
              refine lv_aload_n hx hb dX7_blows_252 rfl (lv_at hl 4 rfl) ?_
              refine mg_st cx wo m_631 dX7_blows_253 ?_
              refine lv_bipush (v := 69) hx hb dX7_blows_256 (by decide) ?_
              refine lv_dup2_11 hx hb dX7_blows_258 rfl rfl ?_
              refine ml_st (n := 69) cx wo rfl (by omega) dX7_blows_259 ?_
              refine tope (y := (g 69)) (show (upd (upd (upd (upd (upd g (4 + 4 * v) ((g (4 + 4 * v)) - (if ((6 - (if 6 ≤ (g (5 + 4 * v)) then 6 else (g (5 + 4 * v)))) - (if (6 - (if 6 ≤ (g (5 + 4 * v)) then 6 else (g (5 + 4 * v)))) ≤ (g (6 + 4 * v)) then (6 - (if 6 ≤ (g (5 + 4 * v)) then 6 else (g (5 + 4 * v)))) else (g (6 + 4 * v)))) ≤ (g (4 + 4 * v)) then ((6 - (if 6 ≤ (g (5 + 4 * v)) then 6 else (g (5 + 4 * v)))) - (if (6 - (if 6 ≤ (g (5 + 4 * v)) then 6 else (g (5 + 4 * v)))) ≤ (g (6 + 4 * v)) then (6 - (if 6 ≤ (g (5 + 4 * v)) then 6 else (g (5 + 4 * v)))) else (g (6 + 4 * v)))) else (g (4 + 4 * v))))) (5 + 4 * v) ((g (5 + 4 * v)) - (if 6 ≤ (g (5 + 4 * v)) then 6 else (g (5 + 4 * v))))) (6 + 4 * v) ((g (6 + 4 * v)) - (if (6 - (if 6 ≤ (g (5 + 4 * v)) then 6 else (g (5 + 4 * v)))) ≤ (g (6 + 4 * v)) then (6 - (if 6 ≤ (g (5 + 4 * v)) then 6 else (g (5 + 4 * v)))) else (g (6 + 4 * v))))) (7 + 4 * v) ((g (7 + 4 * v)) + ((if 6 ≤ (g (5 + 4 * v)) then 6 else (g (5 + 4 * v))) + (if ((6 - (if 6 ≤ (g (5 + 4 * v)) then 6 else (g (5 + 4 * v)))) - (if (6 - (if 6 ≤ (g (5 + 4 * v)) then 6 else (g (5 + 4 * v)))) ≤ (g (6 + 4 * v)) then (6 - (if 6 ≤ (g (5 + 4 * v)) then 6 else (g (5 + 4 * v)))) else (g (6 + 4 * v)))) ≤ (g (4 + 4 * v)) then ((6 - (if 6 ≤ (g (5 + 4 * v)) then 6 else (g (5 + 4 * v)))) - (if (6 - (if 6 ≤ (g (5 + 4 * v)) then 6 else (g (5 + 4 * v)))) ≤ (g (6 + 4 * v)) then (6 - (if 6 ≤ (g (5 + 4 * v)) then 6 else (g (5 + 4 * v)))) else (g (6 + 4 * v)))) else (g (4 + 4 * v)))))) 68 ((g 68) + (if ((6 - (if 6 ≤ (g (5 + 4 * v)) then 6 else (g (5 + 4 * v)))) - (if (6 - (if 6 ≤ (g (5 + 4 * v)) then 6 else (g (5 + 4 * v)))) ≤ (g (6 + 4 * v)) then (6 - (if 6 ≤ (g (5 + 4 * v)) then 6 else (g (5 + 4 * v)))) else (g (6 + 4 * v)))) ≤ (g (4 + 4 * v)) then ((6 - (if 6 ≤ (g (5 + 4 * v)) then 6 else (g (5 + 4 * v)))) - (if (6 - (if 6 ≤ (g (5 + 4 * v)) then 6 else (g (5 + 4 * v)))) ≤ (g (6 + 4 * v)) then (6 - (if 6 ≤ (g (5 + 4 * v)) then 6 else (g (5 + 4 * v)))) else (g (6 + 4 * v)))) else (g (4 + 4 * v))))) 69 = (g 69) from (rdN (by omega) (rdN (by omega) (rdN (by omega) (rdN (by omega) (rdN (by omega) rfl)))))) ?_
              refine lv_iload_n hx hb dX7_blows_260 rfl (lv_at hl 2 rfl) ?_
              refine lv_iadd hx hb dX7_blows_261 ?_
              refine ms_st (n := 69) cx wo rfl (by omega) dX7_blows_262 (fun H locs gz hgz wo => ?_)
              subst hgz
              refine lv_aload_n hx hb dX7_blows_263 rfl (lv_at hl 4 rfl) ?_
              refine mg_st cx wo m_631 dX7_blows_264 ?_
              refine lv_bipush (v := 70) hx hb dX7_blows_267 (by decide) ?_
              refine lv_dup2_11 hx hb dX7_blows_269 rfl rfl ?_
              refine ml_st (n := 70) cx wo rfl (by omega) dX7_blows_270 ?_
              refine tope (y := (g 70)) (show (upd (upd (upd (upd (upd (upd g (4 + 4 * v) ((g (4 + 4 * v)) - (if ((6 - (if 6 ≤ (g (5 + 4 * v)) then 6 else (g (5 + 4 * v)))) - (if (6 - (if 6 ≤ (g (5 + 4 * v)) then 6 else (g (5 + 4 * v)))) ≤ (g (6 + 4 * v)) then (6 - (if 6 ≤ (g (5 + 4 * v)) then 6 else (g (5 + 4 * v)))) else (g (6 + 4 * v)))) ≤ (g (4 + 4 * v)) then ((6 - (if 6 ≤ (g (5 + 4 * v)) then 6 else (g (5 + 4 * v)))) - (if (6 - (if 6 ≤ (g (5 + 4 * v)) then 6 else (g (5 + 4 * v)))) ≤ (g (6 + 4 * v)) then (6 - (if 6 ≤ (g (5 + 4 * v)) then 6 else (g (5 + 4 * v)))) else (g (6 + 4 * v)))) else (g (4 + 4 * v))))) (5 + 4 * v) ((g (5 + 4 * v)) - (if 6 ≤ (g (5 + 4 * v)) then 6 else (g (5 + 4 * v))))) (6 + 4 * v) ((g (6 + 4 * v)) - (if (6 - (if 6 ≤ (g (5 + 4 * v)) then 6 else (g (5 + 4 * v)))) ≤ (g (6 + 4 * v)) then (6 - (if 6 ≤ (g (5 + 4 * v)) then 6 else (g (5 + 4 * v)))) else (g (6 + 4 * v))))) (7 + 4 * v) ((g (7 + 4 * v)) + ((if 6 ≤ (g (5 + 4 * v)) then 6 else (g (5 + 4 * v))) + (if ((6 - (if 6 ≤ (g (5 + 4 * v)) then 6 else (g (5 + 4 * v)))) - (if (6 - (if 6 ≤ (g (5 + 4 * v)) then 6 else (g (5 + 4 * v)))) ≤ (g (6 + 4 * v)) then (6 - (if 6 ≤ (g (5 + 4 * v)) then 6 else (g (5 + 4 * v)))) else (g (6 + 4 * v)))) ≤ (g (4 + 4 * v)) then ((6 - (if 6 ≤ (g (5 + 4 * v)) then 6 else (g (5 + 4 * v)))) - (if (6 - (if 6 ≤ (g (5 + 4 * v)) then 6 else (g (5 + 4 * v)))) ≤ (g (6 + 4 * v)) then (6 - (if 6 ≤ (g (5 + 4 * v)) then 6 else (g (5 + 4 * v)))) else (g (6 + 4 * v)))) else (g (4 + 4 * v)))))) 68 ((g 68) + (if ((6 - (if 6 ≤ (g (5 + 4 * v)) then 6 else (g (5 + 4 * v)))) - (if (6 - (if 6 ≤ (g (5 + 4 * v)) then 6 else (g (5 + 4 * v)))) ≤ (g (6 + 4 * v)) then (6 - (if 6 ≤ (g (5 + 4 * v)) then 6 else (g (5 + 4 * v)))) else (g (6 + 4 * v)))) ≤ (g (4 + 4 * v)) then ((6 - (if 6 ≤ (g (5 + 4 * v)) then 6 else (g (5 + 4 * v)))) - (if (6 - (if 6 ≤ (g (5 + 4 * v)) then 6 else (g (5 + 4 * v)))) ≤ (g (6 + 4 * v)) then (6 - (if 6 ≤ (g (5 + 4 * v)) then 6 else (g (5 + 4 * v)))) else (g (6 + 4 * v)))) else (g (4 + 4 * v))))) 69 ((g 69) + (if 6 ≤ (g (5 + 4 * v)) then 6 else (g (5 + 4 * v))))) 70 = (g 70) from (rdN (by omega) (rdN (by omega) (rdN (by omega) (rdN (by omega) (rdN (by omega) (rdN (by omega) rfl))))))) ?_
              refine lv_iload hx hb dX7_blows_271 (lv_at hl 1 rfl) ?_
              refine lv_iadd hx hb dX7_blows_273 ?_
              refine ms_st (n := 70) cx wo rfl (by omega) dX7_blows_274 (fun H locs gz hgz wo => ?_)
              subst hgz
              refine lv_aload_n hx hb dX7_blows_275 rfl (lv_at hl 4 rfl) ?_
              refine mg_st cx wo m_631 dX7_blows_276 ?_
              refine lv_bipush (v := 75) hx hb dX7_blows_279 (by decide) ?_
              refine lv_dup2_11 hx hb dX7_blows_281 rfl rfl ?_
              refine ml_st (n := 75) cx wo rfl (by omega) dX7_blows_282 ?_
              refine tope (y := (g 75)) (show (upd (upd (upd (upd (upd (upd (upd g (4 + 4 * v) ((g (4 + 4 * v)) - (if ((6 - (if 6 ≤ (g (5 + 4 * v)) then 6 else (g (5 + 4 * v)))) - (if (6 - (if 6 ≤ (g (5 + 4 * v)) then 6 else (g (5 + 4 * v)))) ≤ (g (6 + 4 * v)) then (6 - (if 6 ≤ (g (5 + 4 * v)) then 6 else (g (5 + 4 * v)))) else (g (6 + 4 * v)))) ≤ (g (4 + 4 * v)) then ((6 - (if 6 ≤ (g (5 + 4 * v)) then 6 else (g (5 + 4 * v)))) - (if (6 - (if 6 ≤ (g (5 + 4 * v)) then 6 else (g (5 + 4 * v)))) ≤ (g (6 + 4 * v)) then (6 - (if 6 ≤ (g (5 + 4 * v)) then 6 else (g (5 + 4 * v)))) else (g (6 + 4 * v)))) else (g (4 + 4 * v))))) (5 + 4 * v) ((g (5 + 4 * v)) - (if 6 ≤ (g (5 + 4 * v)) then 6 else (g (5 + 4 * v))))) (6 + 4 * v) ((g (6 + 4 * v)) - (if (6 - (if 6 ≤ (g (5 + 4 * v)) then 6 else (g (5 + 4 * v)))) ≤ (g (6 + 4 * v)) then (6 - (if 6 ≤ (g (5 + 4 * v)) then 6 else (g (5 + 4 * v)))) else (g (6 + 4 * v))))) (7 + 4 * v) ((g (7 + 4 * v)) + ((if 6 ≤ (g (5 + 4 * v)) then 6 else (g (5 + 4 * v))) + (if ((6 - (if 6 ≤ (g (5 + 4 * v)) then 6 else (g (5 + 4 * v)))) - (if (6 - (if 6 ≤ (g (5 + 4 * v)) then 6 else (g (5 + 4 * v)))) ≤ (g (6 + 4 * v)) then (6 - (if 6 ≤ (g (5 + 4 * v)) then 6 else (g (5 + 4 * v)))) else (g (6 + 4 * v)))) ≤ (g (4 + 4 * v)) then ((6 - (if 6 ≤ (g (5 + 4 * v)) then 6 else (g (5 + 4 * v)))) - (if (6 - (if 6 ≤ (g (5 + 4 * v)) then 6 else (g (5 + 4 * v)))) ≤ (g (6 + 4 * v)) then (6 - (if 6 ≤ (g (5 + 4 * v)) then 6 else (g (5 + 4 * v)))) else (g (6 + 4 * v)))) else (g (4 + 4 * v)))))) 68 ((g 68) + (if ((6 - (if 6 ≤ (g (5 + 4 * v)) then 6 else (g (5 + 4 * v)))) - (if (6 - (if 6 ≤ (g (5 + 4 * v)) then 6 else (g (5 + 4 * v)))) ≤ (g (6 + 4 * v)) then (6 - (if 6 ≤ (g (5 + 4 * v)) then 6 else (g (5 + 4 * v)))) else (g (6 + 4 * v)))) ≤ (g (4 + 4 * v)) then ((6 - (if 6 ≤ (g (5 + 4 * v)) then 6 else (g (5 + 4 * v)))) - (if (6 - (if 6 ≤ (g (5 + 4 * v)) then 6 else (g (5 + 4 * v)))) ≤ (g (6 + 4 * v)) then (6 - (if 6 ≤ (g (5 + 4 * v)) then 6 else (g (5 + 4 * v)))) else (g (6 + 4 * v)))) else (g (4 + 4 * v))))) 69 ((g 69) + (if 6 ≤ (g (5 + 4 * v)) then 6 else (g (5 + 4 * v))))) 70 ((g 70) + (if (6 - (if 6 ≤ (g (5 + 4 * v)) then 6 else (g (5 + 4 * v)))) ≤ (g (6 + 4 * v)) then (6 - (if 6 ≤ (g (5 + 4 * v)) then 6 else (g (5 + 4 * v)))) else (g (6 + 4 * v))))) 75 = (g 75) from (rdN (by omega) (rdN (by omega) (rdN (by omega) (rdN (by omega) (rdN (by omega) (rdN (by omega) (rdN (by omega) rfl)))))))) ?_
              refine lv_iload_n hx hb dX7_blows_283 rfl (lv_at hl 2 rfl) ?_
              refine lv_iload hx hb dX7_blows_284 (lv_at hl 0 rfl) ?_
              refine lv_iadd hx hb dX7_blows_286 ?_
              refine lv_iadd hx hb dX7_blows_287 ?_
              refine ms_st (n := 75) cx wo rfl (by omega) dX7_blows_288 (fun H locs gz hgz wo => ?_)
              subst hgz
              refine lv_aload_n hx hb dX7_blows_289 rfl (lv_at hl 4 rfl) ?_
              refine mg_st cx wo m_631 dX7_blows_290 ?_
              refine lv_bipush (v := 76) hx hb dX7_blows_293 (by decide) ?_
              refine lv_iload_n hx hb dX7_blows_295 rfl (lv_at hl 5 rfl) ?_
              refine lv_iadd hx hb dX7_blows_296 ?_
              refine tope (y := (nI (76 + v))) (ai (a := 76) (b := v) rfl rfl (by omega)) ?_
              refine lv_dup2_11 hx hb dX7_blows_297 rfl rfl ?_
              refine ml_st (n := 76 + v) cx wo rfl (by omega) dX7_blows_298 ?_
              refine tope (y := (g (76 + v))) (show (upd (upd (upd (upd (upd (upd (upd (upd g (4 + 4 * v) ((g (4 + 4 * v)) - (if ((6 - (if 6 ≤ (g (5 + 4 * v)) then 6 else (g (5 + 4 * v)))) - (if (6 - (if 6 ≤ (g (5 + 4 * v)) then 6 else (g (5 + 4 * v)))) ≤ (g (6 + 4 * v)) then (6 - (if 6 ≤ (g (5 + 4 * v)) then 6 else (g (5 + 4 * v)))) else (g (6 + 4 * v)))) ≤ (g (4 + 4 * v)) then ((6 - (if 6 ≤ (g (5 + 4 * v)) then 6 else (g (5 + 4 * v)))) - (if (6 - (if 6 ≤ (g (5 + 4 * v)) then 6 else (g (5 + 4 * v)))) ≤ (g (6 + 4 * v)) then (6 - (if 6 ≤ (g (5 + 4 * v)) then 6 else (g (5 + 4 * v)))) else (g (6 + 4 * v)))) else (g (4 + 4 * v))))) (5 + 4 * v) ((g (5 + 4 * v)) - (if 6 ≤ (g (5 + 4 * v)) then 6 else (g (5 + 4 * v))))) (6 + 4 * v) ((g (6 + 4 * v)) - (if (6 - (if 6 ≤ (g (5 + 4 * v)) then 6 else (g (5 + 4 * v)))) ≤ (g (6 + 4 * v)) then (6 - (if 6 ≤ (g (5 + 4 * v)) then 6 else (g (5 + 4 * v)))) else (g (6 + 4 * v))))) (7 + 4 * v) ((g (7 + 4 * v)) + ((if 6 ≤ (g (5 + 4 * v)) then 6 else (g (5 + 4 * v))) + (if ((6 - (if 6 ≤ (g (5 + 4 * v)) then 6 else (g (5 + 4 * v)))) - (if (6 - (if 6 ≤ (g (5 + 4 * v)) then 6 else (g (5 + 4 * v)))) ≤ (g (6 + 4 * v)) then (6 - (if 6 ≤ (g (5 + 4 * v)) then 6 else (g (5 + 4 * v)))) else (g (6 + 4 * v)))) ≤ (g (4 + 4 * v)) then ((6 - (if 6 ≤ (g (5 + 4 * v)) then 6 else (g (5 + 4 * v)))) - (if (6 - (if 6 ≤ (g (5 + 4 * v)) then 6 else (g (5 + 4 * v)))) ≤ (g (6 + 4 * v)) then (6 - (if 6 ≤ (g (5 + 4 * v)) then 6 else (g (5 + 4 * v)))) else (g (6 + 4 * v)))) else (g (4 + 4 * v)))))) 68 ((g 68) + (if ((6 - (if 6 ≤ (g (5 + 4 * v)) then 6 else (g (5 + 4 * v)))) - (if (6 - (if 6 ≤ (g (5 + 4 * v)) then 6 else (g (5 + 4 * v)))) ≤ (g (6 + 4 * v)) then (6 - (if 6 ≤ (g (5 + 4 * v)) then 6 else (g (5 + 4 * v)))) else (g (6 + 4 * v)))) ≤ (g (4 + 4 * v)) then ((6 - (if 6 ≤ (g (5 + 4 * v)) then 6 else (g (5 + 4 * v)))) - (if (6 - (if 6 ≤ (g (5 + 4 * v)) then 6 else (g (5 + 4 * v)))) ≤ (g (6 + 4 * v)) then (6 - (if 6 ≤ (g (5 + 4 * v)) then 6 else (g (5 + 4 * v)))) else (g (6 + 4 * v)))) else (g (4 + 4 * v))))) 69 ((g 69) + (if 6 ≤ (g (5 + 4 * v)) then 6 else (g (5 + 4 * v))))) 70 ((g 70) + (if (6 - (if 6 ≤ (g (5 + 4 * v)) then 6 else (g (5 + 4 * v)))) ≤ (g (6 + 4 * v)) then (6 - (if 6 ≤ (g (5 + 4 * v)) then 6 else (g (5 + 4 * v)))) else (g (6 + 4 * v))))) 75 ((g 75) + ((if 6 ≤ (g (5 + 4 * v)) then 6 else (g (5 + 4 * v))) + (if ((6 - (if 6 ≤ (g (5 + 4 * v)) then 6 else (g (5 + 4 * v)))) - (if (6 - (if 6 ≤ (g (5 + 4 * v)) then 6 else (g (5 + 4 * v)))) ≤ (g (6 + 4 * v)) then (6 - (if 6 ≤ (g (5 + 4 * v)) then 6 else (g (5 + 4 * v)))) else (g (6 + 4 * v)))) ≤ (g (4 + 4 * v)) then ((6 - (if 6 ≤ (g (5 + 4 * v)) then 6 else (g (5 + 4 * v)))) - (if (6 - (if 6 ≤ (g (5 + 4 * v)) then 6 else (g (5 + 4 * v)))) ≤ (g (6 + 4 * v)) then (6 - (if 6 ≤ (g (5 + 4 * v)) then 6 else (g (5 + 4 * v)))) else (g (6 + 4 * v)))) else (g (4 + 4 * v)))))) (76 + v) = (g (76 + v)) from (rdN (by omega) (rdN (by omega) (rdN (by omega) (rdN (by omega) (rdN (by omega) (rdN (by omega) (rdN (by omega) (rdN (by omega) rfl))))))))) ?_
              refine lv_iconst (v := 4) hx hb dX7_blows_299 (by decide) ?_
              refine lv_iload_n hx hb dX7_blows_300 rfl (lv_at hl 2 rfl) ?_
              refine lv_imul hx hb dX7_blows_301 ?_
              refine lv_iconst (v := 3) hx hb dX7_blows_302 (by decide) ?_
              refine lv_iload hx hb dX7_blows_303 (lv_at hl 1 rfl) ?_
              refine lv_imul hx hb dX7_blows_305 ?_
              refine lv_iadd hx hb dX7_blows_306 ?_
              refine lv_iconst (v := 2) hx hb dX7_blows_307 (by decide) ?_
              refine lv_iload hx hb dX7_blows_308 (lv_at hl 0 rfl) ?_
              refine lv_imul hx hb dX7_blows_310 ?_
              refine lv_iadd hx hb dX7_blows_311 ?_
              refine lv_iadd hx hb dX7_blows_312 ?_
              refine ms_st (n := 76 + v) cx wo rfl (by omega) dX7_blows_313 (fun H locs gz hgz wo => ?_)
              subst hgz
              refine lv_aload_n hx hb dX7_blows_314 rfl (lv_at hl 4 rfl) ?_
              refine mg_st cx wo m_631 dX7_blows_315 ?_
              refine lv_sipush (v := 142) hx hb dX7_blows_318 (by decide) ?_
              refine lv_dup2_11 hx hb dX7_blows_321 rfl rfl ?_
              refine ml_st (n := 142) cx wo rfl (by omega) dX7_blows_322 ?_
              refine tope (y := (g 142)) (show (upd (upd (upd (upd (upd (upd (upd (upd (upd g (4 + 4 * v) ((g (4 + 4 * v)) - (if ((6 - (if 6 ≤ (g (5 + 4 * v)) then 6 else (g (5 + 4 * v)))) - (if (6 - (if 6 ≤ (g (5 + 4 * v)) then 6 else (g (5 + 4 * v)))) ≤ (g (6 + 4 * v)) then (6 - (if 6 ≤ (g (5 + 4 * v)) then 6 else (g (5 + 4 * v)))) else (g (6 + 4 * v)))) ≤ (g (4 + 4 * v)) then ((6 - (if 6 ≤ (g (5 + 4 * v)) then 6 else (g (5 + 4 * v)))) - (if (6 - (if 6 ≤ (g (5 + 4 * v)) then 6 else (g (5 + 4 * v)))) ≤ (g (6 + 4 * v)) then (6 - (if 6 ≤ (g (5 + 4 * v)) then 6 else (g (5 + 4 * v)))) else (g (6 + 4 * v)))) else (g (4 + 4 * v))))) (5 + 4 * v) ((g (5 + 4 * v)) - (if 6 ≤ (g (5 + 4 * v)) then 6 else (g (5 + 4 * v))))) (6 + 4 * v) ((g (6 + 4 * v)) - (if (6 - (if 6 ≤ (g (5 + 4 * v)) then 6 else (g (5 + 4 * v)))) ≤ (g (6 + 4 * v)) then (6 - (if 6 ≤ (g (5 + 4 * v)) then 6 else (g (5 + 4 * v)))) else (g (6 + 4 * v))))) (7 + 4 * v) ((g (7 + 4 * v)) + ((if 6 ≤ (g (5 + 4 * v)) then 6 else (g (5 + 4 * v))) + (if ((6 - (if 6 ≤ (g (5 + 4 * v)) then 6 else (g (5 + 4 * v)))) - (if (6 - (if 6 ≤ (g (5 + 4 * v)) then 6 else (g (5 + 4 * v)))) ≤ (g (6 + 4 * v)) then (6 - (if 6 ≤ (g (5 + 4 * v)) then 6 else (g (5 + 4 * v)))) else (g (6 + 4 * v)))) ≤ (g (4 + 4 * v)) then ((6 - (if 6 ≤ (g (5 + 4 * v)) then 6 else (g (5 + 4 * v)))) - (if (6 - (if 6 ≤ (g (5 + 4 * v)) then 6 else (g (5 + 4 * v)))) ≤ (g (6 + 4 * v)) then (6 - (if 6 ≤ (g (5 + 4 * v)) then 6 else (g (5 + 4 * v)))) else (g (6 + 4 * v)))) else (g (4 + 4 * v)))))) 68 ((g 68) + (if ((6 - (if 6 ≤ (g (5 + 4 * v)) then 6 else (g (5 + 4 * v)))) - (if (6 - (if 6 ≤ (g (5 + 4 * v)) then 6 else (g (5 + 4 * v)))) ≤ (g (6 + 4 * v)) then (6 - (if 6 ≤ (g (5 + 4 * v)) then 6 else (g (5 + 4 * v)))) else (g (6 + 4 * v)))) ≤ (g (4 + 4 * v)) then ((6 - (if 6 ≤ (g (5 + 4 * v)) then 6 else (g (5 + 4 * v)))) - (if (6 - (if 6 ≤ (g (5 + 4 * v)) then 6 else (g (5 + 4 * v)))) ≤ (g (6 + 4 * v)) then (6 - (if 6 ≤ (g (5 + 4 * v)) then 6 else (g (5 + 4 * v)))) else (g (6 + 4 * v)))) else (g (4 + 4 * v))))) 69 ((g 69) + (if 6 ≤ (g (5 + 4 * v)) then 6 else (g (5 + 4 * v))))) 70 ((g 70) + (if (6 - (if 6 ≤ (g (5 + 4 * v)) then 6 else (g (5 + 4 * v)))) ≤ (g (6 + 4 * v)) then (6 - (if 6 ≤ (g (5 + 4 * v)) then 6 else (g (5 + 4 * v)))) else (g (6 + 4 * v))))) 75 ((g 75) + ((if 6 ≤ (g (5 + 4 * v)) then 6 else (g (5 + 4 * v))) + (if ((6 - (if 6 ≤ (g (5 + 4 * v)) then 6 else (g (5 + 4 * v)))) - (if (6 - (if 6 ≤ (g (5 + 4 * v)) then 6 else (g (5 + 4 * v)))) ≤ (g (6 + 4 * v)) then (6 - (if 6 ≤ (g (5 + 4 * v)) then 6 else (g (5 + 4 * v)))) else (g (6 + 4 * v)))) ≤ (g (4 + 4 * v)) then ((6 - (if 6 ≤ (g (5 + 4 * v)) then 6 else (g (5 + 4 * v)))) - (if (6 - (if 6 ≤ (g (5 + 4 * v)) then 6 else (g (5 + 4 * v)))) ≤ (g (6 + 4 * v)) then (6 - (if 6 ≤ (g (5 + 4 * v)) then 6 else (g (5 + 4 * v)))) else (g (6 + 4 * v)))) else (g (4 + 4 * v)))))) (76 + v) ((g (76 + v)) + (((4 * (if 6 ≤ (g (5 + 4 * v)) then 6 else (g (5 + 4 * v)))) + (3 * (if (6 - (if 6 ≤ (g (5 + 4 * v)) then 6 else (g (5 + 4 * v)))) ≤ (g (6 + 4 * v)) then (6 - (if 6 ≤ (g (5 + 4 * v)) then 6 else (g (5 + 4 * v)))) else (g (6 + 4 * v))))) + (2 * (if ((6 - (if 6 ≤ (g (5 + 4 * v)) then 6 else (g (5 + 4 * v)))) - (if (6 - (if 6 ≤ (g (5 + 4 * v)) then 6 else (g (5 + 4 * v)))) ≤ (g (6 + 4 * v)) then (6 - (if 6 ≤ (g (5 + 4 * v)) then 6 else (g (5 + 4 * v)))) else (g (6 + 4 * v)))) ≤ (g (4 + 4 * v)) then ((6 - (if 6 ≤ (g (5 + 4 * v)) then 6 else (g (5 + 4 * v)))) - (if (6 - (if 6 ≤ (g (5 + 4 * v)) then 6 else (g (5 + 4 * v)))) ≤ (g (6 + 4 * v)) then (6 - (if 6 ≤ (g (5 + 4 * v)) then 6 else (g (5 + 4 * v)))) else (g (6 + 4 * v)))) else (g (4 + 4 * v))))))) 142 = (g 142) from (rdN (by omega) (rdN (by omega) (rdN (by omega) (rdN (by omega) (rdN (by omega) (rdN (by omega) (rdN (by omega) (rdN (by omega) (rdN (by omega) rfl)))))))))) ?_
              refine lv_iload hx hb dX7_blows_323 (lv_at hl 1 rfl) ?_
              refine lv_iadd hx hb dX7_blows_325 ?_
              refine ms_st (n := 142) cx wo rfl (by omega) dX7_blows_326 (fun H locs gz hgz wo => ?_)
              subst hgz
              refine lv_aload_n hx hb dX7_blows_327 rfl (lv_at hl 4 rfl) ?_
              refine mg_st cx wo m_631 dX7_blows_328 ?_
              refine lv_sipush (v := 141) hx hb dX7_blows_331 (by decide) ?_
              refine lv_dup2_11 hx hb dX7_blows_334 rfl rfl ?_
              refine ml_st (n := 141) cx wo rfl (by omega) dX7_blows_335 ?_
              refine tope (y := (g 141)) (show (upd (upd (upd (upd (upd (upd (upd (upd (upd (upd g (4 + 4 * v) ((g (4 + 4 * v)) - (if ((6 - (if 6 ≤ (g (5 + 4 * v)) then 6 else (g (5 + 4 * v)))) - (if (6 - (if 6 ≤ (g (5 + 4 * v)) then 6 else (g (5 + 4 * v)))) ≤ (g (6 + 4 * v)) then (6 - (if 6 ≤ (g (5 + 4 * v)) then 6 else (g (5 + 4 * v)))) else (g (6 + 4 * v)))) ≤ (g (4 + 4 * v)) then ((6 - (if 6 ≤ (g (5 + 4 * v)) then 6 else (g (5 + 4 * v)))) - (if (6 - (if 6 ≤ (g (5 + 4 * v)) then 6 else (g (5 + 4 * v)))) ≤ (g (6 + 4 * v)) then (6 - (if 6 ≤ (g (5 + 4 * v)) then 6 else (g (5 + 4 * v)))) else (g (6 + 4 * v)))) else (g (4 + 4 * v))))) (5 + 4 * v) ((g (5 + 4 * v)) - (if 6 ≤ (g (5 + 4 * v)) then 6 else (g (5 + 4 * v))))) (6 + 4 * v) ((g (6 + 4 * v)) - (if (6 - (if 6 ≤ (g (5 + 4 * v)) then 6 else (g (5 + 4 * v)))) ≤ (g (6 + 4 * v)) then (6 - (if 6 ≤ (g (5 + 4 * v)) then 6 else (g (5 + 4 * v)))) else (g (6 + 4 * v))))) (7 + 4 * v) ((g (7 + 4 * v)) + ((if 6 ≤ (g (5 + 4 * v)) then 6 else (g (5 + 4 * v))) + (if ((6 - (if 6 ≤ (g (5 + 4 * v)) then 6 else (g (5 + 4 * v)))) - (if (6 - (if 6 ≤ (g (5 + 4 * v)) then 6 else (g (5 + 4 * v)))) ≤ (g (6 + 4 * v)) then (6 - (if 6 ≤ (g (5 + 4 * v)) then 6 else (g (5 + 4 * v)))) else (g (6 + 4 * v)))) ≤ (g (4 + 4 * v)) then ((6 - (if 6 ≤ (g (5 + 4 * v)) then 6 else (g (5 + 4 * v)))) - (if (6 - (if 6 ≤ (g (5 + 4 * v)) then 6 else (g (5 + 4 * v)))) ≤ (g (6 + 4 * v)) then (6 - (if 6 ≤ (g (5 + 4 * v)) then 6 else (g (5 + 4 * v)))) else (g (6 + 4 * v)))) else (g (4 + 4 * v)))))) 68 ((g 68) + (if ((6 - (if 6 ≤ (g (5 + 4 * v)) then 6 else (g (5 + 4 * v)))) - (if (6 - (if 6 ≤ (g (5 + 4 * v)) then 6 else (g (5 + 4 * v)))) ≤ (g (6 + 4 * v)) then (6 - (if 6 ≤ (g (5 + 4 * v)) then 6 else (g (5 + 4 * v)))) else (g (6 + 4 * v)))) ≤ (g (4 + 4 * v)) then ((6 - (if 6 ≤ (g (5 + 4 * v)) then 6 else (g (5 + 4 * v)))) - (if (6 - (if 6 ≤ (g (5 + 4 * v)) then 6 else (g (5 + 4 * v)))) ≤ (g (6 + 4 * v)) then (6 - (if 6 ≤ (g (5 + 4 * v)) then 6 else (g (5 + 4 * v)))) else (g (6 + 4 * v)))) else (g (4 + 4 * v))))) 69 ((g 69) + (if 6 ≤ (g (5 + 4 * v)) then 6 else (g (5 + 4 * v))))) 70 ((g 70) + (if (6 - (if 6 ≤ (g (5 + 4 * v)) then 6 else (g (5 + 4 * v)))) ≤ (g (6 + 4 * v)) then (6 - (if 6 ≤ (g (5 + 4 * v)) then 6 else (g (5 + 4 * v)))) else (g (6 + 4 * v))))) 75 ((g 75) + ((if 6 ≤ (g (5 + 4 * v)) then 6 else (g (5 + 4 * v))) + (if ((6 - (if 6 ≤ (g (5 + 4 * v)) then 6 else (g (5 + 4 * v)))) - (if (6 - (if 6 ≤ (g (5 + 4 * v)) then 6 else (g (5 + 4 * v)))) ≤ (g (6 + 4 * v)) then (6 - (if 6 ≤ (g (5 + 4 * v)) then 6 else (g (5 + 4 * v)))) else (g (6 + 4 * v)))) ≤ (g (4 + 4 * v)) then ((6 - (if 6 ≤ (g (5 + 4 * v)) then 6 else (g (5 + 4 * v)))) - (if (6 - (if 6 ≤ (g (5 + 4 * v)) then 6 else (g (5 + 4 * v)))) ≤ (g (6 + 4 * v)) then (6 - (if 6 ≤ (g (5 + 4 * v)) then 6 else (g (5 + 4 * v)))) else (g (6 + 4 * v)))) else (g (4 + 4 * v)))))) (76 + v) ((g (76 + v)) + (((4 * (if 6 ≤ (g (5 + 4 * v)) then 6 else (g (5 + 4 * v)))) + (3 * (if (6 - (if 6 ≤ (g (5 + 4 * v)) then 6 else (g (5 + 4 * v)))) ≤ (g (6 + 4 * v)) then (6 - (if 6 ≤ (g (5 + 4 * v)) then 6 else (g (5 + 4 * v)))) else (g (6 + 4 * v))))) + (2 * (if ((6 - (if 6 ≤ (g (5 + 4 * v)) then 6 else (g (5 + 4 * v)))) - (if (6 - (if 6 ≤ (g (5 + 4 * v)) then 6 else (g (5 + 4 * v)))) ≤ (g (6 + 4 * v)) then (6 - (if 6 ≤ (g (5 + 4 * v)) then 6 else (g (5 + 4 * v)))) else (g (6 + 4 * v)))) ≤ (g (4 + 4 * v)) then ((6 - (if 6 ≤ (g (5 + 4 * v)) then 6 else (g (5 + 4 * v)))) - (if (6 - (if 6 ≤ (g (5 + 4 * v)) then 6 else (g (5 + 4 * v)))) ≤ (g (6 + 4 * v)) then (6 - (if 6 ≤ (g (5 + 4 * v)) then 6 else (g (5 + 4 * v)))) else (g (6 + 4 * v)))) else (g (4 + 4 * v))))))) 142 ((g 142) + (if (6 - (if 6 ≤ (g (5 + 4 * v)) then 6 else (g (5 + 4 * v)))) ≤ (g (6 + 4 * v)) then (6 - (if 6 ≤ (g (5 + 4 * v)) then 6 else (g (5 + 4 * v)))) else (g (6 + 4 * v))))) 141 = (g 141) from (rdN (by omega) (rdN (by omega) (rdN (by omega) (rdN (by omega) (rdN (by omega) (rdN (by omega) (rdN (by omega) (rdN (by omega) (rdN (by omega) (rdN (by omega) rfl))))))))))) ?_
              refine lv_iload hx hb dX7_blows_336 (lv_at hl 1 rfl) ?_
              refine lv_iadd hx hb dX7_blows_338 ?_
              refine ms_st (n := 141) cx wo rfl (by omega) dX7_blows_339 (fun H locs gz hgz wo => ?_)
              subst hgz
              exact r2_v cx hQ wo dX7_blows_340 (by subst hM; exact ⟨rfl, rfl⟩)
            · skip
              rw [if_neg c_6] at hM
              refine lv_aload_n hx hb dX7_blows_175 rfl (lv_at hl 4 rfl) ?_
              refine mg_st cx wo m_631 dX7_blows_176 ?_
              refine lv_bipush (v := 82) hx hb dX7_blows_179 (by decide) ?_
              refine lv_iload_n hx hb dX7_blows_181 rfl (lv_at hl 5 rfl) ?_
              refine lv_iadd hx hb dX7_blows_182 ?_
              refine tope (y := (nI (82 + v))) (ai (a := 82) (b := v) rfl rfl (by omega)) ?_
              refine lv_dup2_11 hx hb dX7_blows_183 rfl rfl ?_
              refine ml_st (n := 82 + v) cx wo rfl (by omega) dX7_blows_184 ?_
              refine lv_iconst (v := 1) hx hb dX7_blows_185 (by decide) ?_
              refine lv_iadd hx hb dX7_blows_186 ?_
              refine ms_st (n := 82 + v) cx wo rfl (by omega) dX7_blows_187 (fun H locs gz hgz wo => ?_)
              subst hgz
              exact r2_v cx hQ wo dX7_blows_188 (by subst hM; exact ⟨rfl, rfl⟩)
          refine lv_icmp_ge (tgt := 144) hx hb dX7_blows_132 (by decide) (fun c_7 => ?_) (fun c_7 => ?_)
          · skip
            refine lv_bipush (v := 6) hx hb dX7_blows_144 (by decide) ?_
            refine lv_iload_n hx hb dX7_blows_146 rfl (lv_at hl 1 rfl) ?_
            refine lv_isub hx hb dX7_blows_147 ?_
            refine lv_iload hx hb dX7_blows_148 (lv_at hl 0 rfl) ?_
            refine lv_isub hx hb dX7_blows_150 ?_
            rw [if_pos c_7] at hj_5
            exact hj_5 _ _ _ wo (lv_sub hl [0, 1, 2, 3, 4] rfl)
          · skip
            refine lv_aload_n hx hb dX7_blows_135 rfl (lv_at hl 3 rfl) ?_
            refine mg_st cx wo m_631 dX7_blows_136 ?_
            refine lv_iload_n hx hb dX7_blows_139 rfl (lv_at hl 2 rfl) ?_
            refine ml_st (n := 4 + 4 * v) cx wo rfl (by omega) dX7_blows_140 ?_
            refine lv_goto (tgt := 151) hx hb dX7_blows_141 (by decide) ?_
            rw [if_neg c_7] at hj_5
            exact hj_5 _ _ _ wo (lv_sub hl [0, 1, 2, 3, 4] rfl)
        refine lv_icmp_ge (tgt := 113) hx hb dX7_blows_99 (by decide) (fun c_8 => ?_) (fun c_8 => ?_)
        · skip
          refine lv_bipush (v := 6) hx hb dX7_blows_113 (by decide) ?_
          refine lv_iload_n hx hb dX7_blows_115 rfl (lv_at hl 0 rfl) ?_
          refine lv_isub hx hb dX7_blows_116 ?_
          rw [if_pos c_8] at hj_4
          exact hj_4 _ _ _ wo (lv_sub hl [0, 1, 2, 3] rfl)
        · skip
          refine lv_aload_n hx hb dX7_blows_102 rfl (lv_at hl 2 rfl) ?_
          refine mg_st cx wo m_631 dX7_blows_103 ?_
          refine lv_iload_n hx hb dX7_blows_106 rfl (lv_at hl 1 rfl) ?_
          refine lv_iconst (v := 2) hx hb dX7_blows_107 (by decide) ?_
          refine lv_iadd hx hb dX7_blows_108 ?_
          refine tope (y := (nI (6 + 4 * v))) (ai (a := 4 + 4 * v) (b := 2) rfl rfl (by omega)) ?_
          refine ml_st (n := 6 + 4 * v) cx wo rfl (by omega) dX7_blows_109 ?_
          refine lv_goto (tgt := 117) hx hb dX7_blows_110 (by decide) ?_
          rw [if_neg c_8] at hj_4
          exact hj_4 _ _ _ wo (lv_sub hl [0, 1, 2, 3] rfl)
      refine lv_icmp_ge (tgt := 84) hx hb dX7_blows_70 (by decide) (fun c_9 => ?_) (fun c_9 => ?_)
      · skip
        refine lv_bipush (v := 6) hx hb dX7_blows_84 (by decide) ?_
        rw [if_pos c_9] at hj_3
        exact hj_3 _ _ _ wo (lv_sub hl [0, 1, 2] rfl)
      · skip
        refine lv_aload_n hx hb dX7_blows_73 rfl (lv_at hl 1 rfl) ?_
        refine mg_st cx wo m_631 dX7_blows_74 ?_
        refine lv_iload_n hx hb dX7_blows_77 rfl (lv_at hl 0 rfl) ?_
        refine lv_iconst (v := 1) hx hb dX7_blows_78 (by decide) ?_
        refine lv_iadd hx hb dX7_blows_79 ?_
        refine tope (y := (nI (5 + 4 * v))) (ai (a := 4 + 4 * v) (b := 1) rfl rfl (by omega)) ?_
        refine ml_st (n := 5 + 4 * v) cx wo rfl (by omega) dX7_blows_80 ?_
        refine lv_goto (tgt := 86) hx hb dX7_blows_81 (by decide) ?_
        rw [if_neg c_9] at hj_3
        exact hj_3 _ _ _ wo (lv_sub hl [0, 1, 2] rfl)
    · skip
      rw [if_neg c_2] at hM
      refine lv_aload_n hx hb dX7_blows_30 rfl (lv_at hl 0 rfl) ?_
      refine mg_st cx wo m_631 dX7_blows_31 ?_
      refine lv_bipush (v := 79) hx hb dX7_blows_34 (by decide) ?_
      refine lv_iload_n hx hb dX7_blows_36 rfl (lv_at hl 1 rfl) ?_
      refine lv_iadd hx hb dX7_blows_37 ?_
      refine tope (y := (nI (79 + v))) (ai (a := 79) (b := v) rfl rfl (by omega)) ?_
      refine lv_iconst (v := 0) hx hb dX7_blows_38 (by decide) ?_
      refine ms_st (n := 79 + v) cx wo rfl (by omega) dX7_blows_39 (fun H locs gz hgz wo => ?_)
      subst hgz
      refine lv_aload_n hx hb dX7_blows_40 rfl (lv_at hl 0 rfl) ?_
      refine mg_st cx wo m_631 dX7_blows_41 ?_
      refine lv_bipush (v := 85) hx hb dX7_blows_44 (by decide) ?_
      refine lv_iload_n hx hb dX7_blows_46 rfl (lv_at hl 1 rfl) ?_
      refine lv_iadd hx hb dX7_blows_47 ?_
      refine tope (y := (nI (85 + v))) (ai (a := 85) (b := v) rfl rfl (by omega)) ?_
      refine lv_dup2_11 hx hb dX7_blows_48 rfl rfl ?_
      refine ml_st (n := 85 + v) cx wo rfl (by omega) dX7_blows_49 ?_
      refine tope (y := (g (85 + v))) (show (upd g (79 + v) 0) (85 + v) = (g (85 + v)) from (rdN (by omega) rfl)) ?_
      refine lv_iconst (v := 1) hx hb dX7_blows_50 (by decide) ?_
      refine lv_iadd hx hb dX7_blows_51 ?_
      refine ms_st (n := 85 + v) cx wo rfl (by omega) dX7_blows_52 (fun H locs gz hgz wo => ?_)
      subst hgz
      exact r2_v cx hQ wo dX7_blows_53 (by subst hM; exact ⟨rfl, rfl⟩)
abbrev rm_X7_standsAt : Room := { frames := 0, cells := 0, slots := 0, locals := 0 }
def m_X7_standsAt (g : St) (x : Int32) : Int32 :=
  if (g 88) = x then (if 0 ≤ (g 92) then (if (g 89) = x then (if 0 ≤ (g 93) then (if (g 90) = x then (if 0 ≤ (g 94) then (if (g 91) = x then (if 0 ≤ (g 95) then (-1)
                else 3)
              else (-1))
            else 2)
          else if (g 91) = x then (if 0 ≤ (g 95) then (-1)
            else 3)
          else (-1))
        else 1)
      else if (g 90) = x then (if 0 ≤ (g 94) then (if (g 91) = x then (if 0 ≤ (g 95) then (-1)
            else 3)
          else (-1))
        else 2)
      else if (g 91) = x then (if 0 ≤ (g 95) then (-1)
        else 3)
      else (-1))
    else 0)
  else if (g 89) = x then (if 0 ≤ (g 93) then (if (g 90) = x then (if 0 ≤ (g 94) then (if (g 91) = x then (if 0 ≤ (g 95) then (-1)
            else 3)
          else (-1))
        else 2)
      else if (g 91) = x then (if 0 ≤ (g 95) then (-1)
        else 3)
      else (-1))
    else 1)
  else if (g 90) = x then (if 0 ≤ (g 94) then (if (g 91) = x then (if 0 ≤ (g 95) then (-1)
        else 3)
      else (-1))
    else 2)
  else if (g 91) = x then (if 0 ≤ (g 95) then (-1)
    else 3)
  else (-1)
set_option maxHeartbeats 4000000 in
set_option maxRecDepth 100000 in
theorem c_X7_standsAt (l : Launch) (G : GG) (am : Nat → Nat) (g kf : St) (nk : Int32) (x : Int32) : Ct l G yX7_standsAt cX7_standsAt 3 (some Jvm.ClassFile.FieldType.int) rm_X7_standsAt [.ref (am 0), .int x] (mw G am g kf nk) (fun rv W1 => rv = some (.int (m_X7_standsAt g x)) ∧ W1 = mw G am g kf nk) := by
  refine Ct.mk2 (by decide) (Nat.le_of_ble_eq_true rfl) ?_
  intro p e s m args below meth c A H locs ls Q cx wo hl hQ
  obtain ⟨hx, hb, hml, hr, hlo, hown, hts, hnm, kn, hA⟩ := id cx
  have hl : lv_has ls 3 [(0, .ref (am 0)), (1, .int x)] := hl
  generalize hM : m_X7_standsAt g x = M at hQ
  unfold m_X7_standsAt at hM
  refine lv_iconst (v := 0) hx hb dX7_standsAt_0 (by decide) ?_
  refine lv_istore_n (lv' := [(2, .int 0), (0, .ref (am 0)), (1, .int x)]) hx hb dX7_standsAt_1 rfl hl (by decide) rfl (fun ls hl => ?_)
  refine lv_iload_n hx hb dX7_standsAt_2 rfl (lv_at hl 0 rfl) ?_
  refine lv_iconst (v := 4) hx hb dX7_standsAt_3 (by decide) ?_
  refine lv_icmp_ge (tgt := 40) hx hb dX7_standsAt_4 (by decide) (fun h => absurd h (by decide)) (fun _ => ?_)
  refine lv_aload_n hx hb dX7_standsAt_7 rfl (lv_at hl 1 rfl) ?_
  refine mg_st cx wo m_631 dX7_standsAt_8 ?_
  refine lv_bipush (v := 88) hx hb dX7_standsAt_11 (by decide) ?_
  refine lv_iload_n hx hb dX7_standsAt_13 rfl (lv_at hl 0 rfl) ?_
  refine lv_iadd hx hb dX7_standsAt_14 ?_
  refine tope (y := 88) (by decide) ?_
  refine ml_st (n := 88) cx wo rfl (by omega) dX7_standsAt_15 ?_
  refine lv_iload_n hx hb dX7_standsAt_16 rfl (lv_at hl 2 rfl) ?_
  refine lv_icmp_ne (tgt := 34) hx hb dX7_standsAt_17 (by decide) (fun c_1 => ?_) (fun c_1 => ?_)
  · skip
    rw [if_neg c_1] at hM
    refine lv_iinc (v := 1) (lv' := [(2, .int 1), (0, .ref (am 0)), (1, .int x)]) hx hb dX7_standsAt_34 hl (k := 0) rfl (by decide) (by decide) rfl (fun ls hl => ?_)
    refine lv_goto (tgt := 2) hx hb dX7_standsAt_37 (by decide) ?_
    refine lv_iload_n hx hb dX7_standsAt_2 rfl (lv_at hl 0 rfl) ?_
    refine lv_iconst (v := 4) hx hb dX7_standsAt_3 (by decide) ?_
    refine lv_icmp_ge (tgt := 40) hx hb dX7_standsAt_4 (by decide) (fun h => absurd h (by decide)) (fun _ => ?_)
    refine lv_aload_n hx hb dX7_standsAt_7 rfl (lv_at hl 1 rfl) ?_
    refine mg_st cx wo m_631 dX7_standsAt_8 ?_
    refine lv_bipush (v := 88) hx hb dX7_standsAt_11 (by decide) ?_
    refine lv_iload_n hx hb dX7_standsAt_13 rfl (lv_at hl 0 rfl) ?_
    refine lv_iadd hx hb dX7_standsAt_14 ?_
    refine tope (y := 89) (by decide) ?_
    refine ml_st (n := 89) cx wo rfl (by omega) dX7_standsAt_15 ?_
    refine lv_iload_n hx hb dX7_standsAt_16 rfl (lv_at hl 2 rfl) ?_
    refine lv_icmp_ne (tgt := 34) hx hb dX7_standsAt_17 (by decide) (fun c_2 => ?_) (fun c_2 => ?_)
    · skip
      rw [if_neg c_2] at hM
      refine lv_iinc (v := 2) (lv' := [(2, .int 2), (0, .ref (am 0)), (1, .int x)]) hx hb dX7_standsAt_34 hl (k := 0) rfl (by decide) (by decide) rfl (fun ls hl => ?_)
      refine lv_goto (tgt := 2) hx hb dX7_standsAt_37 (by decide) ?_
      refine lv_iload_n hx hb dX7_standsAt_2 rfl (lv_at hl 0 rfl) ?_
      refine lv_iconst (v := 4) hx hb dX7_standsAt_3 (by decide) ?_
      refine lv_icmp_ge (tgt := 40) hx hb dX7_standsAt_4 (by decide) (fun h => absurd h (by decide)) (fun _ => ?_)
      refine lv_aload_n hx hb dX7_standsAt_7 rfl (lv_at hl 1 rfl) ?_
      refine mg_st cx wo m_631 dX7_standsAt_8 ?_
      refine lv_bipush (v := 88) hx hb dX7_standsAt_11 (by decide) ?_
      refine lv_iload_n hx hb dX7_standsAt_13 rfl (lv_at hl 0 rfl) ?_
      refine lv_iadd hx hb dX7_standsAt_14 ?_
      refine tope (y := 90) (by decide) ?_
      refine ml_st (n := 90) cx wo rfl (by omega) dX7_standsAt_15 ?_
      refine lv_iload_n hx hb dX7_standsAt_16 rfl (lv_at hl 2 rfl) ?_
      refine lv_icmp_ne (tgt := 34) hx hb dX7_standsAt_17 (by decide) (fun c_3 => ?_) (fun c_3 => ?_)
      · skip
        rw [if_neg c_3] at hM
        refine lv_iinc (v := 3) (lv' := [(2, .int 3), (0, .ref (am 0)), (1, .int x)]) hx hb dX7_standsAt_34 hl (k := 0) rfl (by decide) (by decide) rfl (fun ls hl => ?_)
        refine lv_goto (tgt := 2) hx hb dX7_standsAt_37 (by decide) ?_
        refine lv_iload_n hx hb dX7_standsAt_2 rfl (lv_at hl 0 rfl) ?_
        refine lv_iconst (v := 4) hx hb dX7_standsAt_3 (by decide) ?_
        refine lv_icmp_ge (tgt := 40) hx hb dX7_standsAt_4 (by decide) (fun h => absurd h (by decide)) (fun _ => ?_)
        refine lv_aload_n hx hb dX7_standsAt_7 rfl (lv_at hl 1 rfl) ?_
        refine mg_st cx wo m_631 dX7_standsAt_8 ?_
        refine lv_bipush (v := 88) hx hb dX7_standsAt_11 (by decide) ?_
        refine lv_iload_n hx hb dX7_standsAt_13 rfl (lv_at hl 0 rfl) ?_
        refine lv_iadd hx hb dX7_standsAt_14 ?_
        refine tope (y := 91) (by decide) ?_
        refine ml_st (n := 91) cx wo rfl (by omega) dX7_standsAt_15 ?_
        refine lv_iload_n hx hb dX7_standsAt_16 rfl (lv_at hl 2 rfl) ?_
        refine lv_icmp_ne (tgt := 34) hx hb dX7_standsAt_17 (by decide) (fun c_4 => ?_) (fun c_4 => ?_)
        · skip
          rw [if_neg c_4] at hM
          refine lv_iinc (v := 4) (lv' := [(2, .int 4), (0, .ref (am 0)), (1, .int x)]) hx hb dX7_standsAt_34 hl (k := 0) rfl (by decide) (by decide) rfl (fun ls hl => ?_)
          refine lv_goto (tgt := 2) hx hb dX7_standsAt_37 (by decide) ?_
          refine lv_iload_n hx hb dX7_standsAt_2 rfl (lv_at hl 0 rfl) ?_
          refine lv_iconst (v := 4) hx hb dX7_standsAt_3 (by decide) ?_
          refine lv_icmp_ge (tgt := 40) hx hb dX7_standsAt_4 (by decide) (fun _ => ?_) (fun h => absurd (show ¬ _ from h) (by decide))
          refine lv_iconst (v := (-1)) hx hb dX7_standsAt_40 (by decide) ?_
          exact r2_i cx hQ wo dX7_standsAt_41 (by subst hM; exact ⟨rfl, rfl⟩)
        · skip
          rw [if_pos c_4] at hM
          refine lv_aload_n hx hb dX7_standsAt_20 rfl (lv_at hl 1 rfl) ?_
          refine mg_st cx wo m_631 dX7_standsAt_21 ?_
          refine lv_bipush (v := 92) hx hb dX7_standsAt_24 (by decide) ?_
          refine lv_iload_n hx hb dX7_standsAt_26 rfl (lv_at hl 0 rfl) ?_
          refine lv_iadd hx hb dX7_standsAt_27 ?_
          refine tope (y := 95) (by decide) ?_
          refine ml_st (n := 95) cx wo rfl (by omega) dX7_standsAt_28 ?_
          refine lv_if_ge (tgt := 34) hx hb dX7_standsAt_29 (by decide) (fun c_5 => ?_) (fun c_5 => ?_)
          · skip
            rw [if_pos c_5] at hM
            refine lv_iinc (v := 4) (lv' := [(2, .int 4), (0, .ref (am 0)), (1, .int x)]) hx hb dX7_standsAt_34 hl (k := 0) rfl (by decide) (by decide) rfl (fun ls hl => ?_)
            refine lv_goto (tgt := 2) hx hb dX7_standsAt_37 (by decide) ?_
            refine lv_iload_n hx hb dX7_standsAt_2 rfl (lv_at hl 0 rfl) ?_
            refine lv_iconst (v := 4) hx hb dX7_standsAt_3 (by decide) ?_
            refine lv_icmp_ge (tgt := 40) hx hb dX7_standsAt_4 (by decide) (fun _ => ?_) (fun h => absurd (show ¬ _ from h) (by decide))
            refine lv_iconst (v := (-1)) hx hb dX7_standsAt_40 (by decide) ?_
            exact r2_i cx hQ wo dX7_standsAt_41 (by subst hM; exact ⟨rfl, rfl⟩)
          · skip
            rw [if_neg c_5] at hM
            refine lv_iload_n hx hb dX7_standsAt_32 rfl (lv_at hl 0 rfl) ?_
            exact r2_i cx hQ wo dX7_standsAt_33 (by subst hM; exact ⟨rfl, rfl⟩)
      · skip
        rw [if_pos c_3] at hM
        refine lv_aload_n hx hb dX7_standsAt_20 rfl (lv_at hl 1 rfl) ?_
        refine mg_st cx wo m_631 dX7_standsAt_21 ?_
        refine lv_bipush (v := 92) hx hb dX7_standsAt_24 (by decide) ?_
        refine lv_iload_n hx hb dX7_standsAt_26 rfl (lv_at hl 0 rfl) ?_
        refine lv_iadd hx hb dX7_standsAt_27 ?_
        refine tope (y := 94) (by decide) ?_
        refine ml_st (n := 94) cx wo rfl (by omega) dX7_standsAt_28 ?_
        refine lv_if_ge (tgt := 34) hx hb dX7_standsAt_29 (by decide) (fun c_6 => ?_) (fun c_6 => ?_)
        · skip
          rw [if_pos c_6] at hM
          refine lv_iinc (v := 3) (lv' := [(2, .int 3), (0, .ref (am 0)), (1, .int x)]) hx hb dX7_standsAt_34 hl (k := 0) rfl (by decide) (by decide) rfl (fun ls hl => ?_)
          refine lv_goto (tgt := 2) hx hb dX7_standsAt_37 (by decide) ?_
          refine lv_iload_n hx hb dX7_standsAt_2 rfl (lv_at hl 0 rfl) ?_
          refine lv_iconst (v := 4) hx hb dX7_standsAt_3 (by decide) ?_
          refine lv_icmp_ge (tgt := 40) hx hb dX7_standsAt_4 (by decide) (fun h => absurd h (by decide)) (fun _ => ?_)
          refine lv_aload_n hx hb dX7_standsAt_7 rfl (lv_at hl 1 rfl) ?_
          refine mg_st cx wo m_631 dX7_standsAt_8 ?_
          refine lv_bipush (v := 88) hx hb dX7_standsAt_11 (by decide) ?_
          refine lv_iload_n hx hb dX7_standsAt_13 rfl (lv_at hl 0 rfl) ?_
          refine lv_iadd hx hb dX7_standsAt_14 ?_
          refine tope (y := 91) (by decide) ?_
          refine ml_st (n := 91) cx wo rfl (by omega) dX7_standsAt_15 ?_
          refine lv_iload_n hx hb dX7_standsAt_16 rfl (lv_at hl 2 rfl) ?_
          refine lv_icmp_ne (tgt := 34) hx hb dX7_standsAt_17 (by decide) (fun c_7 => ?_) (fun c_7 => ?_)
          · skip
            rw [if_neg c_7] at hM
            refine lv_iinc (v := 4) (lv' := [(2, .int 4), (0, .ref (am 0)), (1, .int x)]) hx hb dX7_standsAt_34 hl (k := 0) rfl (by decide) (by decide) rfl (fun ls hl => ?_)
            refine lv_goto (tgt := 2) hx hb dX7_standsAt_37 (by decide) ?_
            refine lv_iload_n hx hb dX7_standsAt_2 rfl (lv_at hl 0 rfl) ?_
            refine lv_iconst (v := 4) hx hb dX7_standsAt_3 (by decide) ?_
            refine lv_icmp_ge (tgt := 40) hx hb dX7_standsAt_4 (by decide) (fun _ => ?_) (fun h => absurd (show ¬ _ from h) (by decide))
            refine lv_iconst (v := (-1)) hx hb dX7_standsAt_40 (by decide) ?_
            exact r2_i cx hQ wo dX7_standsAt_41 (by subst hM; exact ⟨rfl, rfl⟩)
          · skip
            rw [if_pos c_7] at hM
            refine lv_aload_n hx hb dX7_standsAt_20 rfl (lv_at hl 1 rfl) ?_
            refine mg_st cx wo m_631 dX7_standsAt_21 ?_
            refine lv_bipush (v := 92) hx hb dX7_standsAt_24 (by decide) ?_
            refine lv_iload_n hx hb dX7_standsAt_26 rfl (lv_at hl 0 rfl) ?_
            refine lv_iadd hx hb dX7_standsAt_27 ?_
            refine tope (y := 95) (by decide) ?_
            refine ml_st (n := 95) cx wo rfl (by omega) dX7_standsAt_28 ?_
            refine lv_if_ge (tgt := 34) hx hb dX7_standsAt_29 (by decide) (fun c_8 => ?_) (fun c_8 => ?_)
            · skip
              rw [if_pos c_8] at hM
              refine lv_iinc (v := 4) (lv' := [(2, .int 4), (0, .ref (am 0)), (1, .int x)]) hx hb dX7_standsAt_34 hl (k := 0) rfl (by decide) (by decide) rfl (fun ls hl => ?_)
              refine lv_goto (tgt := 2) hx hb dX7_standsAt_37 (by decide) ?_
              refine lv_iload_n hx hb dX7_standsAt_2 rfl (lv_at hl 0 rfl) ?_
              refine lv_iconst (v := 4) hx hb dX7_standsAt_3 (by decide) ?_
              refine lv_icmp_ge (tgt := 40) hx hb dX7_standsAt_4 (by decide) (fun _ => ?_) (fun h => absurd (show ¬ _ from h) (by decide))
              refine lv_iconst (v := (-1)) hx hb dX7_standsAt_40 (by decide) ?_
              exact r2_i cx hQ wo dX7_standsAt_41 (by subst hM; exact ⟨rfl, rfl⟩)
            · skip
              rw [if_neg c_8] at hM
              refine lv_iload_n hx hb dX7_standsAt_32 rfl (lv_at hl 0 rfl) ?_
              exact r2_i cx hQ wo dX7_standsAt_33 (by subst hM; exact ⟨rfl, rfl⟩)
        · skip
          rw [if_neg c_6] at hM
          refine lv_iload_n hx hb dX7_standsAt_32 rfl (lv_at hl 0 rfl) ?_
          exact r2_i cx hQ wo dX7_standsAt_33 (by subst hM; exact ⟨rfl, rfl⟩)
    · skip
      rw [if_pos c_2] at hM
      refine lv_aload_n hx hb dX7_standsAt_20 rfl (lv_at hl 1 rfl) ?_
      refine mg_st cx wo m_631 dX7_standsAt_21 ?_
      refine lv_bipush (v := 92) hx hb dX7_standsAt_24 (by decide) ?_
      refine lv_iload_n hx hb dX7_standsAt_26 rfl (lv_at hl 0 rfl) ?_
      refine lv_iadd hx hb dX7_standsAt_27 ?_
      refine tope (y := 93) (by decide) ?_
      refine ml_st (n := 93) cx wo rfl (by omega) dX7_standsAt_28 ?_
      refine lv_if_ge (tgt := 34) hx hb dX7_standsAt_29 (by decide) (fun c_9 => ?_) (fun c_9 => ?_)
      · skip
        rw [if_pos c_9] at hM
        refine lv_iinc (v := 2) (lv' := [(2, .int 2), (0, .ref (am 0)), (1, .int x)]) hx hb dX7_standsAt_34 hl (k := 0) rfl (by decide) (by decide) rfl (fun ls hl => ?_)
        refine lv_goto (tgt := 2) hx hb dX7_standsAt_37 (by decide) ?_
        refine lv_iload_n hx hb dX7_standsAt_2 rfl (lv_at hl 0 rfl) ?_
        refine lv_iconst (v := 4) hx hb dX7_standsAt_3 (by decide) ?_
        refine lv_icmp_ge (tgt := 40) hx hb dX7_standsAt_4 (by decide) (fun h => absurd h (by decide)) (fun _ => ?_)
        refine lv_aload_n hx hb dX7_standsAt_7 rfl (lv_at hl 1 rfl) ?_
        refine mg_st cx wo m_631 dX7_standsAt_8 ?_
        refine lv_bipush (v := 88) hx hb dX7_standsAt_11 (by decide) ?_
        refine lv_iload_n hx hb dX7_standsAt_13 rfl (lv_at hl 0 rfl) ?_
        refine lv_iadd hx hb dX7_standsAt_14 ?_
        refine tope (y := 90) (by decide) ?_
        refine ml_st (n := 90) cx wo rfl (by omega) dX7_standsAt_15 ?_
        refine lv_iload_n hx hb dX7_standsAt_16 rfl (lv_at hl 2 rfl) ?_
        refine lv_icmp_ne (tgt := 34) hx hb dX7_standsAt_17 (by decide) (fun c_10 => ?_) (fun c_10 => ?_)
        · skip
          rw [if_neg c_10] at hM
          refine lv_iinc (v := 3) (lv' := [(2, .int 3), (0, .ref (am 0)), (1, .int x)]) hx hb dX7_standsAt_34 hl (k := 0) rfl (by decide) (by decide) rfl (fun ls hl => ?_)
          refine lv_goto (tgt := 2) hx hb dX7_standsAt_37 (by decide) ?_
          refine lv_iload_n hx hb dX7_standsAt_2 rfl (lv_at hl 0 rfl) ?_
          refine lv_iconst (v := 4) hx hb dX7_standsAt_3 (by decide) ?_
          refine lv_icmp_ge (tgt := 40) hx hb dX7_standsAt_4 (by decide) (fun h => absurd h (by decide)) (fun _ => ?_)
          refine lv_aload_n hx hb dX7_standsAt_7 rfl (lv_at hl 1 rfl) ?_
          refine mg_st cx wo m_631 dX7_standsAt_8 ?_
          refine lv_bipush (v := 88) hx hb dX7_standsAt_11 (by decide) ?_
          refine lv_iload_n hx hb dX7_standsAt_13 rfl (lv_at hl 0 rfl) ?_
          refine lv_iadd hx hb dX7_standsAt_14 ?_
          refine tope (y := 91) (by decide) ?_
          refine ml_st (n := 91) cx wo rfl (by omega) dX7_standsAt_15 ?_
          refine lv_iload_n hx hb dX7_standsAt_16 rfl (lv_at hl 2 rfl) ?_
          refine lv_icmp_ne (tgt := 34) hx hb dX7_standsAt_17 (by decide) (fun c_11 => ?_) (fun c_11 => ?_)
          · skip
            rw [if_neg c_11] at hM
            refine lv_iinc (v := 4) (lv' := [(2, .int 4), (0, .ref (am 0)), (1, .int x)]) hx hb dX7_standsAt_34 hl (k := 0) rfl (by decide) (by decide) rfl (fun ls hl => ?_)
            refine lv_goto (tgt := 2) hx hb dX7_standsAt_37 (by decide) ?_
            refine lv_iload_n hx hb dX7_standsAt_2 rfl (lv_at hl 0 rfl) ?_
            refine lv_iconst (v := 4) hx hb dX7_standsAt_3 (by decide) ?_
            refine lv_icmp_ge (tgt := 40) hx hb dX7_standsAt_4 (by decide) (fun _ => ?_) (fun h => absurd (show ¬ _ from h) (by decide))
            refine lv_iconst (v := (-1)) hx hb dX7_standsAt_40 (by decide) ?_
            exact r2_i cx hQ wo dX7_standsAt_41 (by subst hM; exact ⟨rfl, rfl⟩)
          · skip
            rw [if_pos c_11] at hM
            refine lv_aload_n hx hb dX7_standsAt_20 rfl (lv_at hl 1 rfl) ?_
            refine mg_st cx wo m_631 dX7_standsAt_21 ?_
            refine lv_bipush (v := 92) hx hb dX7_standsAt_24 (by decide) ?_
            refine lv_iload_n hx hb dX7_standsAt_26 rfl (lv_at hl 0 rfl) ?_
            refine lv_iadd hx hb dX7_standsAt_27 ?_
            refine tope (y := 95) (by decide) ?_
            refine ml_st (n := 95) cx wo rfl (by omega) dX7_standsAt_28 ?_
            refine lv_if_ge (tgt := 34) hx hb dX7_standsAt_29 (by decide) (fun c_12 => ?_) (fun c_12 => ?_)
            · skip
              rw [if_pos c_12] at hM
              refine lv_iinc (v := 4) (lv' := [(2, .int 4), (0, .ref (am 0)), (1, .int x)]) hx hb dX7_standsAt_34 hl (k := 0) rfl (by decide) (by decide) rfl (fun ls hl => ?_)
              refine lv_goto (tgt := 2) hx hb dX7_standsAt_37 (by decide) ?_
              refine lv_iload_n hx hb dX7_standsAt_2 rfl (lv_at hl 0 rfl) ?_
              refine lv_iconst (v := 4) hx hb dX7_standsAt_3 (by decide) ?_
              refine lv_icmp_ge (tgt := 40) hx hb dX7_standsAt_4 (by decide) (fun _ => ?_) (fun h => absurd (show ¬ _ from h) (by decide))
              refine lv_iconst (v := (-1)) hx hb dX7_standsAt_40 (by decide) ?_
              exact r2_i cx hQ wo dX7_standsAt_41 (by subst hM; exact ⟨rfl, rfl⟩)
            · skip
              rw [if_neg c_12] at hM
              refine lv_iload_n hx hb dX7_standsAt_32 rfl (lv_at hl 0 rfl) ?_
              exact r2_i cx hQ wo dX7_standsAt_33 (by subst hM; exact ⟨rfl, rfl⟩)
        · skip
          rw [if_pos c_10] at hM
          refine lv_aload_n hx hb dX7_standsAt_20 rfl (lv_at hl 1 rfl) ?_
          refine mg_st cx wo m_631 dX7_standsAt_21 ?_
          refine lv_bipush (v := 92) hx hb dX7_standsAt_24 (by decide) ?_
          refine lv_iload_n hx hb dX7_standsAt_26 rfl (lv_at hl 0 rfl) ?_
          refine lv_iadd hx hb dX7_standsAt_27 ?_
          refine tope (y := 94) (by decide) ?_
          refine ml_st (n := 94) cx wo rfl (by omega) dX7_standsAt_28 ?_
          refine lv_if_ge (tgt := 34) hx hb dX7_standsAt_29 (by decide) (fun c_13 => ?_) (fun c_13 => ?_)
          · skip
            rw [if_pos c_13] at hM
            refine lv_iinc (v := 3) (lv' := [(2, .int 3), (0, .ref (am 0)), (1, .int x)]) hx hb dX7_standsAt_34 hl (k := 0) rfl (by decide) (by decide) rfl (fun ls hl => ?_)
            refine lv_goto (tgt := 2) hx hb dX7_standsAt_37 (by decide) ?_
            refine lv_iload_n hx hb dX7_standsAt_2 rfl (lv_at hl 0 rfl) ?_
            refine lv_iconst (v := 4) hx hb dX7_standsAt_3 (by decide) ?_
            refine lv_icmp_ge (tgt := 40) hx hb dX7_standsAt_4 (by decide) (fun h => absurd h (by decide)) (fun _ => ?_)
            refine lv_aload_n hx hb dX7_standsAt_7 rfl (lv_at hl 1 rfl) ?_
            refine mg_st cx wo m_631 dX7_standsAt_8 ?_
            refine lv_bipush (v := 88) hx hb dX7_standsAt_11 (by decide) ?_
            refine lv_iload_n hx hb dX7_standsAt_13 rfl (lv_at hl 0 rfl) ?_
            refine lv_iadd hx hb dX7_standsAt_14 ?_
            refine tope (y := 91) (by decide) ?_
            refine ml_st (n := 91) cx wo rfl (by omega) dX7_standsAt_15 ?_
            refine lv_iload_n hx hb dX7_standsAt_16 rfl (lv_at hl 2 rfl) ?_
            refine lv_icmp_ne (tgt := 34) hx hb dX7_standsAt_17 (by decide) (fun c_14 => ?_) (fun c_14 => ?_)
            · skip
              rw [if_neg c_14] at hM
              refine lv_iinc (v := 4) (lv' := [(2, .int 4), (0, .ref (am 0)), (1, .int x)]) hx hb dX7_standsAt_34 hl (k := 0) rfl (by decide) (by decide) rfl (fun ls hl => ?_)
              refine lv_goto (tgt := 2) hx hb dX7_standsAt_37 (by decide) ?_
              refine lv_iload_n hx hb dX7_standsAt_2 rfl (lv_at hl 0 rfl) ?_
              refine lv_iconst (v := 4) hx hb dX7_standsAt_3 (by decide) ?_
              refine lv_icmp_ge (tgt := 40) hx hb dX7_standsAt_4 (by decide) (fun _ => ?_) (fun h => absurd (show ¬ _ from h) (by decide))
              refine lv_iconst (v := (-1)) hx hb dX7_standsAt_40 (by decide) ?_
              exact r2_i cx hQ wo dX7_standsAt_41 (by subst hM; exact ⟨rfl, rfl⟩)
            · skip
              rw [if_pos c_14] at hM
              refine lv_aload_n hx hb dX7_standsAt_20 rfl (lv_at hl 1 rfl) ?_
              refine mg_st cx wo m_631 dX7_standsAt_21 ?_
              refine lv_bipush (v := 92) hx hb dX7_standsAt_24 (by decide) ?_
              refine lv_iload_n hx hb dX7_standsAt_26 rfl (lv_at hl 0 rfl) ?_
              refine lv_iadd hx hb dX7_standsAt_27 ?_
              refine tope (y := 95) (by decide) ?_
              refine ml_st (n := 95) cx wo rfl (by omega) dX7_standsAt_28 ?_
              refine lv_if_ge (tgt := 34) hx hb dX7_standsAt_29 (by decide) (fun c_15 => ?_) (fun c_15 => ?_)
              · skip
                rw [if_pos c_15] at hM
                refine lv_iinc (v := 4) (lv' := [(2, .int 4), (0, .ref (am 0)), (1, .int x)]) hx hb dX7_standsAt_34 hl (k := 0) rfl (by decide) (by decide) rfl (fun ls hl => ?_)
                refine lv_goto (tgt := 2) hx hb dX7_standsAt_37 (by decide) ?_
                refine lv_iload_n hx hb dX7_standsAt_2 rfl (lv_at hl 0 rfl) ?_
                refine lv_iconst (v := 4) hx hb dX7_standsAt_3 (by decide) ?_
                refine lv_icmp_ge (tgt := 40) hx hb dX7_standsAt_4 (by decide) (fun _ => ?_) (fun h => absurd (show ¬ _ from h) (by decide))
                refine lv_iconst (v := (-1)) hx hb dX7_standsAt_40 (by decide) ?_
                exact r2_i cx hQ wo dX7_standsAt_41 (by subst hM; exact ⟨rfl, rfl⟩)
              · skip
                rw [if_neg c_15] at hM
                refine lv_iload_n hx hb dX7_standsAt_32 rfl (lv_at hl 0 rfl) ?_
                exact r2_i cx hQ wo dX7_standsAt_33 (by subst hM; exact ⟨rfl, rfl⟩)
          · skip
            rw [if_neg c_13] at hM
            refine lv_iload_n hx hb dX7_standsAt_32 rfl (lv_at hl 0 rfl) ?_
            exact r2_i cx hQ wo dX7_standsAt_33 (by subst hM; exact ⟨rfl, rfl⟩)
      · skip
        rw [if_neg c_9] at hM
        refine lv_iload_n hx hb dX7_standsAt_32 rfl (lv_at hl 0 rfl) ?_
        exact r2_i cx hQ wo dX7_standsAt_33 (by subst hM; exact ⟨rfl, rfl⟩)
  · skip
    rw [if_pos c_1] at hM
    refine lv_aload_n hx hb dX7_standsAt_20 rfl (lv_at hl 1 rfl) ?_
    refine mg_st cx wo m_631 dX7_standsAt_21 ?_
    refine lv_bipush (v := 92) hx hb dX7_standsAt_24 (by decide) ?_
    refine lv_iload_n hx hb dX7_standsAt_26 rfl (lv_at hl 0 rfl) ?_
    refine lv_iadd hx hb dX7_standsAt_27 ?_
    refine tope (y := 92) (by decide) ?_
    refine ml_st (n := 92) cx wo rfl (by omega) dX7_standsAt_28 ?_
    refine lv_if_ge (tgt := 34) hx hb dX7_standsAt_29 (by decide) (fun c_16 => ?_) (fun c_16 => ?_)
    · skip
      rw [if_pos c_16] at hM
      refine lv_iinc (v := 1) (lv' := [(2, .int 1), (0, .ref (am 0)), (1, .int x)]) hx hb dX7_standsAt_34 hl (k := 0) rfl (by decide) (by decide) rfl (fun ls hl => ?_)
      refine lv_goto (tgt := 2) hx hb dX7_standsAt_37 (by decide) ?_
      refine lv_iload_n hx hb dX7_standsAt_2 rfl (lv_at hl 0 rfl) ?_
      refine lv_iconst (v := 4) hx hb dX7_standsAt_3 (by decide) ?_
      refine lv_icmp_ge (tgt := 40) hx hb dX7_standsAt_4 (by decide) (fun h => absurd h (by decide)) (fun _ => ?_)
      refine lv_aload_n hx hb dX7_standsAt_7 rfl (lv_at hl 1 rfl) ?_
      refine mg_st cx wo m_631 dX7_standsAt_8 ?_
      refine lv_bipush (v := 88) hx hb dX7_standsAt_11 (by decide) ?_
      refine lv_iload_n hx hb dX7_standsAt_13 rfl (lv_at hl 0 rfl) ?_
      refine lv_iadd hx hb dX7_standsAt_14 ?_
      refine tope (y := 89) (by decide) ?_
      refine ml_st (n := 89) cx wo rfl (by omega) dX7_standsAt_15 ?_
      refine lv_iload_n hx hb dX7_standsAt_16 rfl (lv_at hl 2 rfl) ?_
      refine lv_icmp_ne (tgt := 34) hx hb dX7_standsAt_17 (by decide) (fun c_17 => ?_) (fun c_17 => ?_)
      · skip
        rw [if_neg c_17] at hM
        refine lv_iinc (v := 2) (lv' := [(2, .int 2), (0, .ref (am 0)), (1, .int x)]) hx hb dX7_standsAt_34 hl (k := 0) rfl (by decide) (by decide) rfl (fun ls hl => ?_)
        refine lv_goto (tgt := 2) hx hb dX7_standsAt_37 (by decide) ?_
        refine lv_iload_n hx hb dX7_standsAt_2 rfl (lv_at hl 0 rfl) ?_
        refine lv_iconst (v := 4) hx hb dX7_standsAt_3 (by decide) ?_
        refine lv_icmp_ge (tgt := 40) hx hb dX7_standsAt_4 (by decide) (fun h => absurd h (by decide)) (fun _ => ?_)
        refine lv_aload_n hx hb dX7_standsAt_7 rfl (lv_at hl 1 rfl) ?_
        refine mg_st cx wo m_631 dX7_standsAt_8 ?_
        refine lv_bipush (v := 88) hx hb dX7_standsAt_11 (by decide) ?_
        refine lv_iload_n hx hb dX7_standsAt_13 rfl (lv_at hl 0 rfl) ?_
        refine lv_iadd hx hb dX7_standsAt_14 ?_
        refine tope (y := 90) (by decide) ?_
        refine ml_st (n := 90) cx wo rfl (by omega) dX7_standsAt_15 ?_
        refine lv_iload_n hx hb dX7_standsAt_16 rfl (lv_at hl 2 rfl) ?_
        refine lv_icmp_ne (tgt := 34) hx hb dX7_standsAt_17 (by decide) (fun c_18 => ?_) (fun c_18 => ?_)
        · skip
          rw [if_neg c_18] at hM
          refine lv_iinc (v := 3) (lv' := [(2, .int 3), (0, .ref (am 0)), (1, .int x)]) hx hb dX7_standsAt_34 hl (k := 0) rfl (by decide) (by decide) rfl (fun ls hl => ?_)
          refine lv_goto (tgt := 2) hx hb dX7_standsAt_37 (by decide) ?_
          refine lv_iload_n hx hb dX7_standsAt_2 rfl (lv_at hl 0 rfl) ?_
          refine lv_iconst (v := 4) hx hb dX7_standsAt_3 (by decide) ?_
          refine lv_icmp_ge (tgt := 40) hx hb dX7_standsAt_4 (by decide) (fun h => absurd h (by decide)) (fun _ => ?_)
          refine lv_aload_n hx hb dX7_standsAt_7 rfl (lv_at hl 1 rfl) ?_
          refine mg_st cx wo m_631 dX7_standsAt_8 ?_
          refine lv_bipush (v := 88) hx hb dX7_standsAt_11 (by decide) ?_
          refine lv_iload_n hx hb dX7_standsAt_13 rfl (lv_at hl 0 rfl) ?_
          refine lv_iadd hx hb dX7_standsAt_14 ?_
          refine tope (y := 91) (by decide) ?_
          refine ml_st (n := 91) cx wo rfl (by omega) dX7_standsAt_15 ?_
          refine lv_iload_n hx hb dX7_standsAt_16 rfl (lv_at hl 2 rfl) ?_
          refine lv_icmp_ne (tgt := 34) hx hb dX7_standsAt_17 (by decide) (fun c_19 => ?_) (fun c_19 => ?_)
          · skip
            rw [if_neg c_19] at hM
            refine lv_iinc (v := 4) (lv' := [(2, .int 4), (0, .ref (am 0)), (1, .int x)]) hx hb dX7_standsAt_34 hl (k := 0) rfl (by decide) (by decide) rfl (fun ls hl => ?_)
            refine lv_goto (tgt := 2) hx hb dX7_standsAt_37 (by decide) ?_
            refine lv_iload_n hx hb dX7_standsAt_2 rfl (lv_at hl 0 rfl) ?_
            refine lv_iconst (v := 4) hx hb dX7_standsAt_3 (by decide) ?_
            refine lv_icmp_ge (tgt := 40) hx hb dX7_standsAt_4 (by decide) (fun _ => ?_) (fun h => absurd (show ¬ _ from h) (by decide))
            refine lv_iconst (v := (-1)) hx hb dX7_standsAt_40 (by decide) ?_
            exact r2_i cx hQ wo dX7_standsAt_41 (by subst hM; exact ⟨rfl, rfl⟩)
          · skip
            rw [if_pos c_19] at hM
            refine lv_aload_n hx hb dX7_standsAt_20 rfl (lv_at hl 1 rfl) ?_
            refine mg_st cx wo m_631 dX7_standsAt_21 ?_
            refine lv_bipush (v := 92) hx hb dX7_standsAt_24 (by decide) ?_
            refine lv_iload_n hx hb dX7_standsAt_26 rfl (lv_at hl 0 rfl) ?_
            refine lv_iadd hx hb dX7_standsAt_27 ?_
            refine tope (y := 95) (by decide) ?_
            refine ml_st (n := 95) cx wo rfl (by omega) dX7_standsAt_28 ?_
            refine lv_if_ge (tgt := 34) hx hb dX7_standsAt_29 (by decide) (fun c_20 => ?_) (fun c_20 => ?_)
            · skip
              rw [if_pos c_20] at hM
              refine lv_iinc (v := 4) (lv' := [(2, .int 4), (0, .ref (am 0)), (1, .int x)]) hx hb dX7_standsAt_34 hl (k := 0) rfl (by decide) (by decide) rfl (fun ls hl => ?_)
              refine lv_goto (tgt := 2) hx hb dX7_standsAt_37 (by decide) ?_
              refine lv_iload_n hx hb dX7_standsAt_2 rfl (lv_at hl 0 rfl) ?_
              refine lv_iconst (v := 4) hx hb dX7_standsAt_3 (by decide) ?_
              refine lv_icmp_ge (tgt := 40) hx hb dX7_standsAt_4 (by decide) (fun _ => ?_) (fun h => absurd (show ¬ _ from h) (by decide))
              refine lv_iconst (v := (-1)) hx hb dX7_standsAt_40 (by decide) ?_
              exact r2_i cx hQ wo dX7_standsAt_41 (by subst hM; exact ⟨rfl, rfl⟩)
            · skip
              rw [if_neg c_20] at hM
              refine lv_iload_n hx hb dX7_standsAt_32 rfl (lv_at hl 0 rfl) ?_
              exact r2_i cx hQ wo dX7_standsAt_33 (by subst hM; exact ⟨rfl, rfl⟩)
        · skip
          rw [if_pos c_18] at hM
          refine lv_aload_n hx hb dX7_standsAt_20 rfl (lv_at hl 1 rfl) ?_
          refine mg_st cx wo m_631 dX7_standsAt_21 ?_
          refine lv_bipush (v := 92) hx hb dX7_standsAt_24 (by decide) ?_
          refine lv_iload_n hx hb dX7_standsAt_26 rfl (lv_at hl 0 rfl) ?_
          refine lv_iadd hx hb dX7_standsAt_27 ?_
          refine tope (y := 94) (by decide) ?_
          refine ml_st (n := 94) cx wo rfl (by omega) dX7_standsAt_28 ?_
          refine lv_if_ge (tgt := 34) hx hb dX7_standsAt_29 (by decide) (fun c_21 => ?_) (fun c_21 => ?_)
          · skip
            rw [if_pos c_21] at hM
            refine lv_iinc (v := 3) (lv' := [(2, .int 3), (0, .ref (am 0)), (1, .int x)]) hx hb dX7_standsAt_34 hl (k := 0) rfl (by decide) (by decide) rfl (fun ls hl => ?_)
            refine lv_goto (tgt := 2) hx hb dX7_standsAt_37 (by decide) ?_
            refine lv_iload_n hx hb dX7_standsAt_2 rfl (lv_at hl 0 rfl) ?_
            refine lv_iconst (v := 4) hx hb dX7_standsAt_3 (by decide) ?_
            refine lv_icmp_ge (tgt := 40) hx hb dX7_standsAt_4 (by decide) (fun h => absurd h (by decide)) (fun _ => ?_)
            refine lv_aload_n hx hb dX7_standsAt_7 rfl (lv_at hl 1 rfl) ?_
            refine mg_st cx wo m_631 dX7_standsAt_8 ?_
            refine lv_bipush (v := 88) hx hb dX7_standsAt_11 (by decide) ?_
            refine lv_iload_n hx hb dX7_standsAt_13 rfl (lv_at hl 0 rfl) ?_
            refine lv_iadd hx hb dX7_standsAt_14 ?_
            refine tope (y := 91) (by decide) ?_
            refine ml_st (n := 91) cx wo rfl (by omega) dX7_standsAt_15 ?_
            refine lv_iload_n hx hb dX7_standsAt_16 rfl (lv_at hl 2 rfl) ?_
            refine lv_icmp_ne (tgt := 34) hx hb dX7_standsAt_17 (by decide) (fun c_22 => ?_) (fun c_22 => ?_)
            · skip
              rw [if_neg c_22] at hM
              refine lv_iinc (v := 4) (lv' := [(2, .int 4), (0, .ref (am 0)), (1, .int x)]) hx hb dX7_standsAt_34 hl (k := 0) rfl (by decide) (by decide) rfl (fun ls hl => ?_)
              refine lv_goto (tgt := 2) hx hb dX7_standsAt_37 (by decide) ?_
              refine lv_iload_n hx hb dX7_standsAt_2 rfl (lv_at hl 0 rfl) ?_
              refine lv_iconst (v := 4) hx hb dX7_standsAt_3 (by decide) ?_
              refine lv_icmp_ge (tgt := 40) hx hb dX7_standsAt_4 (by decide) (fun _ => ?_) (fun h => absurd (show ¬ _ from h) (by decide))
              refine lv_iconst (v := (-1)) hx hb dX7_standsAt_40 (by decide) ?_
              exact r2_i cx hQ wo dX7_standsAt_41 (by subst hM; exact ⟨rfl, rfl⟩)
            · skip
              rw [if_pos c_22] at hM
              refine lv_aload_n hx hb dX7_standsAt_20 rfl (lv_at hl 1 rfl) ?_
              refine mg_st cx wo m_631 dX7_standsAt_21 ?_
              refine lv_bipush (v := 92) hx hb dX7_standsAt_24 (by decide) ?_
              refine lv_iload_n hx hb dX7_standsAt_26 rfl (lv_at hl 0 rfl) ?_
              refine lv_iadd hx hb dX7_standsAt_27 ?_
              refine tope (y := 95) (by decide) ?_
              refine ml_st (n := 95) cx wo rfl (by omega) dX7_standsAt_28 ?_
              refine lv_if_ge (tgt := 34) hx hb dX7_standsAt_29 (by decide) (fun c_23 => ?_) (fun c_23 => ?_)
              · skip
                rw [if_pos c_23] at hM
                refine lv_iinc (v := 4) (lv' := [(2, .int 4), (0, .ref (am 0)), (1, .int x)]) hx hb dX7_standsAt_34 hl (k := 0) rfl (by decide) (by decide) rfl (fun ls hl => ?_)
                refine lv_goto (tgt := 2) hx hb dX7_standsAt_37 (by decide) ?_
                refine lv_iload_n hx hb dX7_standsAt_2 rfl (lv_at hl 0 rfl) ?_
                refine lv_iconst (v := 4) hx hb dX7_standsAt_3 (by decide) ?_
                refine lv_icmp_ge (tgt := 40) hx hb dX7_standsAt_4 (by decide) (fun _ => ?_) (fun h => absurd (show ¬ _ from h) (by decide))
                refine lv_iconst (v := (-1)) hx hb dX7_standsAt_40 (by decide) ?_
                exact r2_i cx hQ wo dX7_standsAt_41 (by subst hM; exact ⟨rfl, rfl⟩)
              · skip
                rw [if_neg c_23] at hM
                refine lv_iload_n hx hb dX7_standsAt_32 rfl (lv_at hl 0 rfl) ?_
                exact r2_i cx hQ wo dX7_standsAt_33 (by subst hM; exact ⟨rfl, rfl⟩)
          · skip
            rw [if_neg c_21] at hM
            refine lv_iload_n hx hb dX7_standsAt_32 rfl (lv_at hl 0 rfl) ?_
            exact r2_i cx hQ wo dX7_standsAt_33 (by subst hM; exact ⟨rfl, rfl⟩)
      · skip
        rw [if_pos c_17] at hM
        refine lv_aload_n hx hb dX7_standsAt_20 rfl (lv_at hl 1 rfl) ?_
        refine mg_st cx wo m_631 dX7_standsAt_21 ?_
        refine lv_bipush (v := 92) hx hb dX7_standsAt_24 (by decide) ?_
        refine lv_iload_n hx hb dX7_standsAt_26 rfl (lv_at hl 0 rfl) ?_
        refine lv_iadd hx hb dX7_standsAt_27 ?_
        refine tope (y := 93) (by decide) ?_
        refine ml_st (n := 93) cx wo rfl (by omega) dX7_standsAt_28 ?_
        refine lv_if_ge (tgt := 34) hx hb dX7_standsAt_29 (by decide) (fun c_24 => ?_) (fun c_24 => ?_)
        · skip
          rw [if_pos c_24] at hM
          refine lv_iinc (v := 2) (lv' := [(2, .int 2), (0, .ref (am 0)), (1, .int x)]) hx hb dX7_standsAt_34 hl (k := 0) rfl (by decide) (by decide) rfl (fun ls hl => ?_)
          refine lv_goto (tgt := 2) hx hb dX7_standsAt_37 (by decide) ?_
          refine lv_iload_n hx hb dX7_standsAt_2 rfl (lv_at hl 0 rfl) ?_
          refine lv_iconst (v := 4) hx hb dX7_standsAt_3 (by decide) ?_
          refine lv_icmp_ge (tgt := 40) hx hb dX7_standsAt_4 (by decide) (fun h => absurd h (by decide)) (fun _ => ?_)
          refine lv_aload_n hx hb dX7_standsAt_7 rfl (lv_at hl 1 rfl) ?_
          refine mg_st cx wo m_631 dX7_standsAt_8 ?_
          refine lv_bipush (v := 88) hx hb dX7_standsAt_11 (by decide) ?_
          refine lv_iload_n hx hb dX7_standsAt_13 rfl (lv_at hl 0 rfl) ?_
          refine lv_iadd hx hb dX7_standsAt_14 ?_
          refine tope (y := 90) (by decide) ?_
          refine ml_st (n := 90) cx wo rfl (by omega) dX7_standsAt_15 ?_
          refine lv_iload_n hx hb dX7_standsAt_16 rfl (lv_at hl 2 rfl) ?_
          refine lv_icmp_ne (tgt := 34) hx hb dX7_standsAt_17 (by decide) (fun c_25 => ?_) (fun c_25 => ?_)
          · skip
            rw [if_neg c_25] at hM
            refine lv_iinc (v := 3) (lv' := [(2, .int 3), (0, .ref (am 0)), (1, .int x)]) hx hb dX7_standsAt_34 hl (k := 0) rfl (by decide) (by decide) rfl (fun ls hl => ?_)
            refine lv_goto (tgt := 2) hx hb dX7_standsAt_37 (by decide) ?_
            refine lv_iload_n hx hb dX7_standsAt_2 rfl (lv_at hl 0 rfl) ?_
            refine lv_iconst (v := 4) hx hb dX7_standsAt_3 (by decide) ?_
            refine lv_icmp_ge (tgt := 40) hx hb dX7_standsAt_4 (by decide) (fun h => absurd h (by decide)) (fun _ => ?_)
            refine lv_aload_n hx hb dX7_standsAt_7 rfl (lv_at hl 1 rfl) ?_
            refine mg_st cx wo m_631 dX7_standsAt_8 ?_
            refine lv_bipush (v := 88) hx hb dX7_standsAt_11 (by decide) ?_
            refine lv_iload_n hx hb dX7_standsAt_13 rfl (lv_at hl 0 rfl) ?_
            refine lv_iadd hx hb dX7_standsAt_14 ?_
            refine tope (y := 91) (by decide) ?_
            refine ml_st (n := 91) cx wo rfl (by omega) dX7_standsAt_15 ?_
            refine lv_iload_n hx hb dX7_standsAt_16 rfl (lv_at hl 2 rfl) ?_
            refine lv_icmp_ne (tgt := 34) hx hb dX7_standsAt_17 (by decide) (fun c_26 => ?_) (fun c_26 => ?_)
            · skip
              rw [if_neg c_26] at hM
              refine lv_iinc (v := 4) (lv' := [(2, .int 4), (0, .ref (am 0)), (1, .int x)]) hx hb dX7_standsAt_34 hl (k := 0) rfl (by decide) (by decide) rfl (fun ls hl => ?_)
              refine lv_goto (tgt := 2) hx hb dX7_standsAt_37 (by decide) ?_
              refine lv_iload_n hx hb dX7_standsAt_2 rfl (lv_at hl 0 rfl) ?_
              refine lv_iconst (v := 4) hx hb dX7_standsAt_3 (by decide) ?_
              refine lv_icmp_ge (tgt := 40) hx hb dX7_standsAt_4 (by decide) (fun _ => ?_) (fun h => absurd (show ¬ _ from h) (by decide))
              refine lv_iconst (v := (-1)) hx hb dX7_standsAt_40 (by decide) ?_
              exact r2_i cx hQ wo dX7_standsAt_41 (by subst hM; exact ⟨rfl, rfl⟩)
            · skip
              rw [if_pos c_26] at hM
              refine lv_aload_n hx hb dX7_standsAt_20 rfl (lv_at hl 1 rfl) ?_
              refine mg_st cx wo m_631 dX7_standsAt_21 ?_
              refine lv_bipush (v := 92) hx hb dX7_standsAt_24 (by decide) ?_
              refine lv_iload_n hx hb dX7_standsAt_26 rfl (lv_at hl 0 rfl) ?_
              refine lv_iadd hx hb dX7_standsAt_27 ?_
              refine tope (y := 95) (by decide) ?_
              refine ml_st (n := 95) cx wo rfl (by omega) dX7_standsAt_28 ?_
              refine lv_if_ge (tgt := 34) hx hb dX7_standsAt_29 (by decide) (fun c_27 => ?_) (fun c_27 => ?_)
              · skip
                rw [if_pos c_27] at hM
                refine lv_iinc (v := 4) (lv' := [(2, .int 4), (0, .ref (am 0)), (1, .int x)]) hx hb dX7_standsAt_34 hl (k := 0) rfl (by decide) (by decide) rfl (fun ls hl => ?_)
                refine lv_goto (tgt := 2) hx hb dX7_standsAt_37 (by decide) ?_
                refine lv_iload_n hx hb dX7_standsAt_2 rfl (lv_at hl 0 rfl) ?_
                refine lv_iconst (v := 4) hx hb dX7_standsAt_3 (by decide) ?_
                refine lv_icmp_ge (tgt := 40) hx hb dX7_standsAt_4 (by decide) (fun _ => ?_) (fun h => absurd (show ¬ _ from h) (by decide))
                refine lv_iconst (v := (-1)) hx hb dX7_standsAt_40 (by decide) ?_
                exact r2_i cx hQ wo dX7_standsAt_41 (by subst hM; exact ⟨rfl, rfl⟩)
              · skip
                rw [if_neg c_27] at hM
                refine lv_iload_n hx hb dX7_standsAt_32 rfl (lv_at hl 0 rfl) ?_
                exact r2_i cx hQ wo dX7_standsAt_33 (by subst hM; exact ⟨rfl, rfl⟩)
          · skip
            rw [if_pos c_25] at hM
            refine lv_aload_n hx hb dX7_standsAt_20 rfl (lv_at hl 1 rfl) ?_
            refine mg_st cx wo m_631 dX7_standsAt_21 ?_
            refine lv_bipush (v := 92) hx hb dX7_standsAt_24 (by decide) ?_
            refine lv_iload_n hx hb dX7_standsAt_26 rfl (lv_at hl 0 rfl) ?_
            refine lv_iadd hx hb dX7_standsAt_27 ?_
            refine tope (y := 94) (by decide) ?_
            refine ml_st (n := 94) cx wo rfl (by omega) dX7_standsAt_28 ?_
            refine lv_if_ge (tgt := 34) hx hb dX7_standsAt_29 (by decide) (fun c_28 => ?_) (fun c_28 => ?_)
            · skip
              rw [if_pos c_28] at hM
              refine lv_iinc (v := 3) (lv' := [(2, .int 3), (0, .ref (am 0)), (1, .int x)]) hx hb dX7_standsAt_34 hl (k := 0) rfl (by decide) (by decide) rfl (fun ls hl => ?_)
              refine lv_goto (tgt := 2) hx hb dX7_standsAt_37 (by decide) ?_
              refine lv_iload_n hx hb dX7_standsAt_2 rfl (lv_at hl 0 rfl) ?_
              refine lv_iconst (v := 4) hx hb dX7_standsAt_3 (by decide) ?_
              refine lv_icmp_ge (tgt := 40) hx hb dX7_standsAt_4 (by decide) (fun h => absurd h (by decide)) (fun _ => ?_)
              refine lv_aload_n hx hb dX7_standsAt_7 rfl (lv_at hl 1 rfl) ?_
              refine mg_st cx wo m_631 dX7_standsAt_8 ?_
              refine lv_bipush (v := 88) hx hb dX7_standsAt_11 (by decide) ?_
              refine lv_iload_n hx hb dX7_standsAt_13 rfl (lv_at hl 0 rfl) ?_
              refine lv_iadd hx hb dX7_standsAt_14 ?_
              refine tope (y := 91) (by decide) ?_
              refine ml_st (n := 91) cx wo rfl (by omega) dX7_standsAt_15 ?_
              refine lv_iload_n hx hb dX7_standsAt_16 rfl (lv_at hl 2 rfl) ?_
              refine lv_icmp_ne (tgt := 34) hx hb dX7_standsAt_17 (by decide) (fun c_29 => ?_) (fun c_29 => ?_)
              · skip
                rw [if_neg c_29] at hM
                refine lv_iinc (v := 4) (lv' := [(2, .int 4), (0, .ref (am 0)), (1, .int x)]) hx hb dX7_standsAt_34 hl (k := 0) rfl (by decide) (by decide) rfl (fun ls hl => ?_)
                refine lv_goto (tgt := 2) hx hb dX7_standsAt_37 (by decide) ?_
                refine lv_iload_n hx hb dX7_standsAt_2 rfl (lv_at hl 0 rfl) ?_
                refine lv_iconst (v := 4) hx hb dX7_standsAt_3 (by decide) ?_
                refine lv_icmp_ge (tgt := 40) hx hb dX7_standsAt_4 (by decide) (fun _ => ?_) (fun h => absurd (show ¬ _ from h) (by decide))
                refine lv_iconst (v := (-1)) hx hb dX7_standsAt_40 (by decide) ?_
                exact r2_i cx hQ wo dX7_standsAt_41 (by subst hM; exact ⟨rfl, rfl⟩)
              · skip
                rw [if_pos c_29] at hM
                refine lv_aload_n hx hb dX7_standsAt_20 rfl (lv_at hl 1 rfl) ?_
                refine mg_st cx wo m_631 dX7_standsAt_21 ?_
                refine lv_bipush (v := 92) hx hb dX7_standsAt_24 (by decide) ?_
                refine lv_iload_n hx hb dX7_standsAt_26 rfl (lv_at hl 0 rfl) ?_
                refine lv_iadd hx hb dX7_standsAt_27 ?_
                refine tope (y := 95) (by decide) ?_
                refine ml_st (n := 95) cx wo rfl (by omega) dX7_standsAt_28 ?_
                refine lv_if_ge (tgt := 34) hx hb dX7_standsAt_29 (by decide) (fun c_30 => ?_) (fun c_30 => ?_)
                · skip
                  rw [if_pos c_30] at hM
                  refine lv_iinc (v := 4) (lv' := [(2, .int 4), (0, .ref (am 0)), (1, .int x)]) hx hb dX7_standsAt_34 hl (k := 0) rfl (by decide) (by decide) rfl (fun ls hl => ?_)
                  refine lv_goto (tgt := 2) hx hb dX7_standsAt_37 (by decide) ?_
                  refine lv_iload_n hx hb dX7_standsAt_2 rfl (lv_at hl 0 rfl) ?_
                  refine lv_iconst (v := 4) hx hb dX7_standsAt_3 (by decide) ?_
                  refine lv_icmp_ge (tgt := 40) hx hb dX7_standsAt_4 (by decide) (fun _ => ?_) (fun h => absurd (show ¬ _ from h) (by decide))
                  refine lv_iconst (v := (-1)) hx hb dX7_standsAt_40 (by decide) ?_
                  exact r2_i cx hQ wo dX7_standsAt_41 (by subst hM; exact ⟨rfl, rfl⟩)
                · skip
                  rw [if_neg c_30] at hM
                  refine lv_iload_n hx hb dX7_standsAt_32 rfl (lv_at hl 0 rfl) ?_
                  exact r2_i cx hQ wo dX7_standsAt_33 (by subst hM; exact ⟨rfl, rfl⟩)
            · skip
              rw [if_neg c_28] at hM
              refine lv_iload_n hx hb dX7_standsAt_32 rfl (lv_at hl 0 rfl) ?_
              exact r2_i cx hQ wo dX7_standsAt_33 (by subst hM; exact ⟨rfl, rfl⟩)
        · skip
          rw [if_neg c_24] at hM
          refine lv_iload_n hx hb dX7_standsAt_32 rfl (lv_at hl 0 rfl) ?_
          exact r2_i cx hQ wo dX7_standsAt_33 (by subst hM; exact ⟨rfl, rfl⟩)
    · skip
      rw [if_neg c_16] at hM
      refine lv_iload_n hx hb dX7_standsAt_32 rfl (lv_at hl 0 rfl) ?_
      exact r2_i cx hQ wo dX7_standsAt_33 (by subst hM; exact ⟨rfl, rfl⟩)
theorem m_X7_standsAt_n {g : St} {x : Int32} (h : ¬ m_X7_standsAt g x < 0) : m_X7_standsAt g x = nI (m_X7_standsAt g x).toNatClampNeg ∧ (m_X7_standsAt g x).toNatClampNeg < 4 := by
  refine carn h ?_
  unfold m_X7_standsAt
  (repeat' split) <;> decide
abbrev rm_X7_room : Room := { frames := 1, cells := 0, slots := 0, locals := 21 }
def m_X7_room (g : St) (d : Nat) : Int32 :=
  ((100 - (m_X7_sum g (32 + 4 * d))) - (m_X7_sum g (16 + 4 * d)))
set_option maxHeartbeats 4000000 in
set_option maxRecDepth 100000 in
theorem c_X7_room (l : Launch) (G : GG) (am : Nat → Nat) (g kf : St) (nk : Int32) {d : Nat} (hd : d < 4) : Ct l G yX7_room cX7_room 2 (some Jvm.ClassFile.FieldType.int) rm_X7_room [.ref (am 0), .int (nI d)] (mw G am g kf nk) (fun rv W1 => rv = some (.int (m_X7_room g d)) ∧ W1 = mw G am g kf nk) := by
  refine Ct.mk2 (by decide) (Nat.le_of_ble_eq_true rfl) ?_
  intro p e s m args below meth c A H locs ls Q cx wo hl hQ
  obtain ⟨hx, hb, hml, hr, hlo, hown, hts, hnm, kn, hA⟩ := id cx
  have hl : lv_has ls 2 [(0, .ref (am 0)), (1, .int (nI d))] := hl
  generalize hM : m_X7_room g d = M at hQ
  unfold m_X7_room at hM
  refine lv_bipush (v := 100) hx hb dX7_room_0 (by decide) ?_
  refine lv_aload_n hx hb dX7_room_2 rfl (lv_at hl 0 rfl) ?_
  refine lv_bipush (v := 32) hx hb dX7_room_3 (by decide) ?_
  refine lv_iconst (v := 4) hx hb dX7_room_5 (by decide) ?_
  refine lv_iload_n hx hb dX7_room_6 rfl (lv_at hl 1 rfl) ?_
  refine lv_imul hx hb dX7_room_7 ?_
  refine tope (y := (nI (4 * d))) (mi (a := 4) (b := d) rfl rfl (by omega)) ?_
  refine lv_iadd hx hb dX7_room_8 ?_
  refine tope (y := (nI (32 + 4 * d))) (ai (a := 32) (b := 4 * d) rfl rfl (by omega)) ?_
  refine call_V (As := [.int (nI (32 + 4 * d))]) (rest := [.int 100]) (fun X => X) Fr_id cx (c_X7_sum l G am _ _ _ (a := 32 + 4 * d) (by omega)) fx_X7_sum m_656 m_658 m_19 ⟨by decide, by decide⟩ wo (k := 0) rfl rfl rfl rfl hl.1 rfl (Nat.le_of_ble_eq_true rfl) dX7_room_9 ⟨by decide, by decide⟩ (fun v W1 H locs hp wo => ?_)
  obtain ⟨rfl, rfl⟩ := hp
  refine nrm_i ?_
  refine lv_isub hx hb dX7_room_12 ?_
  refine lv_aload_n hx hb dX7_room_13 rfl (lv_at hl 0 rfl) ?_
  refine lv_bipush (v := 16) hx hb dX7_room_14 (by decide) ?_
  refine lv_iconst (v := 4) hx hb dX7_room_16 (by decide) ?_
  refine lv_iload_n hx hb dX7_room_17 rfl (lv_at hl 1 rfl) ?_
  refine lv_imul hx hb dX7_room_18 ?_
  refine tope (y := (nI (4 * d))) (mi (a := 4) (b := d) rfl rfl (by omega)) ?_
  refine lv_iadd hx hb dX7_room_19 ?_
  refine tope (y := (nI (16 + 4 * d))) (ai (a := 16) (b := 4 * d) rfl rfl (by omega)) ?_
  refine call_V (As := [.int (nI (16 + 4 * d))]) (rest := [.int (100 - (m_X7_sum g (32 + 4 * d)))]) (fun X => X) Fr_id cx (c_X7_sum l G am _ _ _ (a := 16 + 4 * d) (by omega)) fx_X7_sum m_656 m_658 m_19 ⟨by decide, by decide⟩ wo (k := 0) rfl rfl rfl rfl hl.1 rfl (Nat.le_of_ble_eq_true rfl) dX7_room_20 ⟨by decide, by decide⟩ (fun v W1 H locs hp wo => ?_)
  obtain ⟨rfl, rfl⟩ := hp
  refine nrm_i ?_
  refine lv_isub hx hb dX7_room_23 ?_
  exact r2_i cx hQ wo dX7_room_24 (by subst hM; exact ⟨rfl, rfl⟩)
abbrev rm_X7_takes : Room := { frames := 1, cells := 0, slots := 0, locals := 22 }
def m_X7_takes (g : St) (r : Nat) (x : Int32) : Bool × St :=
  if 0 ≤ (g (102 + r)) then (false, g)
  else if 0 ≤ (m_X7_standsAt g x) then (true, (upd (upd g (102 + r) (nI ((m_X7_standsAt g x).toNatClampNeg))) (92 + (m_X7_standsAt g x).toNatClampNeg) (nI r)))
  else (false, g)
set_option maxHeartbeats 4000000 in
set_option maxRecDepth 100000 in
theorem c_X7_takes (l : Launch) (G : GG) (am : Nat → Nat) (g kf : St) (nk : Int32) {r : Nat} (hr : r < 2) (x : Int32) : Ct l G yX7_takes cX7_takes 4 (some Jvm.ClassFile.FieldType.boolean) rm_X7_takes [.ref (am 0), .int (nI r), .int x] (mw G am g kf nk) (fun rv W1 => rv = some (.int (bi (m_X7_takes g r x).1)) ∧ W1 = mw G am (m_X7_takes g r x).2 kf nk) := by
  refine Ct.mk2 (by decide) (Nat.le_of_ble_eq_true rfl) ?_
  intro p e s m args below meth c A H locs ls Q cx wo hl hQ
  obtain ⟨hx, hb, hml, hr, hlo, hown, hts, hnm, kn, hA⟩ := id cx
  have hl : lv_has ls 4 [(0, .ref (am 0)), (1, .int (nI r)), (2, .int x)] := hl
  generalize hM : m_X7_takes g r x = M at hQ
  unfold m_X7_takes at hM
  refine lv_aload_n hx hb dX7_takes_0 rfl (lv_at hl 0 rfl) ?_
  refine lv_iload_n hx hb dX7_takes_1 rfl (lv_at hl 2 rfl) ?_
  refine call_V (As := [.int x]) (rest := []) (fun X => X) Fr_id cx (c_X7_standsAt l G am _ _ _ x) fx_X7_standsAt m_704 m_706 m_27 ⟨by decide, by decide⟩ wo (k := 0) rfl rfl rfl rfl hl.1 rfl (Nat.le_of_ble_eq_true rfl) dX7_takes_2 ⟨by decide, by decide⟩ (fun v W1 H locs hp wo => ?_)
  obtain ⟨rfl, rfl⟩ := hp
  refine nrm_i ?_
  refine lv_istore_n (lv' := [(3, .int (m_X7_standsAt g x)), (0, .ref (am 0)), (1, .int (nI r)), (2, .int x)]) hx hb dX7_takes_5 rfl hl (by decide) rfl (fun ls hl => ?_)
  refine lv_aload_n hx hb dX7_takes_6 rfl (lv_at hl 1 rfl) ?_
  refine mg_st cx wo m_631 dX7_takes_7 ?_
  refine lv_bipush (v := 102) hx hb dX7_takes_10 (by decide) ?_
  refine lv_iload_n hx hb dX7_takes_12 rfl (lv_at hl 2 rfl) ?_
  refine lv_iadd hx hb dX7_takes_13 ?_
  refine tope (y := (nI (102 + r))) (ai (a := 102) (b := r) rfl rfl (by omega)) ?_
  refine ml_st (n := 102 + r) cx wo rfl (by omega) dX7_takes_14 ?_
  refine lv_if_ge (tgt := 22) hx hb dX7_takes_15 (by decide) (fun c_1 => ?_) (fun c_1 => ?_)
  · skip
    rw [if_pos c_1] at hM
    refine lv_iconst (v := 0) hx hb dX7_takes_22 (by decide) ?_
    refine tope (y := bi false) rfl ?_
    exact r2_z cx hQ wo dX7_takes_23 (by subst hM; exact ⟨rfl, rfl⟩)
  · skip
    rw [if_neg c_1] at hM
    refine lv_iload_n hx hb dX7_takes_18 rfl (lv_at hl 0 rfl) ?_
    refine lv_if_ge (tgt := 24) hx hb dX7_takes_19 (by decide) (fun c_2 => ?_) (fun c_2 => ?_)
    · skip
      rw [if_pos c_2] at hM
      have q_3 := m_X7_standsAt_n (Int32.not_lt.mpr c_2)
      have q_3b := q_3.2
      refine lv_aload_n hx hb dX7_takes_24 rfl (lv_at hl 1 rfl) ?_
      refine mg_st cx wo m_631 dX7_takes_25 ?_
      refine lv_bipush (v := 102) hx hb dX7_takes_28 (by decide) ?_
      refine lv_iload_n hx hb dX7_takes_30 rfl (lv_at hl 2 rfl) ?_
      refine lv_iadd hx hb dX7_takes_31 ?_
      refine tope (y := (nI (102 + r))) (ai (a := 102) (b := r) rfl rfl (by omega)) ?_
      refine lv_iload_n hx hb dX7_takes_32 rfl (lv_at hl 0 rfl) ?_
      refine tope (y := (nI ((m_X7_standsAt g x).toNatClampNeg))) q_3.1 ?_
      refine ms_st (n := 102 + r) cx wo rfl (by omega) dX7_takes_33 (fun H locs gz hgz wo => ?_)
      subst hgz
      refine lv_aload_n hx hb dX7_takes_34 rfl (lv_at hl 1 rfl) ?_
      refine mg_st cx wo m_631 dX7_takes_35 ?_
      refine lv_bipush (v := 92) hx hb dX7_takes_38 (by decide) ?_
      refine lv_iload_n hx hb dX7_takes_40 rfl (lv_at hl 0 rfl) ?_
      refine tope (y := (nI ((m_X7_standsAt g x).toNatClampNeg))) q_3.1 ?_
      refine lv_iadd hx hb dX7_takes_41 ?_
      refine tope (y := (nI (92 + (m_X7_standsAt g x).toNatClampNeg))) (ai (a := 92) (b := (m_X7_standsAt g x).toNatClampNeg) rfl rfl (by omega)) ?_
      refine lv_iload_n hx hb dX7_takes_42 rfl (lv_at hl 2 rfl) ?_
      refine ms_st (n := 92 + (m_X7_standsAt g x).toNatClampNeg) cx wo rfl (by omega) dX7_takes_43 (fun H locs gz hgz wo => ?_)
      subst hgz
      refine lv_iconst (v := 1) hx hb dX7_takes_44 (by decide) ?_
      refine tope (y := bi true) rfl ?_
      exact r2_z cx hQ wo dX7_takes_45 (by subst hM; exact ⟨rfl, rfl⟩)
    · skip
      rw [if_neg c_2] at hM
      refine lv_iconst (v := 0) hx hb dX7_takes_22 (by decide) ?_
      refine tope (y := bi false) rfl ?_
      exact r2_z cx hQ wo dX7_takes_23 (by subst hM; exact ⟨rfl, rfl⟩)
abbrev rm_X7_sets : Room := { frames := 2, cells := 0, slots := 0, locals := 40 }
def m_X7_sets (g : St) (r : Nat) (x : Int32) : Bool × St :=
  if (m_X7_isFloor x) = true then (if (m_X7_standsAt g x) < 0 then (true, (upd (upd g (102 + r) (-1)) (92 + (g (102 + r)).toNatClampNeg) (-1)))
    else (false, g))
  else (false, g)
set_option maxHeartbeats 4000000 in
set_option maxRecDepth 100000 in
theorem c_X7_sets (l : Launch) (G : GG) (am : Nat → Nat) (g kf : St) (nk : Int32) {r : Nat} (hr : r < 2) (x : Int32) (hc : g (102 + r) = nI (g (102 + r)).toNatClampNeg ∧ (g (102 + r)).toNatClampNeg < 4) : Ct l G yX7_sets cX7_sets 4 (some Jvm.ClassFile.FieldType.boolean) rm_X7_sets [.ref (am 0), .int (nI r), .int x] (mw G am g kf nk) (fun rv W1 => rv = some (.int (bi (m_X7_sets g r x).1)) ∧ W1 = mw G am (m_X7_sets g r x).2 kf nk) := by
  refine Ct.mk2 (by decide) (Nat.le_of_ble_eq_true rfl) ?_
  intro p e s m args below meth c A H locs ls Q cx wo hl hQ
  obtain ⟨hx, hb, hml, hr, hlo, hown, hts, hnm, kn, hA⟩ := id cx
  have hl : lv_has ls 4 [(0, .ref (am 0)), (1, .int (nI r)), (2, .int x)] := hl
  generalize hM : m_X7_sets g r x = M at hQ
  unfold m_X7_sets at hM
  have hcb := hc.2
  refine lv_aload_n hx hb dX7_sets_0 rfl (lv_at hl 0 rfl) ?_
  refine mg_st cx wo m_631 dX7_sets_1 ?_
  refine lv_bipush (v := 102) hx hb dX7_sets_4 (by decide) ?_
  refine lv_iload_n hx hb dX7_sets_6 rfl (lv_at hl 1 rfl) ?_
  refine lv_iadd hx hb dX7_sets_7 ?_
  refine tope (y := (nI (102 + r))) (ai (a := 102) (b := r) rfl rfl (by omega)) ?_
  refine ml_st (n := 102 + r) cx wo rfl (by omega) dX7_sets_8 ?_
  refine tope (y := (nI ((g (102 + r)).toNatClampNeg))) hc.1 ?_
  refine lv_istore_n (lv' := [(3, .int (nI ((g (102 + r)).toNatClampNeg))), (0, .ref (am 0)), (1, .int (nI r)), (2, .int x)]) hx hb dX7_sets_9 rfl hl (by decide) rfl (fun ls hl => ?_)
  refine lv_iload_n hx hb dX7_sets_10 rfl (lv_at hl 3 rfl) ?_
  refine call_S (As := [.int x]) (rest := []) (fun X => X) Fr_id cx (c_X7_isFloor l G _ x) fx_X7_isFloor m_712 m_713 ⟨by decide, by decide⟩ wo rfl hl.1 rfl (Nat.le_of_ble_eq_true rfl) dX7_sets_11 ⟨by decide, by decide⟩ (fun v W1 H locs hp wo => ?_)
  obtain ⟨rfl, rfl⟩ := hp
  refine nrm_i ?_
  refine if_eq_b (tgt := 25) hx hb dX7_sets_14 (by decide) (fun c_1 => ?_) (fun c_1 => ?_)
  · skip
    rw [if_neg c_1] at hM
    refine lv_iconst (v := 0) hx hb dX7_sets_25 (by decide) ?_
    refine tope (y := bi false) rfl ?_
    exact r2_z cx hQ wo dX7_sets_26 (by subst hM; exact ⟨rfl, rfl⟩)
  · skip
    rw [if_pos c_1] at hM
    refine lv_aload_n hx hb dX7_sets_17 rfl (lv_at hl 1 rfl) ?_
    refine lv_iload_n hx hb dX7_sets_18 rfl (lv_at hl 3 rfl) ?_
    refine call_V (As := [.int x]) (rest := []) (fun X => X) Fr_id cx (c_X7_standsAt l G am _ _ _ x) fx_X7_standsAt m_704 m_706 m_27 ⟨by decide, by decide⟩ wo (k := 0) rfl rfl rfl rfl hl.1 rfl (Nat.le_of_ble_eq_true rfl) dX7_sets_19 ⟨by decide, by decide⟩ (fun v W1 H locs hp wo => ?_)
    obtain ⟨rfl, rfl⟩ := hp
    refine nrm_i ?_
    refine lv_if_lt (tgt := 27) hx hb dX7_sets_22 (by decide) (fun c_2 => ?_) (fun c_2 => ?_)
    · skip
      rw [if_pos c_2] at hM
      refine lv_aload_n hx hb dX7_sets_27 rfl (lv_at hl 1 rfl) ?_
      refine mg_st cx wo m_631 dX7_sets_28 ?_
      refine lv_bipush (v := 102) hx hb dX7_sets_31 (by decide) ?_
      refine lv_iload_n hx hb dX7_sets_33 rfl (lv_at hl 2 rfl) ?_
      refine lv_iadd hx hb dX7_sets_34 ?_
      refine tope (y := (nI (102 + r))) (ai (a := 102) (b := r) rfl rfl (by omega)) ?_
      refine lv_iconst (v := (-1)) hx hb dX7_sets_35 (by decide) ?_
      refine ms_st (n := 102 + r) cx wo rfl (by omega) dX7_sets_36 (fun H locs gz hgz wo => ?_)
      subst hgz
      refine lv_aload_n hx hb dX7_sets_37 rfl (lv_at hl 1 rfl) ?_
      refine mg_st cx wo m_631 dX7_sets_38 ?_
      refine lv_bipush (v := 92) hx hb dX7_sets_41 (by decide) ?_
      refine lv_iload_n hx hb dX7_sets_43 rfl (lv_at hl 0 rfl) ?_
      refine lv_iadd hx hb dX7_sets_44 ?_
      refine tope (y := (nI (92 + (g (102 + r)).toNatClampNeg))) (ai (a := 92) (b := (g (102 + r)).toNatClampNeg) rfl rfl (by omega)) ?_
      refine lv_iconst (v := (-1)) hx hb dX7_sets_45 (by decide) ?_
      refine ms_st (n := 92 + (g (102 + r)).toNatClampNeg) cx wo rfl (by omega) dX7_sets_46 (fun H locs gz hgz wo => ?_)
      subst hgz
      refine lv_iconst (v := 1) hx hb dX7_sets_47 (by decide) ?_
      refine tope (y := bi true) rfl ?_
      exact r2_z cx hQ wo dX7_sets_48 (by subst hM; exact ⟨rfl, rfl⟩)
    · skip
      rw [if_neg c_2] at hM
      refine lv_iconst (v := 0) hx hb dX7_sets_25 (by decide) ?_
      refine tope (y := bi false) rfl ?_
      exact r2_z cx hQ wo dX7_sets_26 (by subst hM; exact ⟨rfl, rfl⟩)
abbrev rm_X7_moves : Room := { frames := 0, cells := 0, slots := 0, locals := 0 }
def m_X7_moves (g : St) (a : Nat) (b : Nat) (k : Nat) (n : Int32) : St :=
  (upd (upd g (a + k) ((g (a + k)) - n)) (b + k) (((upd g (a + k) ((g (a + k)) - n)) (b + k)) + n))
set_option maxHeartbeats 4000000 in
set_option maxRecDepth 100000 in
theorem c_X7_moves (l : Launch) (G : GG) (am : Nat → Nat) (g kf : St) (nk : Int32) {a : Nat} (ha : a < 140) {b : Nat} (hb : b < 140) {k : Nat} (hk : k < 4) (n : Int32) : Ct l G yX7_moves cX7_moves 5 (none : Option Jvm.ClassFile.FieldType) rm_X7_moves [.ref (am 0), .int (nI a), .int (nI b), .int (nI k), .int n] (mw G am g kf nk) (fun rv W1 => rv = none ∧ W1 = mw G am (m_X7_moves g a b k n) kf nk) := by
  refine Ct.mk2 (by decide) (Nat.le_of_ble_eq_true rfl) ?_
  intro p e s m args below meth c A H locs ls Q cx wo hl hQ
  obtain ⟨hx, hb, hml, hr, hlo, hown, hts, hnm, kn, hA⟩ := id cx
  have hl : lv_has ls 5 [(0, .ref (am 0)), (1, .int (nI a)), (2, .int (nI b)), (3, .int (nI k)), (4, .int n)] := hl
  generalize hM : m_X7_moves g a b k n = M at hQ
  unfold m_X7_moves at hM
  refine lv_aload_n hx hb dX7_moves_0 rfl (lv_at hl 0 rfl) ?_
  refine mg_st cx wo m_631 dX7_moves_1 ?_
  refine lv_iload_n hx hb dX7_moves_4 rfl (lv_at hl 1 rfl) ?_
  refine lv_iload_n hx hb dX7_moves_5 rfl (lv_at hl 3 rfl) ?_
  refine lv_iadd hx hb dX7_moves_6 ?_
  refine tope (y := (nI (a + k))) (ai (a := a) (b := k) rfl rfl (by omega)) ?_
  refine lv_dup2_11 hx hb dX7_moves_7 rfl rfl ?_
  refine ml_st (n := a + k) cx wo rfl (by omega) dX7_moves_8 ?_
  refine lv_iload hx hb dX7_moves_9 (lv_at hl 4 rfl) ?_
  refine lv_isub hx hb dX7_moves_11 ?_
  refine ms_st (n := a + k) cx wo rfl (by omega) dX7_moves_12 (fun H locs gz hgz wo => ?_)
  subst hgz
  refine lv_aload_n hx hb dX7_moves_13 rfl (lv_at hl 0 rfl) ?_
  refine mg_st cx wo m_631 dX7_moves_14 ?_
  refine lv_iload_n hx hb dX7_moves_17 rfl (lv_at hl 2 rfl) ?_
  refine lv_iload_n hx hb dX7_moves_18 rfl (lv_at hl 3 rfl) ?_
  refine lv_iadd hx hb dX7_moves_19 ?_
  refine tope (y := (nI (b + k))) (ai (a := b) (b := k) rfl rfl (by omega)) ?_
  refine lv_dup2_11 hx hb dX7_moves_20 rfl rfl ?_
  refine ml_st (n := b + k) cx wo rfl (by omega) dX7_moves_21 ?_
  refine lv_iload hx hb dX7_moves_22 (lv_at hl 4 rfl) ?_
  refine lv_iadd hx hb dX7_moves_24 ?_
  refine ms_st (n := b + k) cx wo rfl (by omega) dX7_moves_25 (fun H locs gz hgz wo => ?_)
  subst hgz
  exact r2_v cx hQ wo dX7_moves_26 (by subst hM; exact ⟨rfl, rfl⟩)
abbrev rm_X7_moves_i : Room := rm_X7_moves
theorem c_X7_moves_i (l : Launch) (G : GG) (am : Nat → Nat) (g kf : St) (nk : Int32) {a : Nat} (ha : a < 140) {b : Nat} (hb : b < 140) {k : Nat} (hk : k < 4) {i : Nat} (hi : a + k = i) {j : Nat} (hj : b + k = j) (n : Int32) : Ct l G yX7_moves cX7_moves 5 (none : Option Jvm.ClassFile.FieldType) rm_X7_moves_i [.ref (am 0), .int (nI a), .int (nI b), .int (nI k), .int n] (mw G am g kf nk) (fun rv W1 => rv = none ∧ W1 = mw G am (upd (upd g i (g i - n)) j ((upd g i (g i - n)) j + n)) kf nk) := by
  have h := c_X7_moves l G am g kf nk ha hb hk n
  rw [show m_X7_moves g a b k n = upd (upd g i (g i - n)) j ((upd g i (g i - n)) j + n) from by subst hi; subst hj; rfl] at h
  exact h
abbrev rm_X7_skulls : Room := { frames := 1, cells := 0, slots := 0, locals := 24 }
def m_X7_skulls (g : St) (d : Nat) (n : Int32) : St :=
  (upd (upd (upd (upd (upd (upd (upd (upd g (16 + 4 * d) ((g (16 + 4 * d)) - (if n ≤ (g (16 + 4 * d)) then n else (g (16 + 4 * d))))) (32 + 4 * d) ((g (32 + 4 * d)) + (if n ≤ (g (16 + 4 * d)) then n else (g (16 + 4 * d))))) (17 + 4 * d) ((g (17 + 4 * d)) - (if (n - (if n ≤ (g (16 + 4 * d)) then n else (g (16 + 4 * d)))) ≤ (g (17 + 4 * d)) then (n - (if n ≤ (g (16 + 4 * d)) then n else (g (16 + 4 * d)))) else (g (17 + 4 * d))))) (33 + 4 * d) ((g (33 + 4 * d)) + (if (n - (if n ≤ (g (16 + 4 * d)) then n else (g (16 + 4 * d)))) ≤ (g (17 + 4 * d)) then (n - (if n ≤ (g (16 + 4 * d)) then n else (g (16 + 4 * d)))) else (g (17 + 4 * d))))) (18 + 4 * d) ((g (18 + 4 * d)) - (if ((n - (if n ≤ (g (16 + 4 * d)) then n else (g (16 + 4 * d)))) - (if (n - (if n ≤ (g (16 + 4 * d)) then n else (g (16 + 4 * d)))) ≤ (g (17 + 4 * d)) then (n - (if n ≤ (g (16 + 4 * d)) then n else (g (16 + 4 * d)))) else (g (17 + 4 * d)))) ≤ (g (18 + 4 * d)) then ((n - (if n ≤ (g (16 + 4 * d)) then n else (g (16 + 4 * d)))) - (if (n - (if n ≤ (g (16 + 4 * d)) then n else (g (16 + 4 * d)))) ≤ (g (17 + 4 * d)) then (n - (if n ≤ (g (16 + 4 * d)) then n else (g (16 + 4 * d)))) else (g (17 + 4 * d)))) else (g (18 + 4 * d))))) (34 + 4 * d) ((g (34 + 4 * d)) + (if ((n - (if n ≤ (g (16 + 4 * d)) then n else (g (16 + 4 * d)))) - (if (n - (if n ≤ (g (16 + 4 * d)) then n else (g (16 + 4 * d)))) ≤ (g (17 + 4 * d)) then (n - (if n ≤ (g (16 + 4 * d)) then n else (g (16 + 4 * d)))) else (g (17 + 4 * d)))) ≤ (g (18 + 4 * d)) then ((n - (if n ≤ (g (16 + 4 * d)) then n else (g (16 + 4 * d)))) - (if (n - (if n ≤ (g (16 + 4 * d)) then n else (g (16 + 4 * d)))) ≤ (g (17 + 4 * d)) then (n - (if n ≤ (g (16 + 4 * d)) then n else (g (16 + 4 * d)))) else (g (17 + 4 * d)))) else (g (18 + 4 * d))))) (19 + 4 * d) ((g (19 + 4 * d)) - (if (((n - (if n ≤ (g (16 + 4 * d)) then n else (g (16 + 4 * d)))) - (if (n - (if n ≤ (g (16 + 4 * d)) then n else (g (16 + 4 * d)))) ≤ (g (17 + 4 * d)) then (n - (if n ≤ (g (16 + 4 * d)) then n else (g (16 + 4 * d)))) else (g (17 + 4 * d)))) - (if ((n - (if n ≤ (g (16 + 4 * d)) then n else (g (16 + 4 * d)))) - (if (n - (if n ≤ (g (16 + 4 * d)) then n else (g (16 + 4 * d)))) ≤ (g (17 + 4 * d)) then (n - (if n ≤ (g (16 + 4 * d)) then n else (g (16 + 4 * d)))) else (g (17 + 4 * d)))) ≤ (g (18 + 4 * d)) then ((n - (if n ≤ (g (16 + 4 * d)) then n else (g (16 + 4 * d)))) - (if (n - (if n ≤ (g (16 + 4 * d)) then n else (g (16 + 4 * d)))) ≤ (g (17 + 4 * d)) then (n - (if n ≤ (g (16 + 4 * d)) then n else (g (16 + 4 * d)))) else (g (17 + 4 * d)))) else (g (18 + 4 * d)))) ≤ (g (19 + 4 * d)) then (((n - (if n ≤ (g (16 + 4 * d)) then n else (g (16 + 4 * d)))) - (if (n - (if n ≤ (g (16 + 4 * d)) then n else (g (16 + 4 * d)))) ≤ (g (17 + 4 * d)) then (n - (if n ≤ (g (16 + 4 * d)) then n else (g (16 + 4 * d)))) else (g (17 + 4 * d)))) - (if ((n - (if n ≤ (g (16 + 4 * d)) then n else (g (16 + 4 * d)))) - (if (n - (if n ≤ (g (16 + 4 * d)) then n else (g (16 + 4 * d)))) ≤ (g (17 + 4 * d)) then (n - (if n ≤ (g (16 + 4 * d)) then n else (g (16 + 4 * d)))) else (g (17 + 4 * d)))) ≤ (g (18 + 4 * d)) then ((n - (if n ≤ (g (16 + 4 * d)) then n else (g (16 + 4 * d)))) - (if (n - (if n ≤ (g (16 + 4 * d)) then n else (g (16 + 4 * d)))) ≤ (g (17 + 4 * d)) then (n - (if n ≤ (g (16 + 4 * d)) then n else (g (16 + 4 * d)))) else (g (17 + 4 * d)))) else (g (18 + 4 * d)))) else (g (19 + 4 * d))))) (35 + 4 * d) ((g (35 + 4 * d)) + (if (((n - (if n ≤ (g (16 + 4 * d)) then n else (g (16 + 4 * d)))) - (if (n - (if n ≤ (g (16 + 4 * d)) then n else (g (16 + 4 * d)))) ≤ (g (17 + 4 * d)) then (n - (if n ≤ (g (16 + 4 * d)) then n else (g (16 + 4 * d)))) else (g (17 + 4 * d)))) - (if ((n - (if n ≤ (g (16 + 4 * d)) then n else (g (16 + 4 * d)))) - (if (n - (if n ≤ (g (16 + 4 * d)) then n else (g (16 + 4 * d)))) ≤ (g (17 + 4 * d)) then (n - (if n ≤ (g (16 + 4 * d)) then n else (g (16 + 4 * d)))) else (g (17 + 4 * d)))) ≤ (g (18 + 4 * d)) then ((n - (if n ≤ (g (16 + 4 * d)) then n else (g (16 + 4 * d)))) - (if (n - (if n ≤ (g (16 + 4 * d)) then n else (g (16 + 4 * d)))) ≤ (g (17 + 4 * d)) then (n - (if n ≤ (g (16 + 4 * d)) then n else (g (16 + 4 * d)))) else (g (17 + 4 * d)))) else (g (18 + 4 * d)))) ≤ (g (19 + 4 * d)) then (((n - (if n ≤ (g (16 + 4 * d)) then n else (g (16 + 4 * d)))) - (if (n - (if n ≤ (g (16 + 4 * d)) then n else (g (16 + 4 * d)))) ≤ (g (17 + 4 * d)) then (n - (if n ≤ (g (16 + 4 * d)) then n else (g (16 + 4 * d)))) else (g (17 + 4 * d)))) - (if ((n - (if n ≤ (g (16 + 4 * d)) then n else (g (16 + 4 * d)))) - (if (n - (if n ≤ (g (16 + 4 * d)) then n else (g (16 + 4 * d)))) ≤ (g (17 + 4 * d)) then (n - (if n ≤ (g (16 + 4 * d)) then n else (g (16 + 4 * d)))) else (g (17 + 4 * d)))) ≤ (g (18 + 4 * d)) then ((n - (if n ≤ (g (16 + 4 * d)) then n else (g (16 + 4 * d)))) - (if (n - (if n ≤ (g (16 + 4 * d)) then n else (g (16 + 4 * d)))) ≤ (g (17 + 4 * d)) then (n - (if n ≤ (g (16 + 4 * d)) then n else (g (16 + 4 * d)))) else (g (17 + 4 * d)))) else (g (18 + 4 * d)))) else (g (19 + 4 * d)))))
set_option maxHeartbeats 4000000 in
set_option maxRecDepth 100000 in
theorem c_X7_skulls (l : Launch) (G : GG) (am : Nat → Nat) (g kf : St) (nk : Int32) {d : Nat} (hd : d < 4) (n : Int32) : Ct l G yX7_skulls cX7_skulls 6 (none : Option Jvm.ClassFile.FieldType) rm_X7_skulls [.ref (am 0), .int (nI d), .int n] (mw G am g kf nk) (fun rv W1 => rv = none ∧ W1 = mw G am (m_X7_skulls g d n) kf nk) := by
  refine Ct.mk2 (by decide) (Nat.le_of_ble_eq_true rfl) ?_
  intro p e s m args below meth c A H locs ls Q cx wo hl hQ
  obtain ⟨hx, hb, hml, hr, hlo, hown, hts, hnm, kn, hA⟩ := id cx
  have hl : lv_has ls 6 [(0, .ref (am 0)), (1, .int (nI d)), (2, .int n)] := hl
  generalize hM : m_X7_skulls g d n = M at hQ
  unfold m_X7_skulls at hM
  refine lv_iload_n hx hb dX7_skulls_0 rfl (lv_at hl 2 rfl) ?_
  refine lv_istore_n (lv' := [(3, .int n), (0, .ref (am 0)), (1, .int (nI d)), (2, .int n)]) hx hb dX7_skulls_1 rfl hl (by decide) rfl (fun ls hl => ?_)
  refine lv_iconst (v := 0) hx hb dX7_skulls_2 (by decide) ?_
  refine lv_istore (lv' := [(4, .int 0), (3, .int n), (0, .ref (am 0)), (1, .int (nI d)), (2, .int n)]) hx hb dX7_skulls_3 hl (by decide) rfl (fun ls hl => ?_)
  refine lv_iload hx hb dX7_skulls_5 (lv_at hl 0 rfl) ?_
  refine lv_iconst (v := 4) hx hb dX7_skulls_7 (by decide) ?_
  refine lv_icmp_ge (tgt := 80) hx hb dX7_skulls_8 (by decide) (fun h => absurd h (by decide)) (fun _ => ?_)
  refine lv_aload_n hx hb dX7_skulls_11 rfl (lv_at hl 2 rfl) ?_
  refine mg_st cx wo m_631 dX7_skulls_12 ?_
  refine lv_bipush (v := 16) hx hb dX7_skulls_15 (by decide) ?_
  refine lv_iconst (v := 4) hx hb dX7_skulls_17 (by decide) ?_
  refine lv_iload_n hx hb dX7_skulls_18 rfl (lv_at hl 3 rfl) ?_
  refine lv_imul hx hb dX7_skulls_19 ?_
  refine tope (y := (nI (4 * d))) (mi (a := 4) (b := d) rfl rfl (by omega)) ?_
  refine lv_iadd hx hb dX7_skulls_20 ?_
  refine tope (y := (nI (16 + 4 * d))) (ai (a := 16) (b := 4 * d) rfl rfl (by omega)) ?_
  refine lv_iload hx hb dX7_skulls_21 (lv_at hl 0 rfl) ?_
  refine lv_iadd hx hb dX7_skulls_23 ?_
  refine tope (y := (nI (16 + 4 * d))) (ai (a := 16 + 4 * d) (b := 0) rfl rfl (by omega)) ?_
  refine ml_st (n := 16 + 4 * d) cx wo rfl (by omega) dX7_skulls_24 ?_
  refine lv_iload_n hx hb dX7_skulls_25 rfl (lv_at hl 1 rfl) ?_
  have hj_1 : ∀ (H : Heap) (locs : List Loc) (ls : Array Slot), Wo G A s.heap H locs (mw G am g kf nk) → lv_has ls 6 [(4, .int 0), (3, .int n), (0, .ref (am 0)), (1, .int (nI d)), (2, .int n)] → W p l e rm_X7_skulls s m args below meth c H locs 0 0 Q (F0 m 47 ls [.int (if n ≤ (g (16 + 4 * d)) then n else (g (16 + 4 * d)))]) := by
    intro H locs ls wo hl
    refine lv_istore (lv' := [(5, .int (if n ≤ (g (16 + 4 * d)) then n else (g (16 + 4 * d)))), (4, .int 0), (3, .int n), (0, .ref (am 0)), (1, .int (nI d)), (2, .int n)]) hx hb dX7_skulls_47 hl (by decide) rfl (fun ls hl => ?_)
    refine lv_aload_n hx hb dX7_skulls_49 rfl (lv_at hl 3 rfl) ?_
    refine lv_bipush (v := 16) hx hb dX7_skulls_50 (by decide) ?_
    refine lv_iconst (v := 4) hx hb dX7_skulls_52 (by decide) ?_
    refine lv_iload_n hx hb dX7_skulls_53 rfl (lv_at hl 4 rfl) ?_
    refine lv_imul hx hb dX7_skulls_54 ?_
    refine tope (y := (nI (4 * d))) (mi (a := 4) (b := d) rfl rfl (by omega)) ?_
    refine lv_iadd hx hb dX7_skulls_55 ?_
    refine tope (y := (nI (16 + 4 * d))) (ai (a := 16) (b := 4 * d) rfl rfl (by omega)) ?_
    refine lv_bipush (v := 32) hx hb dX7_skulls_56 (by decide) ?_
    refine lv_iconst (v := 4) hx hb dX7_skulls_58 (by decide) ?_
    refine lv_iload_n hx hb dX7_skulls_59 rfl (lv_at hl 4 rfl) ?_
    refine lv_imul hx hb dX7_skulls_60 ?_
    refine tope (y := (nI (4 * d))) (mi (a := 4) (b := d) rfl rfl (by omega)) ?_
    refine lv_iadd hx hb dX7_skulls_61 ?_
    refine tope (y := (nI (32 + 4 * d))) (ai (a := 32) (b := 4 * d) rfl rfl (by omega)) ?_
    refine lv_iload hx hb dX7_skulls_62 (lv_at hl 1 rfl) ?_
    refine lv_iload hx hb dX7_skulls_64 (lv_at hl 0 rfl) ?_
    refine call_V (As := [.int (nI (16 + 4 * d)), .int (nI (32 + 4 * d)), .int 0, .int (if n ≤ (g (16 + 4 * d)) then n else (g (16 + 4 * d)))]) (rest := []) (fun X => X) Fr_id cx (c_X7_moves_i l G am _ _ _ (a := 16 + 4 * d) (by omega) (b := 32 + 4 * d) (by omega) (k := 0) (by omega) (i := 16 + 4 * d) (by omega) (j := 32 + 4 * d) (by omega) (if n ≤ (g (16 + 4 * d)) then n else (g (16 + 4 * d)))) fx_X7_moves m_726 m_728 m_31 ⟨by decide, by decide⟩ wo (k := 0) rfl rfl rfl rfl hl.1 rfl (Nat.le_of_ble_eq_true rfl) dX7_skulls_66 ⟨by decide, by decide⟩ (fun v W1 H locs hp wo => ?_)
    obtain ⟨rfl, rfl⟩ := hp
    rw [show (upd (upd g (16 + 4 * d) (g (16 + 4 * d) - (if n ≤ (g (16 + 4 * d)) then n else (g (16 + 4 * d))))) (32 + 4 * d) ((upd g (16 + 4 * d) (g (16 + 4 * d) - (if n ≤ (g (16 + 4 * d)) then n else (g (16 + 4 * d))))) (32 + 4 * d) + (if n ≤ (g (16 + 4 * d)) then n else (g (16 + 4 * d))))) = (upd (upd g (16 + 4 * d) ((g (16 + 4 * d)) - (if n ≤ (g (16 + 4 * d)) then n else (g (16 + 4 * d))))) (32 + 4 * d) ((g (32 + 4 * d)) + (if n ≤ (g (16 + 4 * d)) then n else (g (16 + 4 * d))))) from by simp (disch := omega) only [pk_un, pk_us]] at wo
    refine nrm_v ?_
    refine lv_iload_n hx hb dX7_skulls_69 rfl (lv_at hl 2 rfl) ?_
    refine lv_iload hx hb dX7_skulls_70 (lv_at hl 0 rfl) ?_
    refine lv_isub hx hb dX7_skulls_72 ?_
    refine lv_istore_n (lv' := [(3, .int (n - (if n ≤ (g (16 + 4 * d)) then n else (g (16 + 4 * d))))), (5, .int (if n ≤ (g (16 + 4 * d)) then n else (g (16 + 4 * d)))), (4, .int 0), (0, .ref (am 0)), (1, .int (nI d)), (2, .int n)]) hx hb dX7_skulls_73 rfl hl (by decide) rfl (fun ls hl => ?_)
    refine lv_iinc (v := 1) (lv' := [(4, .int 1), (3, .int (n - (if n ≤ (g (16 + 4 * d)) then n else (g (16 + 4 * d))))), (5, .int (if n ≤ (g (16 + 4 * d)) then n else (g (16 + 4 * d)))), (0, .ref (am 0)), (1, .int (nI d)), (2, .int n)]) hx hb dX7_skulls_74 hl (k := 2) rfl (by decide) (by decide) rfl (fun ls hl => ?_)
    refine lv_goto (tgt := 5) hx hb dX7_skulls_77 (by decide) ?_
    refine lv_iload hx hb dX7_skulls_5 (lv_at hl 0 rfl) ?_
    refine lv_iconst (v := 4) hx hb dX7_skulls_7 (by decide) ?_
    refine lv_icmp_ge (tgt := 80) hx hb dX7_skulls_8 (by decide) (fun h => absurd h (by decide)) (fun _ => ?_)
    refine lv_aload_n hx hb dX7_skulls_11 rfl (lv_at hl 3 rfl) ?_
    refine mg_st cx wo m_631 dX7_skulls_12 ?_
    refine lv_bipush (v := 16) hx hb dX7_skulls_15 (by decide) ?_
    refine lv_iconst (v := 4) hx hb dX7_skulls_17 (by decide) ?_
    refine lv_iload_n hx hb dX7_skulls_18 rfl (lv_at hl 4 rfl) ?_
    refine lv_imul hx hb dX7_skulls_19 ?_
    refine tope (y := (nI (4 * d))) (mi (a := 4) (b := d) rfl rfl (by omega)) ?_
    refine lv_iadd hx hb dX7_skulls_20 ?_
    refine tope (y := (nI (16 + 4 * d))) (ai (a := 16) (b := 4 * d) rfl rfl (by omega)) ?_
    refine lv_iload hx hb dX7_skulls_21 (lv_at hl 0 rfl) ?_
    refine lv_iadd hx hb dX7_skulls_23 ?_
    refine tope (y := (nI (17 + 4 * d))) (ai (a := 16 + 4 * d) (b := 1) rfl rfl (by omega)) ?_
    refine ml_st (n := 17 + 4 * d) cx wo rfl (by omega) dX7_skulls_24 ?_
    refine tope (y := (g (17 + 4 * d))) (show (upd (upd g (16 + 4 * d) ((g (16 + 4 * d)) - (if n ≤ (g (16 + 4 * d)) then n else (g (16 + 4 * d))))) (32 + 4 * d) ((g (32 + 4 * d)) + (if n ≤ (g (16 + 4 * d)) then n else (g (16 + 4 * d))))) (17 + 4 * d) = (g (17 + 4 * d)) from (rdN (by omega) (rdN (by omega) rfl))) ?_
    refine lv_iload_n hx hb dX7_skulls_25 rfl (lv_at hl 1 rfl) ?_
    have hj_2 : ∀ (H : Heap) (locs : List Loc) (ls : Array Slot), Wo G A s.heap H locs (mw G am (upd (upd g (16 + 4 * d) ((g (16 + 4 * d)) - (if n ≤ (g (16 + 4 * d)) then n else (g (16 + 4 * d))))) (32 + 4 * d) ((g (32 + 4 * d)) + (if n ≤ (g (16 + 4 * d)) then n else (g (16 + 4 * d))))) kf nk) → lv_has ls 6 [(4, .int 1), (3, .int (n - (if n ≤ (g (16 + 4 * d)) then n else (g (16 + 4 * d))))), (5, .int (if n ≤ (g (16 + 4 * d)) then n else (g (16 + 4 * d)))), (0, .ref (am 0)), (1, .int (nI d)), (2, .int n)] → W p l e rm_X7_skulls s m args below meth c H locs 0 0 Q (F0 m 47 ls [.int (if (n - (if n ≤ (g (16 + 4 * d)) then n else (g (16 + 4 * d)))) ≤ (g (17 + 4 * d)) then (n - (if n ≤ (g (16 + 4 * d)) then n else (g (16 + 4 * d)))) else (g (17 + 4 * d)))]) := by
      intro H locs ls wo hl
      refine lv_istore (lv' := [(5, .int (if (n - (if n ≤ (g (16 + 4 * d)) then n else (g (16 + 4 * d)))) ≤ (g (17 + 4 * d)) then (n - (if n ≤ (g (16 + 4 * d)) then n else (g (16 + 4 * d)))) else (g (17 + 4 * d)))), (4, .int 1), (3, .int (n - (if n ≤ (g (16 + 4 * d)) then n else (g (16 + 4 * d))))), (0, .ref (am 0)), (1, .int (nI d)), (2, .int n)]) hx hb dX7_skulls_47 hl (by decide) rfl (fun ls hl => ?_)
      refine lv_aload_n hx hb dX7_skulls_49 rfl (lv_at hl 3 rfl) ?_
      refine lv_bipush (v := 16) hx hb dX7_skulls_50 (by decide) ?_
      refine lv_iconst (v := 4) hx hb dX7_skulls_52 (by decide) ?_
      refine lv_iload_n hx hb dX7_skulls_53 rfl (lv_at hl 4 rfl) ?_
      refine lv_imul hx hb dX7_skulls_54 ?_
      refine tope (y := (nI (4 * d))) (mi (a := 4) (b := d) rfl rfl (by omega)) ?_
      refine lv_iadd hx hb dX7_skulls_55 ?_
      refine tope (y := (nI (16 + 4 * d))) (ai (a := 16) (b := 4 * d) rfl rfl (by omega)) ?_
      refine lv_bipush (v := 32) hx hb dX7_skulls_56 (by decide) ?_
      refine lv_iconst (v := 4) hx hb dX7_skulls_58 (by decide) ?_
      refine lv_iload_n hx hb dX7_skulls_59 rfl (lv_at hl 4 rfl) ?_
      refine lv_imul hx hb dX7_skulls_60 ?_
      refine tope (y := (nI (4 * d))) (mi (a := 4) (b := d) rfl rfl (by omega)) ?_
      refine lv_iadd hx hb dX7_skulls_61 ?_
      refine tope (y := (nI (32 + 4 * d))) (ai (a := 32) (b := 4 * d) rfl rfl (by omega)) ?_
      refine lv_iload hx hb dX7_skulls_62 (lv_at hl 1 rfl) ?_
      refine lv_iload hx hb dX7_skulls_64 (lv_at hl 0 rfl) ?_
      refine call_V (As := [.int (nI (16 + 4 * d)), .int (nI (32 + 4 * d)), .int 1, .int (if (n - (if n ≤ (g (16 + 4 * d)) then n else (g (16 + 4 * d)))) ≤ (g (17 + 4 * d)) then (n - (if n ≤ (g (16 + 4 * d)) then n else (g (16 + 4 * d)))) else (g (17 + 4 * d)))]) (rest := []) (fun X => X) Fr_id cx (c_X7_moves_i l G am _ _ _ (a := 16 + 4 * d) (by omega) (b := 32 + 4 * d) (by omega) (k := 1) (by omega) (i := 17 + 4 * d) (by omega) (j := 33 + 4 * d) (by omega) (if (n - (if n ≤ (g (16 + 4 * d)) then n else (g (16 + 4 * d)))) ≤ (g (17 + 4 * d)) then (n - (if n ≤ (g (16 + 4 * d)) then n else (g (16 + 4 * d)))) else (g (17 + 4 * d)))) fx_X7_moves m_726 m_728 m_31 ⟨by decide, by decide⟩ wo (k := 0) rfl rfl rfl rfl hl.1 rfl (Nat.le_of_ble_eq_true rfl) dX7_skulls_66 ⟨by decide, by decide⟩ (fun v W1 H locs hp wo => ?_)
      obtain ⟨rfl, rfl⟩ := hp
      rw [show (upd (upd (upd (upd g (16 + 4 * d) ((g (16 + 4 * d)) - (if n ≤ (g (16 + 4 * d)) then n else (g (16 + 4 * d))))) (32 + 4 * d) ((g (32 + 4 * d)) + (if n ≤ (g (16 + 4 * d)) then n else (g (16 + 4 * d))))) (17 + 4 * d) ((upd (upd g (16 + 4 * d) ((g (16 + 4 * d)) - (if n ≤ (g (16 + 4 * d)) then n else (g (16 + 4 * d))))) (32 + 4 * d) ((g (32 + 4 * d)) + (if n ≤ (g (16 + 4 * d)) then n else (g (16 + 4 * d))))) (17 + 4 * d) - (if (n - (if n ≤ (g (16 + 4 * d)) then n else (g (16 + 4 * d)))) ≤ (g (17 + 4 * d)) then (n - (if n ≤ (g (16 + 4 * d)) then n else (g (16 + 4 * d)))) else (g (17 + 4 * d))))) (33 + 4 * d) ((upd (upd (upd g (16 + 4 * d) ((g (16 + 4 * d)) - (if n ≤ (g (16 + 4 * d)) then n else (g (16 + 4 * d))))) (32 + 4 * d) ((g (32 + 4 * d)) + (if n ≤ (g (16 + 4 * d)) then n else (g (16 + 4 * d))))) (17 + 4 * d) ((upd (upd g (16 + 4 * d) ((g (16 + 4 * d)) - (if n ≤ (g (16 + 4 * d)) then n else (g (16 + 4 * d))))) (32 + 4 * d) ((g (32 + 4 * d)) + (if n ≤ (g (16 + 4 * d)) then n else (g (16 + 4 * d))))) (17 + 4 * d) - (if (n - (if n ≤ (g (16 + 4 * d)) then n else (g (16 + 4 * d)))) ≤ (g (17 + 4 * d)) then (n - (if n ≤ (g (16 + 4 * d)) then n else (g (16 + 4 * d)))) else (g (17 + 4 * d))))) (33 + 4 * d) + (if (n - (if n ≤ (g (16 + 4 * d)) then n else (g (16 + 4 * d)))) ≤ (g (17 + 4 * d)) then (n - (if n ≤ (g (16 + 4 * d)) then n else (g (16 + 4 * d)))) else (g (17 + 4 * d))))) = (upd (upd (upd (upd g (16 + 4 * d) ((g (16 + 4 * d)) - (if n ≤ (g (16 + 4 * d)) then n else (g (16 + 4 * d))))) (32 + 4 * d) ((g (32 + 4 * d)) + (if n ≤ (g (16 + 4 * d)) then n else (g (16 + 4 * d))))) (17 + 4 * d) ((g (17 + 4 * d)) - (if (n - (if n ≤ (g (16 + 4 * d)) then n else (g (16 + 4 * d)))) ≤ (g (17 + 4 * d)) then (n - (if n ≤ (g (16 + 4 * d)) then n else (g (16 + 4 * d)))) else (g (17 + 4 * d))))) (33 + 4 * d) ((g (33 + 4 * d)) + (if (n - (if n ≤ (g (16 + 4 * d)) then n else (g (16 + 4 * d)))) ≤ (g (17 + 4 * d)) then (n - (if n ≤ (g (16 + 4 * d)) then n else (g (16 + 4 * d)))) else (g (17 + 4 * d))))) from by simp (disch := omega) only [pk_un, pk_us]] at wo
      refine nrm_v ?_
      refine lv_iload_n hx hb dX7_skulls_69 rfl (lv_at hl 2 rfl) ?_
      refine lv_iload hx hb dX7_skulls_70 (lv_at hl 0 rfl) ?_
      refine lv_isub hx hb dX7_skulls_72 ?_
      refine lv_istore_n (lv' := [(3, .int ((n - (if n ≤ (g (16 + 4 * d)) then n else (g (16 + 4 * d)))) - (if (n - (if n ≤ (g (16 + 4 * d)) then n else (g (16 + 4 * d)))) ≤ (g (17 + 4 * d)) then (n - (if n ≤ (g (16 + 4 * d)) then n else (g (16 + 4 * d)))) else (g (17 + 4 * d))))), (5, .int (if (n - (if n ≤ (g (16 + 4 * d)) then n else (g (16 + 4 * d)))) ≤ (g (17 + 4 * d)) then (n - (if n ≤ (g (16 + 4 * d)) then n else (g (16 + 4 * d)))) else (g (17 + 4 * d)))), (4, .int 1), (0, .ref (am 0)), (1, .int (nI d)), (2, .int n)]) hx hb dX7_skulls_73 rfl hl (by decide) rfl (fun ls hl => ?_)
      refine lv_iinc (v := 2) (lv' := [(4, .int 2), (3, .int ((n - (if n ≤ (g (16 + 4 * d)) then n else (g (16 + 4 * d)))) - (if (n - (if n ≤ (g (16 + 4 * d)) then n else (g (16 + 4 * d)))) ≤ (g (17 + 4 * d)) then (n - (if n ≤ (g (16 + 4 * d)) then n else (g (16 + 4 * d)))) else (g (17 + 4 * d))))), (5, .int (if (n - (if n ≤ (g (16 + 4 * d)) then n else (g (16 + 4 * d)))) ≤ (g (17 + 4 * d)) then (n - (if n ≤ (g (16 + 4 * d)) then n else (g (16 + 4 * d)))) else (g (17 + 4 * d)))), (0, .ref (am 0)), (1, .int (nI d)), (2, .int n)]) hx hb dX7_skulls_74 hl (k := 2) rfl (by decide) (by decide) rfl (fun ls hl => ?_)
      refine lv_goto (tgt := 5) hx hb dX7_skulls_77 (by decide) ?_
      refine lv_iload hx hb dX7_skulls_5 (lv_at hl 0 rfl) ?_
      refine lv_iconst (v := 4) hx hb dX7_skulls_7 (by decide) ?_
      refine lv_icmp_ge (tgt := 80) hx hb dX7_skulls_8 (by decide) (fun h => absurd h (by decide)) (fun _ => ?_)
      refine lv_aload_n hx hb dX7_skulls_11 rfl (lv_at hl 3 rfl) ?_
      refine mg_st cx wo m_631 dX7_skulls_12 ?_
      refine lv_bipush (v := 16) hx hb dX7_skulls_15 (by decide) ?_
      refine lv_iconst (v := 4) hx hb dX7_skulls_17 (by decide) ?_
      refine lv_iload_n hx hb dX7_skulls_18 rfl (lv_at hl 4 rfl) ?_
      refine lv_imul hx hb dX7_skulls_19 ?_
      refine tope (y := (nI (4 * d))) (mi (a := 4) (b := d) rfl rfl (by omega)) ?_
      refine lv_iadd hx hb dX7_skulls_20 ?_
      refine tope (y := (nI (16 + 4 * d))) (ai (a := 16) (b := 4 * d) rfl rfl (by omega)) ?_
      refine lv_iload hx hb dX7_skulls_21 (lv_at hl 0 rfl) ?_
      refine lv_iadd hx hb dX7_skulls_23 ?_
      refine tope (y := (nI (18 + 4 * d))) (ai (a := 16 + 4 * d) (b := 2) rfl rfl (by omega)) ?_
      refine ml_st (n := 18 + 4 * d) cx wo rfl (by omega) dX7_skulls_24 ?_
      refine tope (y := (g (18 + 4 * d))) (show (upd (upd (upd (upd g (16 + 4 * d) ((g (16 + 4 * d)) - (if n ≤ (g (16 + 4 * d)) then n else (g (16 + 4 * d))))) (32 + 4 * d) ((g (32 + 4 * d)) + (if n ≤ (g (16 + 4 * d)) then n else (g (16 + 4 * d))))) (17 + 4 * d) ((g (17 + 4 * d)) - (if (n - (if n ≤ (g (16 + 4 * d)) then n else (g (16 + 4 * d)))) ≤ (g (17 + 4 * d)) then (n - (if n ≤ (g (16 + 4 * d)) then n else (g (16 + 4 * d)))) else (g (17 + 4 * d))))) (33 + 4 * d) ((g (33 + 4 * d)) + (if (n - (if n ≤ (g (16 + 4 * d)) then n else (g (16 + 4 * d)))) ≤ (g (17 + 4 * d)) then (n - (if n ≤ (g (16 + 4 * d)) then n else (g (16 + 4 * d)))) else (g (17 + 4 * d))))) (18 + 4 * d) = (g (18 + 4 * d)) from (rdN (by omega) (rdN (by omega) (rdN (by omega) (rdN (by omega) rfl))))) ?_
      refine lv_iload_n hx hb dX7_skulls_25 rfl (lv_at hl 1 rfl) ?_
      have hj_3 : ∀ (H : Heap) (locs : List Loc) (ls : Array Slot), Wo G A s.heap H locs (mw G am (upd (upd (upd (upd g (16 + 4 * d) ((g (16 + 4 * d)) - (if n ≤ (g (16 + 4 * d)) then n else (g (16 + 4 * d))))) (32 + 4 * d) ((g (32 + 4 * d)) + (if n ≤ (g (16 + 4 * d)) then n else (g (16 + 4 * d))))) (17 + 4 * d) ((g (17 + 4 * d)) - (if (n - (if n ≤ (g (16 + 4 * d)) then n else (g (16 + 4 * d)))) ≤ (g (17 + 4 * d)) then (n - (if n ≤ (g (16 + 4 * d)) then n else (g (16 + 4 * d)))) else (g (17 + 4 * d))))) (33 + 4 * d) ((g (33 + 4 * d)) + (if (n - (if n ≤ (g (16 + 4 * d)) then n else (g (16 + 4 * d)))) ≤ (g (17 + 4 * d)) then (n - (if n ≤ (g (16 + 4 * d)) then n else (g (16 + 4 * d)))) else (g (17 + 4 * d))))) kf nk) → lv_has ls 6 [(4, .int 2), (3, .int ((n - (if n ≤ (g (16 + 4 * d)) then n else (g (16 + 4 * d)))) - (if (n - (if n ≤ (g (16 + 4 * d)) then n else (g (16 + 4 * d)))) ≤ (g (17 + 4 * d)) then (n - (if n ≤ (g (16 + 4 * d)) then n else (g (16 + 4 * d)))) else (g (17 + 4 * d))))), (5, .int (if (n - (if n ≤ (g (16 + 4 * d)) then n else (g (16 + 4 * d)))) ≤ (g (17 + 4 * d)) then (n - (if n ≤ (g (16 + 4 * d)) then n else (g (16 + 4 * d)))) else (g (17 + 4 * d)))), (0, .ref (am 0)), (1, .int (nI d)), (2, .int n)] → W p l e rm_X7_skulls s m args below meth c H locs 0 0 Q (F0 m 47 ls [.int (if ((n - (if n ≤ (g (16 + 4 * d)) then n else (g (16 + 4 * d)))) - (if (n - (if n ≤ (g (16 + 4 * d)) then n else (g (16 + 4 * d)))) ≤ (g (17 + 4 * d)) then (n - (if n ≤ (g (16 + 4 * d)) then n else (g (16 + 4 * d)))) else (g (17 + 4 * d)))) ≤ (g (18 + 4 * d)) then ((n - (if n ≤ (g (16 + 4 * d)) then n else (g (16 + 4 * d)))) - (if (n - (if n ≤ (g (16 + 4 * d)) then n else (g (16 + 4 * d)))) ≤ (g (17 + 4 * d)) then (n - (if n ≤ (g (16 + 4 * d)) then n else (g (16 + 4 * d)))) else (g (17 + 4 * d)))) else (g (18 + 4 * d)))]) := by
        intro H locs ls wo hl
        refine lv_istore (lv' := [(5, .int (if ((n - (if n ≤ (g (16 + 4 * d)) then n else (g (16 + 4 * d)))) - (if (n - (if n ≤ (g (16 + 4 * d)) then n else (g (16 + 4 * d)))) ≤ (g (17 + 4 * d)) then (n - (if n ≤ (g (16 + 4 * d)) then n else (g (16 + 4 * d)))) else (g (17 + 4 * d)))) ≤ (g (18 + 4 * d)) then ((n - (if n ≤ (g (16 + 4 * d)) then n else (g (16 + 4 * d)))) - (if (n - (if n ≤ (g (16 + 4 * d)) then n else (g (16 + 4 * d)))) ≤ (g (17 + 4 * d)) then (n - (if n ≤ (g (16 + 4 * d)) then n else (g (16 + 4 * d)))) else (g (17 + 4 * d)))) else (g (18 + 4 * d)))), (4, .int 2), (3, .int ((n - (if n ≤ (g (16 + 4 * d)) then n else (g (16 + 4 * d)))) - (if (n - (if n ≤ (g (16 + 4 * d)) then n else (g (16 + 4 * d)))) ≤ (g (17 + 4 * d)) then (n - (if n ≤ (g (16 + 4 * d)) then n else (g (16 + 4 * d)))) else (g (17 + 4 * d))))), (0, .ref (am 0)), (1, .int (nI d)), (2, .int n)]) hx hb dX7_skulls_47 hl (by decide) rfl (fun ls hl => ?_)
        refine lv_aload_n hx hb dX7_skulls_49 rfl (lv_at hl 3 rfl) ?_
        refine lv_bipush (v := 16) hx hb dX7_skulls_50 (by decide) ?_
        refine lv_iconst (v := 4) hx hb dX7_skulls_52 (by decide) ?_
        refine lv_iload_n hx hb dX7_skulls_53 rfl (lv_at hl 4 rfl) ?_
        refine lv_imul hx hb dX7_skulls_54 ?_
        refine tope (y := (nI (4 * d))) (mi (a := 4) (b := d) rfl rfl (by omega)) ?_
        refine lv_iadd hx hb dX7_skulls_55 ?_
        refine tope (y := (nI (16 + 4 * d))) (ai (a := 16) (b := 4 * d) rfl rfl (by omega)) ?_
        refine lv_bipush (v := 32) hx hb dX7_skulls_56 (by decide) ?_
        refine lv_iconst (v := 4) hx hb dX7_skulls_58 (by decide) ?_
        refine lv_iload_n hx hb dX7_skulls_59 rfl (lv_at hl 4 rfl) ?_
        refine lv_imul hx hb dX7_skulls_60 ?_
        refine tope (y := (nI (4 * d))) (mi (a := 4) (b := d) rfl rfl (by omega)) ?_
        refine lv_iadd hx hb dX7_skulls_61 ?_
        refine tope (y := (nI (32 + 4 * d))) (ai (a := 32) (b := 4 * d) rfl rfl (by omega)) ?_
        refine lv_iload hx hb dX7_skulls_62 (lv_at hl 1 rfl) ?_
        refine lv_iload hx hb dX7_skulls_64 (lv_at hl 0 rfl) ?_
        refine call_V (As := [.int (nI (16 + 4 * d)), .int (nI (32 + 4 * d)), .int 2, .int (if ((n - (if n ≤ (g (16 + 4 * d)) then n else (g (16 + 4 * d)))) - (if (n - (if n ≤ (g (16 + 4 * d)) then n else (g (16 + 4 * d)))) ≤ (g (17 + 4 * d)) then (n - (if n ≤ (g (16 + 4 * d)) then n else (g (16 + 4 * d)))) else (g (17 + 4 * d)))) ≤ (g (18 + 4 * d)) then ((n - (if n ≤ (g (16 + 4 * d)) then n else (g (16 + 4 * d)))) - (if (n - (if n ≤ (g (16 + 4 * d)) then n else (g (16 + 4 * d)))) ≤ (g (17 + 4 * d)) then (n - (if n ≤ (g (16 + 4 * d)) then n else (g (16 + 4 * d)))) else (g (17 + 4 * d)))) else (g (18 + 4 * d)))]) (rest := []) (fun X => X) Fr_id cx (c_X7_moves_i l G am _ _ _ (a := 16 + 4 * d) (by omega) (b := 32 + 4 * d) (by omega) (k := 2) (by omega) (i := 18 + 4 * d) (by omega) (j := 34 + 4 * d) (by omega) (if ((n - (if n ≤ (g (16 + 4 * d)) then n else (g (16 + 4 * d)))) - (if (n - (if n ≤ (g (16 + 4 * d)) then n else (g (16 + 4 * d)))) ≤ (g (17 + 4 * d)) then (n - (if n ≤ (g (16 + 4 * d)) then n else (g (16 + 4 * d)))) else (g (17 + 4 * d)))) ≤ (g (18 + 4 * d)) then ((n - (if n ≤ (g (16 + 4 * d)) then n else (g (16 + 4 * d)))) - (if (n - (if n ≤ (g (16 + 4 * d)) then n else (g (16 + 4 * d)))) ≤ (g (17 + 4 * d)) then (n - (if n ≤ (g (16 + 4 * d)) then n else (g (16 + 4 * d)))) else (g (17 + 4 * d)))) else (g (18 + 4 * d)))) fx_X7_moves m_726 m_728 m_31 ⟨by decide, by decide⟩ wo (k := 0) rfl rfl rfl rfl hl.1 rfl (Nat.le_of_ble_eq_true rfl) dX7_skulls_66 ⟨by decide, by decide⟩ (fun v W1 H locs hp wo => ?_)
        obtain ⟨rfl, rfl⟩ := hp
        rw [show (upd (upd (upd (upd (upd (upd g (16 + 4 * d) ((g (16 + 4 * d)) - (if n ≤ (g (16 + 4 * d)) then n else (g (16 + 4 * d))))) (32 + 4 * d) ((g (32 + 4 * d)) + (if n ≤ (g (16 + 4 * d)) then n else (g (16 + 4 * d))))) (17 + 4 * d) ((g (17 + 4 * d)) - (if (n - (if n ≤ (g (16 + 4 * d)) then n else (g (16 + 4 * d)))) ≤ (g (17 + 4 * d)) then (n - (if n ≤ (g (16 + 4 * d)) then n else (g (16 + 4 * d)))) else (g (17 + 4 * d))))) (33 + 4 * d) ((g (33 + 4 * d)) + (if (n - (if n ≤ (g (16 + 4 * d)) then n else (g (16 + 4 * d)))) ≤ (g (17 + 4 * d)) then (n - (if n ≤ (g (16 + 4 * d)) then n else (g (16 + 4 * d)))) else (g (17 + 4 * d))))) (18 + 4 * d) ((upd (upd (upd (upd g (16 + 4 * d) ((g (16 + 4 * d)) - (if n ≤ (g (16 + 4 * d)) then n else (g (16 + 4 * d))))) (32 + 4 * d) ((g (32 + 4 * d)) + (if n ≤ (g (16 + 4 * d)) then n else (g (16 + 4 * d))))) (17 + 4 * d) ((g (17 + 4 * d)) - (if (n - (if n ≤ (g (16 + 4 * d)) then n else (g (16 + 4 * d)))) ≤ (g (17 + 4 * d)) then (n - (if n ≤ (g (16 + 4 * d)) then n else (g (16 + 4 * d)))) else (g (17 + 4 * d))))) (33 + 4 * d) ((g (33 + 4 * d)) + (if (n - (if n ≤ (g (16 + 4 * d)) then n else (g (16 + 4 * d)))) ≤ (g (17 + 4 * d)) then (n - (if n ≤ (g (16 + 4 * d)) then n else (g (16 + 4 * d)))) else (g (17 + 4 * d))))) (18 + 4 * d) - (if ((n - (if n ≤ (g (16 + 4 * d)) then n else (g (16 + 4 * d)))) - (if (n - (if n ≤ (g (16 + 4 * d)) then n else (g (16 + 4 * d)))) ≤ (g (17 + 4 * d)) then (n - (if n ≤ (g (16 + 4 * d)) then n else (g (16 + 4 * d)))) else (g (17 + 4 * d)))) ≤ (g (18 + 4 * d)) then ((n - (if n ≤ (g (16 + 4 * d)) then n else (g (16 + 4 * d)))) - (if (n - (if n ≤ (g (16 + 4 * d)) then n else (g (16 + 4 * d)))) ≤ (g (17 + 4 * d)) then (n - (if n ≤ (g (16 + 4 * d)) then n else (g (16 + 4 * d)))) else (g (17 + 4 * d)))) else (g (18 + 4 * d))))) (34 + 4 * d) ((upd (upd (upd (upd (upd g (16 + 4 * d) ((g (16 + 4 * d)) - (if n ≤ (g (16 + 4 * d)) then n else (g (16 + 4 * d))))) (32 + 4 * d) ((g (32 + 4 * d)) + (if n ≤ (g (16 + 4 * d)) then n else (g (16 + 4 * d))))) (17 + 4 * d) ((g (17 + 4 * d)) - (if (n - (if n ≤ (g (16 + 4 * d)) then n else (g (16 + 4 * d)))) ≤ (g (17 + 4 * d)) then (n - (if n ≤ (g (16 + 4 * d)) then n else (g (16 + 4 * d)))) else (g (17 + 4 * d))))) (33 + 4 * d) ((g (33 + 4 * d)) + (if (n - (if n ≤ (g (16 + 4 * d)) then n else (g (16 + 4 * d)))) ≤ (g (17 + 4 * d)) then (n - (if n ≤ (g (16 + 4 * d)) then n else (g (16 + 4 * d)))) else (g (17 + 4 * d))))) (18 + 4 * d) ((upd (upd (upd (upd g (16 + 4 * d) ((g (16 + 4 * d)) - (if n ≤ (g (16 + 4 * d)) then n else (g (16 + 4 * d))))) (32 + 4 * d) ((g (32 + 4 * d)) + (if n ≤ (g (16 + 4 * d)) then n else (g (16 + 4 * d))))) (17 + 4 * d) ((g (17 + 4 * d)) - (if (n - (if n ≤ (g (16 + 4 * d)) then n else (g (16 + 4 * d)))) ≤ (g (17 + 4 * d)) then (n - (if n ≤ (g (16 + 4 * d)) then n else (g (16 + 4 * d)))) else (g (17 + 4 * d))))) (33 + 4 * d) ((g (33 + 4 * d)) + (if (n - (if n ≤ (g (16 + 4 * d)) then n else (g (16 + 4 * d)))) ≤ (g (17 + 4 * d)) then (n - (if n ≤ (g (16 + 4 * d)) then n else (g (16 + 4 * d)))) else (g (17 + 4 * d))))) (18 + 4 * d) - (if ((n - (if n ≤ (g (16 + 4 * d)) then n else (g (16 + 4 * d)))) - (if (n - (if n ≤ (g (16 + 4 * d)) then n else (g (16 + 4 * d)))) ≤ (g (17 + 4 * d)) then (n - (if n ≤ (g (16 + 4 * d)) then n else (g (16 + 4 * d)))) else (g (17 + 4 * d)))) ≤ (g (18 + 4 * d)) then ((n - (if n ≤ (g (16 + 4 * d)) then n else (g (16 + 4 * d)))) - (if (n - (if n ≤ (g (16 + 4 * d)) then n else (g (16 + 4 * d)))) ≤ (g (17 + 4 * d)) then (n - (if n ≤ (g (16 + 4 * d)) then n else (g (16 + 4 * d)))) else (g (17 + 4 * d)))) else (g (18 + 4 * d))))) (34 + 4 * d) + (if ((n - (if n ≤ (g (16 + 4 * d)) then n else (g (16 + 4 * d)))) - (if (n - (if n ≤ (g (16 + 4 * d)) then n else (g (16 + 4 * d)))) ≤ (g (17 + 4 * d)) then (n - (if n ≤ (g (16 + 4 * d)) then n else (g (16 + 4 * d)))) else (g (17 + 4 * d)))) ≤ (g (18 + 4 * d)) then ((n - (if n ≤ (g (16 + 4 * d)) then n else (g (16 + 4 * d)))) - (if (n - (if n ≤ (g (16 + 4 * d)) then n else (g (16 + 4 * d)))) ≤ (g (17 + 4 * d)) then (n - (if n ≤ (g (16 + 4 * d)) then n else (g (16 + 4 * d)))) else (g (17 + 4 * d)))) else (g (18 + 4 * d))))) = (upd (upd (upd (upd (upd (upd g (16 + 4 * d) ((g (16 + 4 * d)) - (if n ≤ (g (16 + 4 * d)) then n else (g (16 + 4 * d))))) (32 + 4 * d) ((g (32 + 4 * d)) + (if n ≤ (g (16 + 4 * d)) then n else (g (16 + 4 * d))))) (17 + 4 * d) ((g (17 + 4 * d)) - (if (n - (if n ≤ (g (16 + 4 * d)) then n else (g (16 + 4 * d)))) ≤ (g (17 + 4 * d)) then (n - (if n ≤ (g (16 + 4 * d)) then n else (g (16 + 4 * d)))) else (g (17 + 4 * d))))) (33 + 4 * d) ((g (33 + 4 * d)) + (if (n - (if n ≤ (g (16 + 4 * d)) then n else (g (16 + 4 * d)))) ≤ (g (17 + 4 * d)) then (n - (if n ≤ (g (16 + 4 * d)) then n else (g (16 + 4 * d)))) else (g (17 + 4 * d))))) (18 + 4 * d) ((g (18 + 4 * d)) - (if ((n - (if n ≤ (g (16 + 4 * d)) then n else (g (16 + 4 * d)))) - (if (n - (if n ≤ (g (16 + 4 * d)) then n else (g (16 + 4 * d)))) ≤ (g (17 + 4 * d)) then (n - (if n ≤ (g (16 + 4 * d)) then n else (g (16 + 4 * d)))) else (g (17 + 4 * d)))) ≤ (g (18 + 4 * d)) then ((n - (if n ≤ (g (16 + 4 * d)) then n else (g (16 + 4 * d)))) - (if (n - (if n ≤ (g (16 + 4 * d)) then n else (g (16 + 4 * d)))) ≤ (g (17 + 4 * d)) then (n - (if n ≤ (g (16 + 4 * d)) then n else (g (16 + 4 * d)))) else (g (17 + 4 * d)))) else (g (18 + 4 * d))))) (34 + 4 * d) ((g (34 + 4 * d)) + (if ((n - (if n ≤ (g (16 + 4 * d)) then n else (g (16 + 4 * d)))) - (if (n - (if n ≤ (g (16 + 4 * d)) then n else (g (16 + 4 * d)))) ≤ (g (17 + 4 * d)) then (n - (if n ≤ (g (16 + 4 * d)) then n else (g (16 + 4 * d)))) else (g (17 + 4 * d)))) ≤ (g (18 + 4 * d)) then ((n - (if n ≤ (g (16 + 4 * d)) then n else (g (16 + 4 * d)))) - (if (n - (if n ≤ (g (16 + 4 * d)) then n else (g (16 + 4 * d)))) ≤ (g (17 + 4 * d)) then (n - (if n ≤ (g (16 + 4 * d)) then n else (g (16 + 4 * d)))) else (g (17 + 4 * d)))) else (g (18 + 4 * d))))) from by simp (disch := omega) only [pk_un, pk_us]] at wo
        refine nrm_v ?_
        refine lv_iload_n hx hb dX7_skulls_69 rfl (lv_at hl 2 rfl) ?_
        refine lv_iload hx hb dX7_skulls_70 (lv_at hl 0 rfl) ?_
        refine lv_isub hx hb dX7_skulls_72 ?_
        refine lv_istore_n (lv' := [(3, .int (((n - (if n ≤ (g (16 + 4 * d)) then n else (g (16 + 4 * d)))) - (if (n - (if n ≤ (g (16 + 4 * d)) then n else (g (16 + 4 * d)))) ≤ (g (17 + 4 * d)) then (n - (if n ≤ (g (16 + 4 * d)) then n else (g (16 + 4 * d)))) else (g (17 + 4 * d)))) - (if ((n - (if n ≤ (g (16 + 4 * d)) then n else (g (16 + 4 * d)))) - (if (n - (if n ≤ (g (16 + 4 * d)) then n else (g (16 + 4 * d)))) ≤ (g (17 + 4 * d)) then (n - (if n ≤ (g (16 + 4 * d)) then n else (g (16 + 4 * d)))) else (g (17 + 4 * d)))) ≤ (g (18 + 4 * d)) then ((n - (if n ≤ (g (16 + 4 * d)) then n else (g (16 + 4 * d)))) - (if (n - (if n ≤ (g (16 + 4 * d)) then n else (g (16 + 4 * d)))) ≤ (g (17 + 4 * d)) then (n - (if n ≤ (g (16 + 4 * d)) then n else (g (16 + 4 * d)))) else (g (17 + 4 * d)))) else (g (18 + 4 * d))))), (5, .int (if ((n - (if n ≤ (g (16 + 4 * d)) then n else (g (16 + 4 * d)))) - (if (n - (if n ≤ (g (16 + 4 * d)) then n else (g (16 + 4 * d)))) ≤ (g (17 + 4 * d)) then (n - (if n ≤ (g (16 + 4 * d)) then n else (g (16 + 4 * d)))) else (g (17 + 4 * d)))) ≤ (g (18 + 4 * d)) then ((n - (if n ≤ (g (16 + 4 * d)) then n else (g (16 + 4 * d)))) - (if (n - (if n ≤ (g (16 + 4 * d)) then n else (g (16 + 4 * d)))) ≤ (g (17 + 4 * d)) then (n - (if n ≤ (g (16 + 4 * d)) then n else (g (16 + 4 * d)))) else (g (17 + 4 * d)))) else (g (18 + 4 * d)))), (4, .int 2), (0, .ref (am 0)), (1, .int (nI d)), (2, .int n)]) hx hb dX7_skulls_73 rfl hl (by decide) rfl (fun ls hl => ?_)
        refine lv_iinc (v := 3) (lv' := [(4, .int 3), (3, .int (((n - (if n ≤ (g (16 + 4 * d)) then n else (g (16 + 4 * d)))) - (if (n - (if n ≤ (g (16 + 4 * d)) then n else (g (16 + 4 * d)))) ≤ (g (17 + 4 * d)) then (n - (if n ≤ (g (16 + 4 * d)) then n else (g (16 + 4 * d)))) else (g (17 + 4 * d)))) - (if ((n - (if n ≤ (g (16 + 4 * d)) then n else (g (16 + 4 * d)))) - (if (n - (if n ≤ (g (16 + 4 * d)) then n else (g (16 + 4 * d)))) ≤ (g (17 + 4 * d)) then (n - (if n ≤ (g (16 + 4 * d)) then n else (g (16 + 4 * d)))) else (g (17 + 4 * d)))) ≤ (g (18 + 4 * d)) then ((n - (if n ≤ (g (16 + 4 * d)) then n else (g (16 + 4 * d)))) - (if (n - (if n ≤ (g (16 + 4 * d)) then n else (g (16 + 4 * d)))) ≤ (g (17 + 4 * d)) then (n - (if n ≤ (g (16 + 4 * d)) then n else (g (16 + 4 * d)))) else (g (17 + 4 * d)))) else (g (18 + 4 * d))))), (5, .int (if ((n - (if n ≤ (g (16 + 4 * d)) then n else (g (16 + 4 * d)))) - (if (n - (if n ≤ (g (16 + 4 * d)) then n else (g (16 + 4 * d)))) ≤ (g (17 + 4 * d)) then (n - (if n ≤ (g (16 + 4 * d)) then n else (g (16 + 4 * d)))) else (g (17 + 4 * d)))) ≤ (g (18 + 4 * d)) then ((n - (if n ≤ (g (16 + 4 * d)) then n else (g (16 + 4 * d)))) - (if (n - (if n ≤ (g (16 + 4 * d)) then n else (g (16 + 4 * d)))) ≤ (g (17 + 4 * d)) then (n - (if n ≤ (g (16 + 4 * d)) then n else (g (16 + 4 * d)))) else (g (17 + 4 * d)))) else (g (18 + 4 * d)))), (0, .ref (am 0)), (1, .int (nI d)), (2, .int n)]) hx hb dX7_skulls_74 hl (k := 2) rfl (by decide) (by decide) rfl (fun ls hl => ?_)
        refine lv_goto (tgt := 5) hx hb dX7_skulls_77 (by decide) ?_
        refine lv_iload hx hb dX7_skulls_5 (lv_at hl 0 rfl) ?_
        refine lv_iconst (v := 4) hx hb dX7_skulls_7 (by decide) ?_
        refine lv_icmp_ge (tgt := 80) hx hb dX7_skulls_8 (by decide) (fun h => absurd h (by decide)) (fun _ => ?_)
        refine lv_aload_n hx hb dX7_skulls_11 rfl (lv_at hl 3 rfl) ?_
        refine mg_st cx wo m_631 dX7_skulls_12 ?_
        refine lv_bipush (v := 16) hx hb dX7_skulls_15 (by decide) ?_
        refine lv_iconst (v := 4) hx hb dX7_skulls_17 (by decide) ?_
        refine lv_iload_n hx hb dX7_skulls_18 rfl (lv_at hl 4 rfl) ?_
        refine lv_imul hx hb dX7_skulls_19 ?_
        refine tope (y := (nI (4 * d))) (mi (a := 4) (b := d) rfl rfl (by omega)) ?_
        refine lv_iadd hx hb dX7_skulls_20 ?_
        refine tope (y := (nI (16 + 4 * d))) (ai (a := 16) (b := 4 * d) rfl rfl (by omega)) ?_
        refine lv_iload hx hb dX7_skulls_21 (lv_at hl 0 rfl) ?_
        refine lv_iadd hx hb dX7_skulls_23 ?_
        refine tope (y := (nI (19 + 4 * d))) (ai (a := 16 + 4 * d) (b := 3) rfl rfl (by omega)) ?_
        refine ml_st (n := 19 + 4 * d) cx wo rfl (by omega) dX7_skulls_24 ?_
        refine tope (y := (g (19 + 4 * d))) (show (upd (upd (upd (upd (upd (upd g (16 + 4 * d) ((g (16 + 4 * d)) - (if n ≤ (g (16 + 4 * d)) then n else (g (16 + 4 * d))))) (32 + 4 * d) ((g (32 + 4 * d)) + (if n ≤ (g (16 + 4 * d)) then n else (g (16 + 4 * d))))) (17 + 4 * d) ((g (17 + 4 * d)) - (if (n - (if n ≤ (g (16 + 4 * d)) then n else (g (16 + 4 * d)))) ≤ (g (17 + 4 * d)) then (n - (if n ≤ (g (16 + 4 * d)) then n else (g (16 + 4 * d)))) else (g (17 + 4 * d))))) (33 + 4 * d) ((g (33 + 4 * d)) + (if (n - (if n ≤ (g (16 + 4 * d)) then n else (g (16 + 4 * d)))) ≤ (g (17 + 4 * d)) then (n - (if n ≤ (g (16 + 4 * d)) then n else (g (16 + 4 * d)))) else (g (17 + 4 * d))))) (18 + 4 * d) ((g (18 + 4 * d)) - (if ((n - (if n ≤ (g (16 + 4 * d)) then n else (g (16 + 4 * d)))) - (if (n - (if n ≤ (g (16 + 4 * d)) then n else (g (16 + 4 * d)))) ≤ (g (17 + 4 * d)) then (n - (if n ≤ (g (16 + 4 * d)) then n else (g (16 + 4 * d)))) else (g (17 + 4 * d)))) ≤ (g (18 + 4 * d)) then ((n - (if n ≤ (g (16 + 4 * d)) then n else (g (16 + 4 * d)))) - (if (n - (if n ≤ (g (16 + 4 * d)) then n else (g (16 + 4 * d)))) ≤ (g (17 + 4 * d)) then (n - (if n ≤ (g (16 + 4 * d)) then n else (g (16 + 4 * d)))) else (g (17 + 4 * d)))) else (g (18 + 4 * d))))) (34 + 4 * d) ((g (34 + 4 * d)) + (if ((n - (if n ≤ (g (16 + 4 * d)) then n else (g (16 + 4 * d)))) - (if (n - (if n ≤ (g (16 + 4 * d)) then n else (g (16 + 4 * d)))) ≤ (g (17 + 4 * d)) then (n - (if n ≤ (g (16 + 4 * d)) then n else (g (16 + 4 * d)))) else (g (17 + 4 * d)))) ≤ (g (18 + 4 * d)) then ((n - (if n ≤ (g (16 + 4 * d)) then n else (g (16 + 4 * d)))) - (if (n - (if n ≤ (g (16 + 4 * d)) then n else (g (16 + 4 * d)))) ≤ (g (17 + 4 * d)) then (n - (if n ≤ (g (16 + 4 * d)) then n else (g (16 + 4 * d)))) else (g (17 + 4 * d)))) else (g (18 + 4 * d))))) (19 + 4 * d) = (g (19 + 4 * d)) from (rdN (by omega) (rdN (by omega) (rdN (by omega) (rdN (by omega) (rdN (by omega) (rdN (by omega) rfl))))))) ?_
        refine lv_iload_n hx hb dX7_skulls_25 rfl (lv_at hl 1 rfl) ?_
        have hj_4 : ∀ (H : Heap) (locs : List Loc) (ls : Array Slot), Wo G A s.heap H locs (mw G am (upd (upd (upd (upd (upd (upd g (16 + 4 * d) ((g (16 + 4 * d)) - (if n ≤ (g (16 + 4 * d)) then n else (g (16 + 4 * d))))) (32 + 4 * d) ((g (32 + 4 * d)) + (if n ≤ (g (16 + 4 * d)) then n else (g (16 + 4 * d))))) (17 + 4 * d) ((g (17 + 4 * d)) - (if (n - (if n ≤ (g (16 + 4 * d)) then n else (g (16 + 4 * d)))) ≤ (g (17 + 4 * d)) then (n - (if n ≤ (g (16 + 4 * d)) then n else (g (16 + 4 * d)))) else (g (17 + 4 * d))))) (33 + 4 * d) ((g (33 + 4 * d)) + (if (n - (if n ≤ (g (16 + 4 * d)) then n else (g (16 + 4 * d)))) ≤ (g (17 + 4 * d)) then (n - (if n ≤ (g (16 + 4 * d)) then n else (g (16 + 4 * d)))) else (g (17 + 4 * d))))) (18 + 4 * d) ((g (18 + 4 * d)) - (if ((n - (if n ≤ (g (16 + 4 * d)) then n else (g (16 + 4 * d)))) - (if (n - (if n ≤ (g (16 + 4 * d)) then n else (g (16 + 4 * d)))) ≤ (g (17 + 4 * d)) then (n - (if n ≤ (g (16 + 4 * d)) then n else (g (16 + 4 * d)))) else (g (17 + 4 * d)))) ≤ (g (18 + 4 * d)) then ((n - (if n ≤ (g (16 + 4 * d)) then n else (g (16 + 4 * d)))) - (if (n - (if n ≤ (g (16 + 4 * d)) then n else (g (16 + 4 * d)))) ≤ (g (17 + 4 * d)) then (n - (if n ≤ (g (16 + 4 * d)) then n else (g (16 + 4 * d)))) else (g (17 + 4 * d)))) else (g (18 + 4 * d))))) (34 + 4 * d) ((g (34 + 4 * d)) + (if ((n - (if n ≤ (g (16 + 4 * d)) then n else (g (16 + 4 * d)))) - (if (n - (if n ≤ (g (16 + 4 * d)) then n else (g (16 + 4 * d)))) ≤ (g (17 + 4 * d)) then (n - (if n ≤ (g (16 + 4 * d)) then n else (g (16 + 4 * d)))) else (g (17 + 4 * d)))) ≤ (g (18 + 4 * d)) then ((n - (if n ≤ (g (16 + 4 * d)) then n else (g (16 + 4 * d)))) - (if (n - (if n ≤ (g (16 + 4 * d)) then n else (g (16 + 4 * d)))) ≤ (g (17 + 4 * d)) then (n - (if n ≤ (g (16 + 4 * d)) then n else (g (16 + 4 * d)))) else (g (17 + 4 * d)))) else (g (18 + 4 * d))))) kf nk) → lv_has ls 6 [(4, .int 3), (3, .int (((n - (if n ≤ (g (16 + 4 * d)) then n else (g (16 + 4 * d)))) - (if (n - (if n ≤ (g (16 + 4 * d)) then n else (g (16 + 4 * d)))) ≤ (g (17 + 4 * d)) then (n - (if n ≤ (g (16 + 4 * d)) then n else (g (16 + 4 * d)))) else (g (17 + 4 * d)))) - (if ((n - (if n ≤ (g (16 + 4 * d)) then n else (g (16 + 4 * d)))) - (if (n - (if n ≤ (g (16 + 4 * d)) then n else (g (16 + 4 * d)))) ≤ (g (17 + 4 * d)) then (n - (if n ≤ (g (16 + 4 * d)) then n else (g (16 + 4 * d)))) else (g (17 + 4 * d)))) ≤ (g (18 + 4 * d)) then ((n - (if n ≤ (g (16 + 4 * d)) then n else (g (16 + 4 * d)))) - (if (n - (if n ≤ (g (16 + 4 * d)) then n else (g (16 + 4 * d)))) ≤ (g (17 + 4 * d)) then (n - (if n ≤ (g (16 + 4 * d)) then n else (g (16 + 4 * d)))) else (g (17 + 4 * d)))) else (g (18 + 4 * d))))), (5, .int (if ((n - (if n ≤ (g (16 + 4 * d)) then n else (g (16 + 4 * d)))) - (if (n - (if n ≤ (g (16 + 4 * d)) then n else (g (16 + 4 * d)))) ≤ (g (17 + 4 * d)) then (n - (if n ≤ (g (16 + 4 * d)) then n else (g (16 + 4 * d)))) else (g (17 + 4 * d)))) ≤ (g (18 + 4 * d)) then ((n - (if n ≤ (g (16 + 4 * d)) then n else (g (16 + 4 * d)))) - (if (n - (if n ≤ (g (16 + 4 * d)) then n else (g (16 + 4 * d)))) ≤ (g (17 + 4 * d)) then (n - (if n ≤ (g (16 + 4 * d)) then n else (g (16 + 4 * d)))) else (g (17 + 4 * d)))) else (g (18 + 4 * d)))), (0, .ref (am 0)), (1, .int (nI d)), (2, .int n)] → W p l e rm_X7_skulls s m args below meth c H locs 0 0 Q (F0 m 47 ls [.int (if (((n - (if n ≤ (g (16 + 4 * d)) then n else (g (16 + 4 * d)))) - (if (n - (if n ≤ (g (16 + 4 * d)) then n else (g (16 + 4 * d)))) ≤ (g (17 + 4 * d)) then (n - (if n ≤ (g (16 + 4 * d)) then n else (g (16 + 4 * d)))) else (g (17 + 4 * d)))) - (if ((n - (if n ≤ (g (16 + 4 * d)) then n else (g (16 + 4 * d)))) - (if (n - (if n ≤ (g (16 + 4 * d)) then n else (g (16 + 4 * d)))) ≤ (g (17 + 4 * d)) then (n - (if n ≤ (g (16 + 4 * d)) then n else (g (16 + 4 * d)))) else (g (17 + 4 * d)))) ≤ (g (18 + 4 * d)) then ((n - (if n ≤ (g (16 + 4 * d)) then n else (g (16 + 4 * d)))) - (if (n - (if n ≤ (g (16 + 4 * d)) then n else (g (16 + 4 * d)))) ≤ (g (17 + 4 * d)) then (n - (if n ≤ (g (16 + 4 * d)) then n else (g (16 + 4 * d)))) else (g (17 + 4 * d)))) else (g (18 + 4 * d)))) ≤ (g (19 + 4 * d)) then (((n - (if n ≤ (g (16 + 4 * d)) then n else (g (16 + 4 * d)))) - (if (n - (if n ≤ (g (16 + 4 * d)) then n else (g (16 + 4 * d)))) ≤ (g (17 + 4 * d)) then (n - (if n ≤ (g (16 + 4 * d)) then n else (g (16 + 4 * d)))) else (g (17 + 4 * d)))) - (if ((n - (if n ≤ (g (16 + 4 * d)) then n else (g (16 + 4 * d)))) - (if (n - (if n ≤ (g (16 + 4 * d)) then n else (g (16 + 4 * d)))) ≤ (g (17 + 4 * d)) then (n - (if n ≤ (g (16 + 4 * d)) then n else (g (16 + 4 * d)))) else (g (17 + 4 * d)))) ≤ (g (18 + 4 * d)) then ((n - (if n ≤ (g (16 + 4 * d)) then n else (g (16 + 4 * d)))) - (if (n - (if n ≤ (g (16 + 4 * d)) then n else (g (16 + 4 * d)))) ≤ (g (17 + 4 * d)) then (n - (if n ≤ (g (16 + 4 * d)) then n else (g (16 + 4 * d)))) else (g (17 + 4 * d)))) else (g (18 + 4 * d)))) else (g (19 + 4 * d)))]) := by
          intro H locs ls wo hl
          refine lv_istore (lv' := [(5, .int (if (((n - (if n ≤ (g (16 + 4 * d)) then n else (g (16 + 4 * d)))) - (if (n - (if n ≤ (g (16 + 4 * d)) then n else (g (16 + 4 * d)))) ≤ (g (17 + 4 * d)) then (n - (if n ≤ (g (16 + 4 * d)) then n else (g (16 + 4 * d)))) else (g (17 + 4 * d)))) - (if ((n - (if n ≤ (g (16 + 4 * d)) then n else (g (16 + 4 * d)))) - (if (n - (if n ≤ (g (16 + 4 * d)) then n else (g (16 + 4 * d)))) ≤ (g (17 + 4 * d)) then (n - (if n ≤ (g (16 + 4 * d)) then n else (g (16 + 4 * d)))) else (g (17 + 4 * d)))) ≤ (g (18 + 4 * d)) then ((n - (if n ≤ (g (16 + 4 * d)) then n else (g (16 + 4 * d)))) - (if (n - (if n ≤ (g (16 + 4 * d)) then n else (g (16 + 4 * d)))) ≤ (g (17 + 4 * d)) then (n - (if n ≤ (g (16 + 4 * d)) then n else (g (16 + 4 * d)))) else (g (17 + 4 * d)))) else (g (18 + 4 * d)))) ≤ (g (19 + 4 * d)) then (((n - (if n ≤ (g (16 + 4 * d)) then n else (g (16 + 4 * d)))) - (if (n - (if n ≤ (g (16 + 4 * d)) then n else (g (16 + 4 * d)))) ≤ (g (17 + 4 * d)) then (n - (if n ≤ (g (16 + 4 * d)) then n else (g (16 + 4 * d)))) else (g (17 + 4 * d)))) - (if ((n - (if n ≤ (g (16 + 4 * d)) then n else (g (16 + 4 * d)))) - (if (n - (if n ≤ (g (16 + 4 * d)) then n else (g (16 + 4 * d)))) ≤ (g (17 + 4 * d)) then (n - (if n ≤ (g (16 + 4 * d)) then n else (g (16 + 4 * d)))) else (g (17 + 4 * d)))) ≤ (g (18 + 4 * d)) then ((n - (if n ≤ (g (16 + 4 * d)) then n else (g (16 + 4 * d)))) - (if (n - (if n ≤ (g (16 + 4 * d)) then n else (g (16 + 4 * d)))) ≤ (g (17 + 4 * d)) then (n - (if n ≤ (g (16 + 4 * d)) then n else (g (16 + 4 * d)))) else (g (17 + 4 * d)))) else (g (18 + 4 * d)))) else (g (19 + 4 * d)))), (4, .int 3), (3, .int (((n - (if n ≤ (g (16 + 4 * d)) then n else (g (16 + 4 * d)))) - (if (n - (if n ≤ (g (16 + 4 * d)) then n else (g (16 + 4 * d)))) ≤ (g (17 + 4 * d)) then (n - (if n ≤ (g (16 + 4 * d)) then n else (g (16 + 4 * d)))) else (g (17 + 4 * d)))) - (if ((n - (if n ≤ (g (16 + 4 * d)) then n else (g (16 + 4 * d)))) - (if (n - (if n ≤ (g (16 + 4 * d)) then n else (g (16 + 4 * d)))) ≤ (g (17 + 4 * d)) then (n - (if n ≤ (g (16 + 4 * d)) then n else (g (16 + 4 * d)))) else (g (17 + 4 * d)))) ≤ (g (18 + 4 * d)) then ((n - (if n ≤ (g (16 + 4 * d)) then n else (g (16 + 4 * d)))) - (if (n - (if n ≤ (g (16 + 4 * d)) then n else (g (16 + 4 * d)))) ≤ (g (17 + 4 * d)) then (n - (if n ≤ (g (16 + 4 * d)) then n else (g (16 + 4 * d)))) else (g (17 + 4 * d)))) else (g (18 + 4 * d))))), (0, .ref (am 0)), (1, .int (nI d)), (2, .int n)]) hx hb dX7_skulls_47 hl (by decide) rfl (fun ls hl => ?_)
          refine lv_aload_n hx hb dX7_skulls_49 rfl (lv_at hl 3 rfl) ?_
          refine lv_bipush (v := 16) hx hb dX7_skulls_50 (by decide) ?_
          refine lv_iconst (v := 4) hx hb dX7_skulls_52 (by decide) ?_
          refine lv_iload_n hx hb dX7_skulls_53 rfl (lv_at hl 4 rfl) ?_
          refine lv_imul hx hb dX7_skulls_54 ?_
          refine tope (y := (nI (4 * d))) (mi (a := 4) (b := d) rfl rfl (by omega)) ?_
          refine lv_iadd hx hb dX7_skulls_55 ?_
          refine tope (y := (nI (16 + 4 * d))) (ai (a := 16) (b := 4 * d) rfl rfl (by omega)) ?_
          refine lv_bipush (v := 32) hx hb dX7_skulls_56 (by decide) ?_
          refine lv_iconst (v := 4) hx hb dX7_skulls_58 (by decide) ?_
          refine lv_iload_n hx hb dX7_skulls_59 rfl (lv_at hl 4 rfl) ?_
          refine lv_imul hx hb dX7_skulls_60 ?_
          refine tope (y := (nI (4 * d))) (mi (a := 4) (b := d) rfl rfl (by omega)) ?_
          refine lv_iadd hx hb dX7_skulls_61 ?_
          refine tope (y := (nI (32 + 4 * d))) (ai (a := 32) (b := 4 * d) rfl rfl (by omega)) ?_
          refine lv_iload hx hb dX7_skulls_62 (lv_at hl 1 rfl) ?_
          refine lv_iload hx hb dX7_skulls_64 (lv_at hl 0 rfl) ?_
          refine call_V (As := [.int (nI (16 + 4 * d)), .int (nI (32 + 4 * d)), .int 3, .int (if (((n - (if n ≤ (g (16 + 4 * d)) then n else (g (16 + 4 * d)))) - (if (n - (if n ≤ (g (16 + 4 * d)) then n else (g (16 + 4 * d)))) ≤ (g (17 + 4 * d)) then (n - (if n ≤ (g (16 + 4 * d)) then n else (g (16 + 4 * d)))) else (g (17 + 4 * d)))) - (if ((n - (if n ≤ (g (16 + 4 * d)) then n else (g (16 + 4 * d)))) - (if (n - (if n ≤ (g (16 + 4 * d)) then n else (g (16 + 4 * d)))) ≤ (g (17 + 4 * d)) then (n - (if n ≤ (g (16 + 4 * d)) then n else (g (16 + 4 * d)))) else (g (17 + 4 * d)))) ≤ (g (18 + 4 * d)) then ((n - (if n ≤ (g (16 + 4 * d)) then n else (g (16 + 4 * d)))) - (if (n - (if n ≤ (g (16 + 4 * d)) then n else (g (16 + 4 * d)))) ≤ (g (17 + 4 * d)) then (n - (if n ≤ (g (16 + 4 * d)) then n else (g (16 + 4 * d)))) else (g (17 + 4 * d)))) else (g (18 + 4 * d)))) ≤ (g (19 + 4 * d)) then (((n - (if n ≤ (g (16 + 4 * d)) then n else (g (16 + 4 * d)))) - (if (n - (if n ≤ (g (16 + 4 * d)) then n else (g (16 + 4 * d)))) ≤ (g (17 + 4 * d)) then (n - (if n ≤ (g (16 + 4 * d)) then n else (g (16 + 4 * d)))) else (g (17 + 4 * d)))) - (if ((n - (if n ≤ (g (16 + 4 * d)) then n else (g (16 + 4 * d)))) - (if (n - (if n ≤ (g (16 + 4 * d)) then n else (g (16 + 4 * d)))) ≤ (g (17 + 4 * d)) then (n - (if n ≤ (g (16 + 4 * d)) then n else (g (16 + 4 * d)))) else (g (17 + 4 * d)))) ≤ (g (18 + 4 * d)) then ((n - (if n ≤ (g (16 + 4 * d)) then n else (g (16 + 4 * d)))) - (if (n - (if n ≤ (g (16 + 4 * d)) then n else (g (16 + 4 * d)))) ≤ (g (17 + 4 * d)) then (n - (if n ≤ (g (16 + 4 * d)) then n else (g (16 + 4 * d)))) else (g (17 + 4 * d)))) else (g (18 + 4 * d)))) else (g (19 + 4 * d)))]) (rest := []) (fun X => X) Fr_id cx (c_X7_moves_i l G am _ _ _ (a := 16 + 4 * d) (by omega) (b := 32 + 4 * d) (by omega) (k := 3) (by omega) (i := 19 + 4 * d) (by omega) (j := 35 + 4 * d) (by omega) (if (((n - (if n ≤ (g (16 + 4 * d)) then n else (g (16 + 4 * d)))) - (if (n - (if n ≤ (g (16 + 4 * d)) then n else (g (16 + 4 * d)))) ≤ (g (17 + 4 * d)) then (n - (if n ≤ (g (16 + 4 * d)) then n else (g (16 + 4 * d)))) else (g (17 + 4 * d)))) - (if ((n - (if n ≤ (g (16 + 4 * d)) then n else (g (16 + 4 * d)))) - (if (n - (if n ≤ (g (16 + 4 * d)) then n else (g (16 + 4 * d)))) ≤ (g (17 + 4 * d)) then (n - (if n ≤ (g (16 + 4 * d)) then n else (g (16 + 4 * d)))) else (g (17 + 4 * d)))) ≤ (g (18 + 4 * d)) then ((n - (if n ≤ (g (16 + 4 * d)) then n else (g (16 + 4 * d)))) - (if (n - (if n ≤ (g (16 + 4 * d)) then n else (g (16 + 4 * d)))) ≤ (g (17 + 4 * d)) then (n - (if n ≤ (g (16 + 4 * d)) then n else (g (16 + 4 * d)))) else (g (17 + 4 * d)))) else (g (18 + 4 * d)))) ≤ (g (19 + 4 * d)) then (((n - (if n ≤ (g (16 + 4 * d)) then n else (g (16 + 4 * d)))) - (if (n - (if n ≤ (g (16 + 4 * d)) then n else (g (16 + 4 * d)))) ≤ (g (17 + 4 * d)) then (n - (if n ≤ (g (16 + 4 * d)) then n else (g (16 + 4 * d)))) else (g (17 + 4 * d)))) - (if ((n - (if n ≤ (g (16 + 4 * d)) then n else (g (16 + 4 * d)))) - (if (n - (if n ≤ (g (16 + 4 * d)) then n else (g (16 + 4 * d)))) ≤ (g (17 + 4 * d)) then (n - (if n ≤ (g (16 + 4 * d)) then n else (g (16 + 4 * d)))) else (g (17 + 4 * d)))) ≤ (g (18 + 4 * d)) then ((n - (if n ≤ (g (16 + 4 * d)) then n else (g (16 + 4 * d)))) - (if (n - (if n ≤ (g (16 + 4 * d)) then n else (g (16 + 4 * d)))) ≤ (g (17 + 4 * d)) then (n - (if n ≤ (g (16 + 4 * d)) then n else (g (16 + 4 * d)))) else (g (17 + 4 * d)))) else (g (18 + 4 * d)))) else (g (19 + 4 * d)))) fx_X7_moves m_726 m_728 m_31 ⟨by decide, by decide⟩ wo (k := 0) rfl rfl rfl rfl hl.1 rfl (Nat.le_of_ble_eq_true rfl) dX7_skulls_66 ⟨by decide, by decide⟩ (fun v W1 H locs hp wo => ?_)
          obtain ⟨rfl, rfl⟩ := hp
          rw [show (upd (upd (upd (upd (upd (upd (upd (upd g (16 + 4 * d) ((g (16 + 4 * d)) - (if n ≤ (g (16 + 4 * d)) then n else (g (16 + 4 * d))))) (32 + 4 * d) ((g (32 + 4 * d)) + (if n ≤ (g (16 + 4 * d)) then n else (g (16 + 4 * d))))) (17 + 4 * d) ((g (17 + 4 * d)) - (if (n - (if n ≤ (g (16 + 4 * d)) then n else (g (16 + 4 * d)))) ≤ (g (17 + 4 * d)) then (n - (if n ≤ (g (16 + 4 * d)) then n else (g (16 + 4 * d)))) else (g (17 + 4 * d))))) (33 + 4 * d) ((g (33 + 4 * d)) + (if (n - (if n ≤ (g (16 + 4 * d)) then n else (g (16 + 4 * d)))) ≤ (g (17 + 4 * d)) then (n - (if n ≤ (g (16 + 4 * d)) then n else (g (16 + 4 * d)))) else (g (17 + 4 * d))))) (18 + 4 * d) ((g (18 + 4 * d)) - (if ((n - (if n ≤ (g (16 + 4 * d)) then n else (g (16 + 4 * d)))) - (if (n - (if n ≤ (g (16 + 4 * d)) then n else (g (16 + 4 * d)))) ≤ (g (17 + 4 * d)) then (n - (if n ≤ (g (16 + 4 * d)) then n else (g (16 + 4 * d)))) else (g (17 + 4 * d)))) ≤ (g (18 + 4 * d)) then ((n - (if n ≤ (g (16 + 4 * d)) then n else (g (16 + 4 * d)))) - (if (n - (if n ≤ (g (16 + 4 * d)) then n else (g (16 + 4 * d)))) ≤ (g (17 + 4 * d)) then (n - (if n ≤ (g (16 + 4 * d)) then n else (g (16 + 4 * d)))) else (g (17 + 4 * d)))) else (g (18 + 4 * d))))) (34 + 4 * d) ((g (34 + 4 * d)) + (if ((n - (if n ≤ (g (16 + 4 * d)) then n else (g (16 + 4 * d)))) - (if (n - (if n ≤ (g (16 + 4 * d)) then n else (g (16 + 4 * d)))) ≤ (g (17 + 4 * d)) then (n - (if n ≤ (g (16 + 4 * d)) then n else (g (16 + 4 * d)))) else (g (17 + 4 * d)))) ≤ (g (18 + 4 * d)) then ((n - (if n ≤ (g (16 + 4 * d)) then n else (g (16 + 4 * d)))) - (if (n - (if n ≤ (g (16 + 4 * d)) then n else (g (16 + 4 * d)))) ≤ (g (17 + 4 * d)) then (n - (if n ≤ (g (16 + 4 * d)) then n else (g (16 + 4 * d)))) else (g (17 + 4 * d)))) else (g (18 + 4 * d))))) (19 + 4 * d) ((upd (upd (upd (upd (upd (upd g (16 + 4 * d) ((g (16 + 4 * d)) - (if n ≤ (g (16 + 4 * d)) then n else (g (16 + 4 * d))))) (32 + 4 * d) ((g (32 + 4 * d)) + (if n ≤ (g (16 + 4 * d)) then n else (g (16 + 4 * d))))) (17 + 4 * d) ((g (17 + 4 * d)) - (if (n - (if n ≤ (g (16 + 4 * d)) then n else (g (16 + 4 * d)))) ≤ (g (17 + 4 * d)) then (n - (if n ≤ (g (16 + 4 * d)) then n else (g (16 + 4 * d)))) else (g (17 + 4 * d))))) (33 + 4 * d) ((g (33 + 4 * d)) + (if (n - (if n ≤ (g (16 + 4 * d)) then n else (g (16 + 4 * d)))) ≤ (g (17 + 4 * d)) then (n - (if n ≤ (g (16 + 4 * d)) then n else (g (16 + 4 * d)))) else (g (17 + 4 * d))))) (18 + 4 * d) ((g (18 + 4 * d)) - (if ((n - (if n ≤ (g (16 + 4 * d)) then n else (g (16 + 4 * d)))) - (if (n - (if n ≤ (g (16 + 4 * d)) then n else (g (16 + 4 * d)))) ≤ (g (17 + 4 * d)) then (n - (if n ≤ (g (16 + 4 * d)) then n else (g (16 + 4 * d)))) else (g (17 + 4 * d)))) ≤ (g (18 + 4 * d)) then ((n - (if n ≤ (g (16 + 4 * d)) then n else (g (16 + 4 * d)))) - (if (n - (if n ≤ (g (16 + 4 * d)) then n else (g (16 + 4 * d)))) ≤ (g (17 + 4 * d)) then (n - (if n ≤ (g (16 + 4 * d)) then n else (g (16 + 4 * d)))) else (g (17 + 4 * d)))) else (g (18 + 4 * d))))) (34 + 4 * d) ((g (34 + 4 * d)) + (if ((n - (if n ≤ (g (16 + 4 * d)) then n else (g (16 + 4 * d)))) - (if (n - (if n ≤ (g (16 + 4 * d)) then n else (g (16 + 4 * d)))) ≤ (g (17 + 4 * d)) then (n - (if n ≤ (g (16 + 4 * d)) then n else (g (16 + 4 * d)))) else (g (17 + 4 * d)))) ≤ (g (18 + 4 * d)) then ((n - (if n ≤ (g (16 + 4 * d)) then n else (g (16 + 4 * d)))) - (if (n - (if n ≤ (g (16 + 4 * d)) then n else (g (16 + 4 * d)))) ≤ (g (17 + 4 * d)) then (n - (if n ≤ (g (16 + 4 * d)) then n else (g (16 + 4 * d)))) else (g (17 + 4 * d)))) else (g (18 + 4 * d))))) (19 + 4 * d) - (if (((n - (if n ≤ (g (16 + 4 * d)) then n else (g (16 + 4 * d)))) - (if (n - (if n ≤ (g (16 + 4 * d)) then n else (g (16 + 4 * d)))) ≤ (g (17 + 4 * d)) then (n - (if n ≤ (g (16 + 4 * d)) then n else (g (16 + 4 * d)))) else (g (17 + 4 * d)))) - (if ((n - (if n ≤ (g (16 + 4 * d)) then n else (g (16 + 4 * d)))) - (if (n - (if n ≤ (g (16 + 4 * d)) then n else (g (16 + 4 * d)))) ≤ (g (17 + 4 * d)) then (n - (if n ≤ (g (16 + 4 * d)) then n else (g (16 + 4 * d)))) else (g (17 + 4 * d)))) ≤ (g (18 + 4 * d)) then ((n - (if n ≤ (g (16 + 4 * d)) then n else (g (16 + 4 * d)))) - (if (n - (if n ≤ (g (16 + 4 * d)) then n else (g (16 + 4 * d)))) ≤ (g (17 + 4 * d)) then (n - (if n ≤ (g (16 + 4 * d)) then n else (g (16 + 4 * d)))) else (g (17 + 4 * d)))) else (g (18 + 4 * d)))) ≤ (g (19 + 4 * d)) then (((n - (if n ≤ (g (16 + 4 * d)) then n else (g (16 + 4 * d)))) - (if (n - (if n ≤ (g (16 + 4 * d)) then n else (g (16 + 4 * d)))) ≤ (g (17 + 4 * d)) then (n - (if n ≤ (g (16 + 4 * d)) then n else (g (16 + 4 * d)))) else (g (17 + 4 * d)))) - (if ((n - (if n ≤ (g (16 + 4 * d)) then n else (g (16 + 4 * d)))) - (if (n - (if n ≤ (g (16 + 4 * d)) then n else (g (16 + 4 * d)))) ≤ (g (17 + 4 * d)) then (n - (if n ≤ (g (16 + 4 * d)) then n else (g (16 + 4 * d)))) else (g (17 + 4 * d)))) ≤ (g (18 + 4 * d)) then ((n - (if n ≤ (g (16 + 4 * d)) then n else (g (16 + 4 * d)))) - (if (n - (if n ≤ (g (16 + 4 * d)) then n else (g (16 + 4 * d)))) ≤ (g (17 + 4 * d)) then (n - (if n ≤ (g (16 + 4 * d)) then n else (g (16 + 4 * d)))) else (g (17 + 4 * d)))) else (g (18 + 4 * d)))) else (g (19 + 4 * d))))) (35 + 4 * d) ((upd (upd (upd (upd (upd (upd (upd g (16 + 4 * d) ((g (16 + 4 * d)) - (if n ≤ (g (16 + 4 * d)) then n else (g (16 + 4 * d))))) (32 + 4 * d) ((g (32 + 4 * d)) + (if n ≤ (g (16 + 4 * d)) then n else (g (16 + 4 * d))))) (17 + 4 * d) ((g (17 + 4 * d)) - (if (n - (if n ≤ (g (16 + 4 * d)) then n else (g (16 + 4 * d)))) ≤ (g (17 + 4 * d)) then (n - (if n ≤ (g (16 + 4 * d)) then n else (g (16 + 4 * d)))) else (g (17 + 4 * d))))) (33 + 4 * d) ((g (33 + 4 * d)) + (if (n - (if n ≤ (g (16 + 4 * d)) then n else (g (16 + 4 * d)))) ≤ (g (17 + 4 * d)) then (n - (if n ≤ (g (16 + 4 * d)) then n else (g (16 + 4 * d)))) else (g (17 + 4 * d))))) (18 + 4 * d) ((g (18 + 4 * d)) - (if ((n - (if n ≤ (g (16 + 4 * d)) then n else (g (16 + 4 * d)))) - (if (n - (if n ≤ (g (16 + 4 * d)) then n else (g (16 + 4 * d)))) ≤ (g (17 + 4 * d)) then (n - (if n ≤ (g (16 + 4 * d)) then n else (g (16 + 4 * d)))) else (g (17 + 4 * d)))) ≤ (g (18 + 4 * d)) then ((n - (if n ≤ (g (16 + 4 * d)) then n else (g (16 + 4 * d)))) - (if (n - (if n ≤ (g (16 + 4 * d)) then n else (g (16 + 4 * d)))) ≤ (g (17 + 4 * d)) then (n - (if n ≤ (g (16 + 4 * d)) then n else (g (16 + 4 * d)))) else (g (17 + 4 * d)))) else (g (18 + 4 * d))))) (34 + 4 * d) ((g (34 + 4 * d)) + (if ((n - (if n ≤ (g (16 + 4 * d)) then n else (g (16 + 4 * d)))) - (if (n - (if n ≤ (g (16 + 4 * d)) then n else (g (16 + 4 * d)))) ≤ (g (17 + 4 * d)) then (n - (if n ≤ (g (16 + 4 * d)) then n else (g (16 + 4 * d)))) else (g (17 + 4 * d)))) ≤ (g (18 + 4 * d)) then ((n - (if n ≤ (g (16 + 4 * d)) then n else (g (16 + 4 * d)))) - (if (n - (if n ≤ (g (16 + 4 * d)) then n else (g (16 + 4 * d)))) ≤ (g (17 + 4 * d)) then (n - (if n ≤ (g (16 + 4 * d)) then n else (g (16 + 4 * d)))) else (g (17 + 4 * d)))) else (g (18 + 4 * d))))) (19 + 4 * d) ((upd (upd (upd (upd (upd (upd g (16 + 4 * d) ((g (16 + 4 * d)) - (if n ≤ (g (16 + 4 * d)) then n else (g (16 + 4 * d))))) (32 + 4 * d) ((g (32 + 4 * d)) + (if n ≤ (g (16 + 4 * d)) then n else (g (16 + 4 * d))))) (17 + 4 * d) ((g (17 + 4 * d)) - (if (n - (if n ≤ (g (16 + 4 * d)) then n else (g (16 + 4 * d)))) ≤ (g (17 + 4 * d)) then (n - (if n ≤ (g (16 + 4 * d)) then n else (g (16 + 4 * d)))) else (g (17 + 4 * d))))) (33 + 4 * d) ((g (33 + 4 * d)) + (if (n - (if n ≤ (g (16 + 4 * d)) then n else (g (16 + 4 * d)))) ≤ (g (17 + 4 * d)) then (n - (if n ≤ (g (16 + 4 * d)) then n else (g (16 + 4 * d)))) else (g (17 + 4 * d))))) (18 + 4 * d) ((g (18 + 4 * d)) - (if ((n - (if n ≤ (g (16 + 4 * d)) then n else (g (16 + 4 * d)))) - (if (n - (if n ≤ (g (16 + 4 * d)) then n else (g (16 + 4 * d)))) ≤ (g (17 + 4 * d)) then (n - (if n ≤ (g (16 + 4 * d)) then n else (g (16 + 4 * d)))) else (g (17 + 4 * d)))) ≤ (g (18 + 4 * d)) then ((n - (if n ≤ (g (16 + 4 * d)) then n else (g (16 + 4 * d)))) - (if (n - (if n ≤ (g (16 + 4 * d)) then n else (g (16 + 4 * d)))) ≤ (g (17 + 4 * d)) then (n - (if n ≤ (g (16 + 4 * d)) then n else (g (16 + 4 * d)))) else (g (17 + 4 * d)))) else (g (18 + 4 * d))))) (34 + 4 * d) ((g (34 + 4 * d)) + (if ((n - (if n ≤ (g (16 + 4 * d)) then n else (g (16 + 4 * d)))) - (if (n - (if n ≤ (g (16 + 4 * d)) then n else (g (16 + 4 * d)))) ≤ (g (17 + 4 * d)) then (n - (if n ≤ (g (16 + 4 * d)) then n else (g (16 + 4 * d)))) else (g (17 + 4 * d)))) ≤ (g (18 + 4 * d)) then ((n - (if n ≤ (g (16 + 4 * d)) then n else (g (16 + 4 * d)))) - (if (n - (if n ≤ (g (16 + 4 * d)) then n else (g (16 + 4 * d)))) ≤ (g (17 + 4 * d)) then (n - (if n ≤ (g (16 + 4 * d)) then n else (g (16 + 4 * d)))) else (g (17 + 4 * d)))) else (g (18 + 4 * d))))) (19 + 4 * d) - (if (((n - (if n ≤ (g (16 + 4 * d)) then n else (g (16 + 4 * d)))) - (if (n - (if n ≤ (g (16 + 4 * d)) then n else (g (16 + 4 * d)))) ≤ (g (17 + 4 * d)) then (n - (if n ≤ (g (16 + 4 * d)) then n else (g (16 + 4 * d)))) else (g (17 + 4 * d)))) - (if ((n - (if n ≤ (g (16 + 4 * d)) then n else (g (16 + 4 * d)))) - (if (n - (if n ≤ (g (16 + 4 * d)) then n else (g (16 + 4 * d)))) ≤ (g (17 + 4 * d)) then (n - (if n ≤ (g (16 + 4 * d)) then n else (g (16 + 4 * d)))) else (g (17 + 4 * d)))) ≤ (g (18 + 4 * d)) then ((n - (if n ≤ (g (16 + 4 * d)) then n else (g (16 + 4 * d)))) - (if (n - (if n ≤ (g (16 + 4 * d)) then n else (g (16 + 4 * d)))) ≤ (g (17 + 4 * d)) then (n - (if n ≤ (g (16 + 4 * d)) then n else (g (16 + 4 * d)))) else (g (17 + 4 * d)))) else (g (18 + 4 * d)))) ≤ (g (19 + 4 * d)) then (((n - (if n ≤ (g (16 + 4 * d)) then n else (g (16 + 4 * d)))) - (if (n - (if n ≤ (g (16 + 4 * d)) then n else (g (16 + 4 * d)))) ≤ (g (17 + 4 * d)) then (n - (if n ≤ (g (16 + 4 * d)) then n else (g (16 + 4 * d)))) else (g (17 + 4 * d)))) - (if ((n - (if n ≤ (g (16 + 4 * d)) then n else (g (16 + 4 * d)))) - (if (n - (if n ≤ (g (16 + 4 * d)) then n else (g (16 + 4 * d)))) ≤ (g (17 + 4 * d)) then (n - (if n ≤ (g (16 + 4 * d)) then n else (g (16 + 4 * d)))) else (g (17 + 4 * d)))) ≤ (g (18 + 4 * d)) then ((n - (if n ≤ (g (16 + 4 * d)) then n else (g (16 + 4 * d)))) - (if (n - (if n ≤ (g (16 + 4 * d)) then n else (g (16 + 4 * d)))) ≤ (g (17 + 4 * d)) then (n - (if n ≤ (g (16 + 4 * d)) then n else (g (16 + 4 * d)))) else (g (17 + 4 * d)))) else (g (18 + 4 * d)))) else (g (19 + 4 * d))))) (35 + 4 * d) + (if (((n - (if n ≤ (g (16 + 4 * d)) then n else (g (16 + 4 * d)))) - (if (n - (if n ≤ (g (16 + 4 * d)) then n else (g (16 + 4 * d)))) ≤ (g (17 + 4 * d)) then (n - (if n ≤ (g (16 + 4 * d)) then n else (g (16 + 4 * d)))) else (g (17 + 4 * d)))) - (if ((n - (if n ≤ (g (16 + 4 * d)) then n else (g (16 + 4 * d)))) - (if (n - (if n ≤ (g (16 + 4 * d)) then n else (g (16 + 4 * d)))) ≤ (g (17 + 4 * d)) then (n - (if n ≤ (g (16 + 4 * d)) then n else (g (16 + 4 * d)))) else (g (17 + 4 * d)))) ≤ (g (18 + 4 * d)) then ((n - (if n ≤ (g (16 + 4 * d)) then n else (g (16 + 4 * d)))) - (if (n - (if n ≤ (g (16 + 4 * d)) then n else (g (16 + 4 * d)))) ≤ (g (17 + 4 * d)) then (n - (if n ≤ (g (16 + 4 * d)) then n else (g (16 + 4 * d)))) else (g (17 + 4 * d)))) else (g (18 + 4 * d)))) ≤ (g (19 + 4 * d)) then (((n - (if n ≤ (g (16 + 4 * d)) then n else (g (16 + 4 * d)))) - (if (n - (if n ≤ (g (16 + 4 * d)) then n else (g (16 + 4 * d)))) ≤ (g (17 + 4 * d)) then (n - (if n ≤ (g (16 + 4 * d)) then n else (g (16 + 4 * d)))) else (g (17 + 4 * d)))) - (if ((n - (if n ≤ (g (16 + 4 * d)) then n else (g (16 + 4 * d)))) - (if (n - (if n ≤ (g (16 + 4 * d)) then n else (g (16 + 4 * d)))) ≤ (g (17 + 4 * d)) then (n - (if n ≤ (g (16 + 4 * d)) then n else (g (16 + 4 * d)))) else (g (17 + 4 * d)))) ≤ (g (18 + 4 * d)) then ((n - (if n ≤ (g (16 + 4 * d)) then n else (g (16 + 4 * d)))) - (if (n - (if n ≤ (g (16 + 4 * d)) then n else (g (16 + 4 * d)))) ≤ (g (17 + 4 * d)) then (n - (if n ≤ (g (16 + 4 * d)) then n else (g (16 + 4 * d)))) else (g (17 + 4 * d)))) else (g (18 + 4 * d)))) else (g (19 + 4 * d))))) = (upd (upd (upd (upd (upd (upd (upd (upd g (16 + 4 * d) ((g (16 + 4 * d)) - (if n ≤ (g (16 + 4 * d)) then n else (g (16 + 4 * d))))) (32 + 4 * d) ((g (32 + 4 * d)) + (if n ≤ (g (16 + 4 * d)) then n else (g (16 + 4 * d))))) (17 + 4 * d) ((g (17 + 4 * d)) - (if (n - (if n ≤ (g (16 + 4 * d)) then n else (g (16 + 4 * d)))) ≤ (g (17 + 4 * d)) then (n - (if n ≤ (g (16 + 4 * d)) then n else (g (16 + 4 * d)))) else (g (17 + 4 * d))))) (33 + 4 * d) ((g (33 + 4 * d)) + (if (n - (if n ≤ (g (16 + 4 * d)) then n else (g (16 + 4 * d)))) ≤ (g (17 + 4 * d)) then (n - (if n ≤ (g (16 + 4 * d)) then n else (g (16 + 4 * d)))) else (g (17 + 4 * d))))) (18 + 4 * d) ((g (18 + 4 * d)) - (if ((n - (if n ≤ (g (16 + 4 * d)) then n else (g (16 + 4 * d)))) - (if (n - (if n ≤ (g (16 + 4 * d)) then n else (g (16 + 4 * d)))) ≤ (g (17 + 4 * d)) then (n - (if n ≤ (g (16 + 4 * d)) then n else (g (16 + 4 * d)))) else (g (17 + 4 * d)))) ≤ (g (18 + 4 * d)) then ((n - (if n ≤ (g (16 + 4 * d)) then n else (g (16 + 4 * d)))) - (if (n - (if n ≤ (g (16 + 4 * d)) then n else (g (16 + 4 * d)))) ≤ (g (17 + 4 * d)) then (n - (if n ≤ (g (16 + 4 * d)) then n else (g (16 + 4 * d)))) else (g (17 + 4 * d)))) else (g (18 + 4 * d))))) (34 + 4 * d) ((g (34 + 4 * d)) + (if ((n - (if n ≤ (g (16 + 4 * d)) then n else (g (16 + 4 * d)))) - (if (n - (if n ≤ (g (16 + 4 * d)) then n else (g (16 + 4 * d)))) ≤ (g (17 + 4 * d)) then (n - (if n ≤ (g (16 + 4 * d)) then n else (g (16 + 4 * d)))) else (g (17 + 4 * d)))) ≤ (g (18 + 4 * d)) then ((n - (if n ≤ (g (16 + 4 * d)) then n else (g (16 + 4 * d)))) - (if (n - (if n ≤ (g (16 + 4 * d)) then n else (g (16 + 4 * d)))) ≤ (g (17 + 4 * d)) then (n - (if n ≤ (g (16 + 4 * d)) then n else (g (16 + 4 * d)))) else (g (17 + 4 * d)))) else (g (18 + 4 * d))))) (19 + 4 * d) ((g (19 + 4 * d)) - (if (((n - (if n ≤ (g (16 + 4 * d)) then n else (g (16 + 4 * d)))) - (if (n - (if n ≤ (g (16 + 4 * d)) then n else (g (16 + 4 * d)))) ≤ (g (17 + 4 * d)) then (n - (if n ≤ (g (16 + 4 * d)) then n else (g (16 + 4 * d)))) else (g (17 + 4 * d)))) - (if ((n - (if n ≤ (g (16 + 4 * d)) then n else (g (16 + 4 * d)))) - (if (n - (if n ≤ (g (16 + 4 * d)) then n else (g (16 + 4 * d)))) ≤ (g (17 + 4 * d)) then (n - (if n ≤ (g (16 + 4 * d)) then n else (g (16 + 4 * d)))) else (g (17 + 4 * d)))) ≤ (g (18 + 4 * d)) then ((n - (if n ≤ (g (16 + 4 * d)) then n else (g (16 + 4 * d)))) - (if (n - (if n ≤ (g (16 + 4 * d)) then n else (g (16 + 4 * d)))) ≤ (g (17 + 4 * d)) then (n - (if n ≤ (g (16 + 4 * d)) then n else (g (16 + 4 * d)))) else (g (17 + 4 * d)))) else (g (18 + 4 * d)))) ≤ (g (19 + 4 * d)) then (((n - (if n ≤ (g (16 + 4 * d)) then n else (g (16 + 4 * d)))) - (if (n - (if n ≤ (g (16 + 4 * d)) then n else (g (16 + 4 * d)))) ≤ (g (17 + 4 * d)) then (n - (if n ≤ (g (16 + 4 * d)) then n else (g (16 + 4 * d)))) else (g (17 + 4 * d)))) - (if ((n - (if n ≤ (g (16 + 4 * d)) then n else (g (16 + 4 * d)))) - (if (n - (if n ≤ (g (16 + 4 * d)) then n else (g (16 + 4 * d)))) ≤ (g (17 + 4 * d)) then (n - (if n ≤ (g (16 + 4 * d)) then n else (g (16 + 4 * d)))) else (g (17 + 4 * d)))) ≤ (g (18 + 4 * d)) then ((n - (if n ≤ (g (16 + 4 * d)) then n else (g (16 + 4 * d)))) - (if (n - (if n ≤ (g (16 + 4 * d)) then n else (g (16 + 4 * d)))) ≤ (g (17 + 4 * d)) then (n - (if n ≤ (g (16 + 4 * d)) then n else (g (16 + 4 * d)))) else (g (17 + 4 * d)))) else (g (18 + 4 * d)))) else (g (19 + 4 * d))))) (35 + 4 * d) ((g (35 + 4 * d)) + (if (((n - (if n ≤ (g (16 + 4 * d)) then n else (g (16 + 4 * d)))) - (if (n - (if n ≤ (g (16 + 4 * d)) then n else (g (16 + 4 * d)))) ≤ (g (17 + 4 * d)) then (n - (if n ≤ (g (16 + 4 * d)) then n else (g (16 + 4 * d)))) else (g (17 + 4 * d)))) - (if ((n - (if n ≤ (g (16 + 4 * d)) then n else (g (16 + 4 * d)))) - (if (n - (if n ≤ (g (16 + 4 * d)) then n else (g (16 + 4 * d)))) ≤ (g (17 + 4 * d)) then (n - (if n ≤ (g (16 + 4 * d)) then n else (g (16 + 4 * d)))) else (g (17 + 4 * d)))) ≤ (g (18 + 4 * d)) then ((n - (if n ≤ (g (16 + 4 * d)) then n else (g (16 + 4 * d)))) - (if (n - (if n ≤ (g (16 + 4 * d)) then n else (g (16 + 4 * d)))) ≤ (g (17 + 4 * d)) then (n - (if n ≤ (g (16 + 4 * d)) then n else (g (16 + 4 * d)))) else (g (17 + 4 * d)))) else (g (18 + 4 * d)))) ≤ (g (19 + 4 * d)) then (((n - (if n ≤ (g (16 + 4 * d)) then n else (g (16 + 4 * d)))) - (if (n - (if n ≤ (g (16 + 4 * d)) then n else (g (16 + 4 * d)))) ≤ (g (17 + 4 * d)) then (n - (if n ≤ (g (16 + 4 * d)) then n else (g (16 + 4 * d)))) else (g (17 + 4 * d)))) - (if ((n - (if n ≤ (g (16 + 4 * d)) then n else (g (16 + 4 * d)))) - (if (n - (if n ≤ (g (16 + 4 * d)) then n else (g (16 + 4 * d)))) ≤ (g (17 + 4 * d)) then (n - (if n ≤ (g (16 + 4 * d)) then n else (g (16 + 4 * d)))) else (g (17 + 4 * d)))) ≤ (g (18 + 4 * d)) then ((n - (if n ≤ (g (16 + 4 * d)) then n else (g (16 + 4 * d)))) - (if (n - (if n ≤ (g (16 + 4 * d)) then n else (g (16 + 4 * d)))) ≤ (g (17 + 4 * d)) then (n - (if n ≤ (g (16 + 4 * d)) then n else (g (16 + 4 * d)))) else (g (17 + 4 * d)))) else (g (18 + 4 * d)))) else (g (19 + 4 * d))))) from by simp (disch := omega) only [pk_un, pk_us]] at wo
          refine nrm_v ?_
          refine lv_iload_n hx hb dX7_skulls_69 rfl (lv_at hl 2 rfl) ?_
          refine lv_iload hx hb dX7_skulls_70 (lv_at hl 0 rfl) ?_
          refine lv_isub hx hb dX7_skulls_72 ?_
          refine lv_istore_n (lv' := [(3, .int ((((n - (if n ≤ (g (16 + 4 * d)) then n else (g (16 + 4 * d)))) - (if (n - (if n ≤ (g (16 + 4 * d)) then n else (g (16 + 4 * d)))) ≤ (g (17 + 4 * d)) then (n - (if n ≤ (g (16 + 4 * d)) then n else (g (16 + 4 * d)))) else (g (17 + 4 * d)))) - (if ((n - (if n ≤ (g (16 + 4 * d)) then n else (g (16 + 4 * d)))) - (if (n - (if n ≤ (g (16 + 4 * d)) then n else (g (16 + 4 * d)))) ≤ (g (17 + 4 * d)) then (n - (if n ≤ (g (16 + 4 * d)) then n else (g (16 + 4 * d)))) else (g (17 + 4 * d)))) ≤ (g (18 + 4 * d)) then ((n - (if n ≤ (g (16 + 4 * d)) then n else (g (16 + 4 * d)))) - (if (n - (if n ≤ (g (16 + 4 * d)) then n else (g (16 + 4 * d)))) ≤ (g (17 + 4 * d)) then (n - (if n ≤ (g (16 + 4 * d)) then n else (g (16 + 4 * d)))) else (g (17 + 4 * d)))) else (g (18 + 4 * d)))) - (if (((n - (if n ≤ (g (16 + 4 * d)) then n else (g (16 + 4 * d)))) - (if (n - (if n ≤ (g (16 + 4 * d)) then n else (g (16 + 4 * d)))) ≤ (g (17 + 4 * d)) then (n - (if n ≤ (g (16 + 4 * d)) then n else (g (16 + 4 * d)))) else (g (17 + 4 * d)))) - (if ((n - (if n ≤ (g (16 + 4 * d)) then n else (g (16 + 4 * d)))) - (if (n - (if n ≤ (g (16 + 4 * d)) then n else (g (16 + 4 * d)))) ≤ (g (17 + 4 * d)) then (n - (if n ≤ (g (16 + 4 * d)) then n else (g (16 + 4 * d)))) else (g (17 + 4 * d)))) ≤ (g (18 + 4 * d)) then ((n - (if n ≤ (g (16 + 4 * d)) then n else (g (16 + 4 * d)))) - (if (n - (if n ≤ (g (16 + 4 * d)) then n else (g (16 + 4 * d)))) ≤ (g (17 + 4 * d)) then (n - (if n ≤ (g (16 + 4 * d)) then n else (g (16 + 4 * d)))) else (g (17 + 4 * d)))) else (g (18 + 4 * d)))) ≤ (g (19 + 4 * d)) then (((n - (if n ≤ (g (16 + 4 * d)) then n else (g (16 + 4 * d)))) - (if (n - (if n ≤ (g (16 + 4 * d)) then n else (g (16 + 4 * d)))) ≤ (g (17 + 4 * d)) then (n - (if n ≤ (g (16 + 4 * d)) then n else (g (16 + 4 * d)))) else (g (17 + 4 * d)))) - (if ((n - (if n ≤ (g (16 + 4 * d)) then n else (g (16 + 4 * d)))) - (if (n - (if n ≤ (g (16 + 4 * d)) then n else (g (16 + 4 * d)))) ≤ (g (17 + 4 * d)) then (n - (if n ≤ (g (16 + 4 * d)) then n else (g (16 + 4 * d)))) else (g (17 + 4 * d)))) ≤ (g (18 + 4 * d)) then ((n - (if n ≤ (g (16 + 4 * d)) then n else (g (16 + 4 * d)))) - (if (n - (if n ≤ (g (16 + 4 * d)) then n else (g (16 + 4 * d)))) ≤ (g (17 + 4 * d)) then (n - (if n ≤ (g (16 + 4 * d)) then n else (g (16 + 4 * d)))) else (g (17 + 4 * d)))) else (g (18 + 4 * d)))) else (g (19 + 4 * d))))), (5, .int (if (((n - (if n ≤ (g (16 + 4 * d)) then n else (g (16 + 4 * d)))) - (if (n - (if n ≤ (g (16 + 4 * d)) then n else (g (16 + 4 * d)))) ≤ (g (17 + 4 * d)) then (n - (if n ≤ (g (16 + 4 * d)) then n else (g (16 + 4 * d)))) else (g (17 + 4 * d)))) - (if ((n - (if n ≤ (g (16 + 4 * d)) then n else (g (16 + 4 * d)))) - (if (n - (if n ≤ (g (16 + 4 * d)) then n else (g (16 + 4 * d)))) ≤ (g (17 + 4 * d)) then (n - (if n ≤ (g (16 + 4 * d)) then n else (g (16 + 4 * d)))) else (g (17 + 4 * d)))) ≤ (g (18 + 4 * d)) then ((n - (if n ≤ (g (16 + 4 * d)) then n else (g (16 + 4 * d)))) - (if (n - (if n ≤ (g (16 + 4 * d)) then n else (g (16 + 4 * d)))) ≤ (g (17 + 4 * d)) then (n - (if n ≤ (g (16 + 4 * d)) then n else (g (16 + 4 * d)))) else (g (17 + 4 * d)))) else (g (18 + 4 * d)))) ≤ (g (19 + 4 * d)) then (((n - (if n ≤ (g (16 + 4 * d)) then n else (g (16 + 4 * d)))) - (if (n - (if n ≤ (g (16 + 4 * d)) then n else (g (16 + 4 * d)))) ≤ (g (17 + 4 * d)) then (n - (if n ≤ (g (16 + 4 * d)) then n else (g (16 + 4 * d)))) else (g (17 + 4 * d)))) - (if ((n - (if n ≤ (g (16 + 4 * d)) then n else (g (16 + 4 * d)))) - (if (n - (if n ≤ (g (16 + 4 * d)) then n else (g (16 + 4 * d)))) ≤ (g (17 + 4 * d)) then (n - (if n ≤ (g (16 + 4 * d)) then n else (g (16 + 4 * d)))) else (g (17 + 4 * d)))) ≤ (g (18 + 4 * d)) then ((n - (if n ≤ (g (16 + 4 * d)) then n else (g (16 + 4 * d)))) - (if (n - (if n ≤ (g (16 + 4 * d)) then n else (g (16 + 4 * d)))) ≤ (g (17 + 4 * d)) then (n - (if n ≤ (g (16 + 4 * d)) then n else (g (16 + 4 * d)))) else (g (17 + 4 * d)))) else (g (18 + 4 * d)))) else (g (19 + 4 * d)))), (4, .int 3), (0, .ref (am 0)), (1, .int (nI d)), (2, .int n)]) hx hb dX7_skulls_73 rfl hl (by decide) rfl (fun ls hl => ?_)
          refine lv_iinc (v := 4) (lv' := [(4, .int 4), (3, .int ((((n - (if n ≤ (g (16 + 4 * d)) then n else (g (16 + 4 * d)))) - (if (n - (if n ≤ (g (16 + 4 * d)) then n else (g (16 + 4 * d)))) ≤ (g (17 + 4 * d)) then (n - (if n ≤ (g (16 + 4 * d)) then n else (g (16 + 4 * d)))) else (g (17 + 4 * d)))) - (if ((n - (if n ≤ (g (16 + 4 * d)) then n else (g (16 + 4 * d)))) - (if (n - (if n ≤ (g (16 + 4 * d)) then n else (g (16 + 4 * d)))) ≤ (g (17 + 4 * d)) then (n - (if n ≤ (g (16 + 4 * d)) then n else (g (16 + 4 * d)))) else (g (17 + 4 * d)))) ≤ (g (18 + 4 * d)) then ((n - (if n ≤ (g (16 + 4 * d)) then n else (g (16 + 4 * d)))) - (if (n - (if n ≤ (g (16 + 4 * d)) then n else (g (16 + 4 * d)))) ≤ (g (17 + 4 * d)) then (n - (if n ≤ (g (16 + 4 * d)) then n else (g (16 + 4 * d)))) else (g (17 + 4 * d)))) else (g (18 + 4 * d)))) - (if (((n - (if n ≤ (g (16 + 4 * d)) then n else (g (16 + 4 * d)))) - (if (n - (if n ≤ (g (16 + 4 * d)) then n else (g (16 + 4 * d)))) ≤ (g (17 + 4 * d)) then (n - (if n ≤ (g (16 + 4 * d)) then n else (g (16 + 4 * d)))) else (g (17 + 4 * d)))) - (if ((n - (if n ≤ (g (16 + 4 * d)) then n else (g (16 + 4 * d)))) - (if (n - (if n ≤ (g (16 + 4 * d)) then n else (g (16 + 4 * d)))) ≤ (g (17 + 4 * d)) then (n - (if n ≤ (g (16 + 4 * d)) then n else (g (16 + 4 * d)))) else (g (17 + 4 * d)))) ≤ (g (18 + 4 * d)) then ((n - (if n ≤ (g (16 + 4 * d)) then n else (g (16 + 4 * d)))) - (if (n - (if n ≤ (g (16 + 4 * d)) then n else (g (16 + 4 * d)))) ≤ (g (17 + 4 * d)) then (n - (if n ≤ (g (16 + 4 * d)) then n else (g (16 + 4 * d)))) else (g (17 + 4 * d)))) else (g (18 + 4 * d)))) ≤ (g (19 + 4 * d)) then (((n - (if n ≤ (g (16 + 4 * d)) then n else (g (16 + 4 * d)))) - (if (n - (if n ≤ (g (16 + 4 * d)) then n else (g (16 + 4 * d)))) ≤ (g (17 + 4 * d)) then (n - (if n ≤ (g (16 + 4 * d)) then n else (g (16 + 4 * d)))) else (g (17 + 4 * d)))) - (if ((n - (if n ≤ (g (16 + 4 * d)) then n else (g (16 + 4 * d)))) - (if (n - (if n ≤ (g (16 + 4 * d)) then n else (g (16 + 4 * d)))) ≤ (g (17 + 4 * d)) then (n - (if n ≤ (g (16 + 4 * d)) then n else (g (16 + 4 * d)))) else (g (17 + 4 * d)))) ≤ (g (18 + 4 * d)) then ((n - (if n ≤ (g (16 + 4 * d)) then n else (g (16 + 4 * d)))) - (if (n - (if n ≤ (g (16 + 4 * d)) then n else (g (16 + 4 * d)))) ≤ (g (17 + 4 * d)) then (n - (if n ≤ (g (16 + 4 * d)) then n else (g (16 + 4 * d)))) else (g (17 + 4 * d)))) else (g (18 + 4 * d)))) else (g (19 + 4 * d))))), (5, .int (if (((n - (if n ≤ (g (16 + 4 * d)) then n else (g (16 + 4 * d)))) - (if (n - (if n ≤ (g (16 + 4 * d)) then n else (g (16 + 4 * d)))) ≤ (g (17 + 4 * d)) then (n - (if n ≤ (g (16 + 4 * d)) then n else (g (16 + 4 * d)))) else (g (17 + 4 * d)))) - (if ((n - (if n ≤ (g (16 + 4 * d)) then n else (g (16 + 4 * d)))) - (if (n - (if n ≤ (g (16 + 4 * d)) then n else (g (16 + 4 * d)))) ≤ (g (17 + 4 * d)) then (n - (if n ≤ (g (16 + 4 * d)) then n else (g (16 + 4 * d)))) else (g (17 + 4 * d)))) ≤ (g (18 + 4 * d)) then ((n - (if n ≤ (g (16 + 4 * d)) then n else (g (16 + 4 * d)))) - (if (n - (if n ≤ (g (16 + 4 * d)) then n else (g (16 + 4 * d)))) ≤ (g (17 + 4 * d)) then (n - (if n ≤ (g (16 + 4 * d)) then n else (g (16 + 4 * d)))) else (g (17 + 4 * d)))) else (g (18 + 4 * d)))) ≤ (g (19 + 4 * d)) then (((n - (if n ≤ (g (16 + 4 * d)) then n else (g (16 + 4 * d)))) - (if (n - (if n ≤ (g (16 + 4 * d)) then n else (g (16 + 4 * d)))) ≤ (g (17 + 4 * d)) then (n - (if n ≤ (g (16 + 4 * d)) then n else (g (16 + 4 * d)))) else (g (17 + 4 * d)))) - (if ((n - (if n ≤ (g (16 + 4 * d)) then n else (g (16 + 4 * d)))) - (if (n - (if n ≤ (g (16 + 4 * d)) then n else (g (16 + 4 * d)))) ≤ (g (17 + 4 * d)) then (n - (if n ≤ (g (16 + 4 * d)) then n else (g (16 + 4 * d)))) else (g (17 + 4 * d)))) ≤ (g (18 + 4 * d)) then ((n - (if n ≤ (g (16 + 4 * d)) then n else (g (16 + 4 * d)))) - (if (n - (if n ≤ (g (16 + 4 * d)) then n else (g (16 + 4 * d)))) ≤ (g (17 + 4 * d)) then (n - (if n ≤ (g (16 + 4 * d)) then n else (g (16 + 4 * d)))) else (g (17 + 4 * d)))) else (g (18 + 4 * d)))) else (g (19 + 4 * d)))), (0, .ref (am 0)), (1, .int (nI d)), (2, .int n)]) hx hb dX7_skulls_74 hl (k := 2) rfl (by decide) (by decide) rfl (fun ls hl => ?_)
          refine lv_goto (tgt := 5) hx hb dX7_skulls_77 (by decide) ?_
          refine lv_iload hx hb dX7_skulls_5 (lv_at hl 0 rfl) ?_
          refine lv_iconst (v := 4) hx hb dX7_skulls_7 (by decide) ?_
          refine lv_icmp_ge (tgt := 80) hx hb dX7_skulls_8 (by decide) (fun _ => ?_) (fun h => absurd (show ¬ _ from h) (by decide))
          exact r2_v cx hQ wo dX7_skulls_80 (by subst hM; exact ⟨rfl, rfl⟩)
        refine lv_icmp_ge (tgt := 46) hx hb dX7_skulls_26 (by decide) (fun c_5 => ?_) (fun c_5 => ?_)
        · skip
          refine lv_iload_n hx hb dX7_skulls_46 rfl (lv_at hl 1 rfl) ?_
          rw [if_pos c_5] at hj_4
          exact hj_4 _ _ _ wo (lv_sub hl [0, 1, 2, 3, 4, 5] rfl)
        · skip
          refine lv_aload_n hx hb dX7_skulls_29 rfl (lv_at hl 3 rfl) ?_
          refine mg_st cx wo m_631 dX7_skulls_30 ?_
          refine lv_bipush (v := 16) hx hb dX7_skulls_33 (by decide) ?_
          refine lv_iconst (v := 4) hx hb dX7_skulls_35 (by decide) ?_
          refine lv_iload_n hx hb dX7_skulls_36 rfl (lv_at hl 4 rfl) ?_
          refine lv_imul hx hb dX7_skulls_37 ?_
          refine tope (y := (nI (4 * d))) (mi (a := 4) (b := d) rfl rfl (by omega)) ?_
          refine lv_iadd hx hb dX7_skulls_38 ?_
          refine tope (y := (nI (16 + 4 * d))) (ai (a := 16) (b := 4 * d) rfl rfl (by omega)) ?_
          refine lv_iload hx hb dX7_skulls_39 (lv_at hl 0 rfl) ?_
          refine lv_iadd hx hb dX7_skulls_41 ?_
          refine tope (y := (nI (19 + 4 * d))) (ai (a := 16 + 4 * d) (b := 3) rfl rfl (by omega)) ?_
          refine ml_st (n := 19 + 4 * d) cx wo rfl (by omega) dX7_skulls_42 ?_
          refine tope (y := (g (19 + 4 * d))) (show (upd (upd (upd (upd (upd (upd g (16 + 4 * d) ((g (16 + 4 * d)) - (if n ≤ (g (16 + 4 * d)) then n else (g (16 + 4 * d))))) (32 + 4 * d) ((g (32 + 4 * d)) + (if n ≤ (g (16 + 4 * d)) then n else (g (16 + 4 * d))))) (17 + 4 * d) ((g (17 + 4 * d)) - (if (n - (if n ≤ (g (16 + 4 * d)) then n else (g (16 + 4 * d)))) ≤ (g (17 + 4 * d)) then (n - (if n ≤ (g (16 + 4 * d)) then n else (g (16 + 4 * d)))) else (g (17 + 4 * d))))) (33 + 4 * d) ((g (33 + 4 * d)) + (if (n - (if n ≤ (g (16 + 4 * d)) then n else (g (16 + 4 * d)))) ≤ (g (17 + 4 * d)) then (n - (if n ≤ (g (16 + 4 * d)) then n else (g (16 + 4 * d)))) else (g (17 + 4 * d))))) (18 + 4 * d) ((g (18 + 4 * d)) - (if ((n - (if n ≤ (g (16 + 4 * d)) then n else (g (16 + 4 * d)))) - (if (n - (if n ≤ (g (16 + 4 * d)) then n else (g (16 + 4 * d)))) ≤ (g (17 + 4 * d)) then (n - (if n ≤ (g (16 + 4 * d)) then n else (g (16 + 4 * d)))) else (g (17 + 4 * d)))) ≤ (g (18 + 4 * d)) then ((n - (if n ≤ (g (16 + 4 * d)) then n else (g (16 + 4 * d)))) - (if (n - (if n ≤ (g (16 + 4 * d)) then n else (g (16 + 4 * d)))) ≤ (g (17 + 4 * d)) then (n - (if n ≤ (g (16 + 4 * d)) then n else (g (16 + 4 * d)))) else (g (17 + 4 * d)))) else (g (18 + 4 * d))))) (34 + 4 * d) ((g (34 + 4 * d)) + (if ((n - (if n ≤ (g (16 + 4 * d)) then n else (g (16 + 4 * d)))) - (if (n - (if n ≤ (g (16 + 4 * d)) then n else (g (16 + 4 * d)))) ≤ (g (17 + 4 * d)) then (n - (if n ≤ (g (16 + 4 * d)) then n else (g (16 + 4 * d)))) else (g (17 + 4 * d)))) ≤ (g (18 + 4 * d)) then ((n - (if n ≤ (g (16 + 4 * d)) then n else (g (16 + 4 * d)))) - (if (n - (if n ≤ (g (16 + 4 * d)) then n else (g (16 + 4 * d)))) ≤ (g (17 + 4 * d)) then (n - (if n ≤ (g (16 + 4 * d)) then n else (g (16 + 4 * d)))) else (g (17 + 4 * d)))) else (g (18 + 4 * d))))) (19 + 4 * d) = (g (19 + 4 * d)) from (rdN (by omega) (rdN (by omega) (rdN (by omega) (rdN (by omega) (rdN (by omega) (rdN (by omega) rfl))))))) ?_
          refine lv_goto (tgt := 47) hx hb dX7_skulls_43 (by decide) ?_
          rw [if_neg c_5] at hj_4
          exact hj_4 _ _ _ wo (lv_sub hl [0, 1, 2, 3, 4, 5] rfl)
      refine lv_icmp_ge (tgt := 46) hx hb dX7_skulls_26 (by decide) (fun c_6 => ?_) (fun c_6 => ?_)
      · skip
        refine lv_iload_n hx hb dX7_skulls_46 rfl (lv_at hl 1 rfl) ?_
        rw [if_pos c_6] at hj_3
        exact hj_3 _ _ _ wo (lv_sub hl [0, 1, 2, 3, 4, 5] rfl)
      · skip
        refine lv_aload_n hx hb dX7_skulls_29 rfl (lv_at hl 3 rfl) ?_
        refine mg_st cx wo m_631 dX7_skulls_30 ?_
        refine lv_bipush (v := 16) hx hb dX7_skulls_33 (by decide) ?_
        refine lv_iconst (v := 4) hx hb dX7_skulls_35 (by decide) ?_
        refine lv_iload_n hx hb dX7_skulls_36 rfl (lv_at hl 4 rfl) ?_
        refine lv_imul hx hb dX7_skulls_37 ?_
        refine tope (y := (nI (4 * d))) (mi (a := 4) (b := d) rfl rfl (by omega)) ?_
        refine lv_iadd hx hb dX7_skulls_38 ?_
        refine tope (y := (nI (16 + 4 * d))) (ai (a := 16) (b := 4 * d) rfl rfl (by omega)) ?_
        refine lv_iload hx hb dX7_skulls_39 (lv_at hl 0 rfl) ?_
        refine lv_iadd hx hb dX7_skulls_41 ?_
        refine tope (y := (nI (18 + 4 * d))) (ai (a := 16 + 4 * d) (b := 2) rfl rfl (by omega)) ?_
        refine ml_st (n := 18 + 4 * d) cx wo rfl (by omega) dX7_skulls_42 ?_
        refine tope (y := (g (18 + 4 * d))) (show (upd (upd (upd (upd g (16 + 4 * d) ((g (16 + 4 * d)) - (if n ≤ (g (16 + 4 * d)) then n else (g (16 + 4 * d))))) (32 + 4 * d) ((g (32 + 4 * d)) + (if n ≤ (g (16 + 4 * d)) then n else (g (16 + 4 * d))))) (17 + 4 * d) ((g (17 + 4 * d)) - (if (n - (if n ≤ (g (16 + 4 * d)) then n else (g (16 + 4 * d)))) ≤ (g (17 + 4 * d)) then (n - (if n ≤ (g (16 + 4 * d)) then n else (g (16 + 4 * d)))) else (g (17 + 4 * d))))) (33 + 4 * d) ((g (33 + 4 * d)) + (if (n - (if n ≤ (g (16 + 4 * d)) then n else (g (16 + 4 * d)))) ≤ (g (17 + 4 * d)) then (n - (if n ≤ (g (16 + 4 * d)) then n else (g (16 + 4 * d)))) else (g (17 + 4 * d))))) (18 + 4 * d) = (g (18 + 4 * d)) from (rdN (by omega) (rdN (by omega) (rdN (by omega) (rdN (by omega) rfl))))) ?_
        refine lv_goto (tgt := 47) hx hb dX7_skulls_43 (by decide) ?_
        rw [if_neg c_6] at hj_3
        exact hj_3 _ _ _ wo (lv_sub hl [0, 1, 2, 3, 4, 5] rfl)
    refine lv_icmp_ge (tgt := 46) hx hb dX7_skulls_26 (by decide) (fun c_7 => ?_) (fun c_7 => ?_)
    · skip
      refine lv_iload_n hx hb dX7_skulls_46 rfl (lv_at hl 1 rfl) ?_
      rw [if_pos c_7] at hj_2
      exact hj_2 _ _ _ wo (lv_sub hl [0, 1, 2, 3, 4, 5] rfl)
    · skip
      refine lv_aload_n hx hb dX7_skulls_29 rfl (lv_at hl 3 rfl) ?_
      refine mg_st cx wo m_631 dX7_skulls_30 ?_
      refine lv_bipush (v := 16) hx hb dX7_skulls_33 (by decide) ?_
      refine lv_iconst (v := 4) hx hb dX7_skulls_35 (by decide) ?_
      refine lv_iload_n hx hb dX7_skulls_36 rfl (lv_at hl 4 rfl) ?_
      refine lv_imul hx hb dX7_skulls_37 ?_
      refine tope (y := (nI (4 * d))) (mi (a := 4) (b := d) rfl rfl (by omega)) ?_
      refine lv_iadd hx hb dX7_skulls_38 ?_
      refine tope (y := (nI (16 + 4 * d))) (ai (a := 16) (b := 4 * d) rfl rfl (by omega)) ?_
      refine lv_iload hx hb dX7_skulls_39 (lv_at hl 0 rfl) ?_
      refine lv_iadd hx hb dX7_skulls_41 ?_
      refine tope (y := (nI (17 + 4 * d))) (ai (a := 16 + 4 * d) (b := 1) rfl rfl (by omega)) ?_
      refine ml_st (n := 17 + 4 * d) cx wo rfl (by omega) dX7_skulls_42 ?_
      refine tope (y := (g (17 + 4 * d))) (show (upd (upd g (16 + 4 * d) ((g (16 + 4 * d)) - (if n ≤ (g (16 + 4 * d)) then n else (g (16 + 4 * d))))) (32 + 4 * d) ((g (32 + 4 * d)) + (if n ≤ (g (16 + 4 * d)) then n else (g (16 + 4 * d))))) (17 + 4 * d) = (g (17 + 4 * d)) from (rdN (by omega) (rdN (by omega) rfl))) ?_
      refine lv_goto (tgt := 47) hx hb dX7_skulls_43 (by decide) ?_
      rw [if_neg c_7] at hj_2
      exact hj_2 _ _ _ wo (lv_sub hl [0, 1, 2, 3, 4, 5] rfl)
  refine lv_icmp_ge (tgt := 46) hx hb dX7_skulls_26 (by decide) (fun c_8 => ?_) (fun c_8 => ?_)
  · skip
    refine lv_iload_n hx hb dX7_skulls_46 rfl (lv_at hl 1 rfl) ?_
    rw [if_pos c_8] at hj_1
    exact hj_1 _ _ _ wo (lv_sub hl [0, 1, 2, 3, 4] rfl)
  · skip
    refine lv_aload_n hx hb dX7_skulls_29 rfl (lv_at hl 2 rfl) ?_
    refine mg_st cx wo m_631 dX7_skulls_30 ?_
    refine lv_bipush (v := 16) hx hb dX7_skulls_33 (by decide) ?_
    refine lv_iconst (v := 4) hx hb dX7_skulls_35 (by decide) ?_
    refine lv_iload_n hx hb dX7_skulls_36 rfl (lv_at hl 3 rfl) ?_
    refine lv_imul hx hb dX7_skulls_37 ?_
    refine tope (y := (nI (4 * d))) (mi (a := 4) (b := d) rfl rfl (by omega)) ?_
    refine lv_iadd hx hb dX7_skulls_38 ?_
    refine tope (y := (nI (16 + 4 * d))) (ai (a := 16) (b := 4 * d) rfl rfl (by omega)) ?_
    refine lv_iload hx hb dX7_skulls_39 (lv_at hl 0 rfl) ?_
    refine lv_iadd hx hb dX7_skulls_41 ?_
    refine tope (y := (nI (16 + 4 * d))) (ai (a := 16 + 4 * d) (b := 0) rfl rfl (by omega)) ?_
    refine ml_st (n := 16 + 4 * d) cx wo rfl (by omega) dX7_skulls_42 ?_
    refine lv_goto (tgt := 47) hx hb dX7_skulls_43 (by decide) ?_
    rw [if_neg c_8] at hj_1
    exact hj_1 _ _ _ wo (lv_sub hl [0, 1, 2, 3, 4] rfl)
abbrev rm_X7_skims : Room := { frames := 2, cells := 0, slots := 0, locals := 42 }
def m_X7_skims (g : St) (d : Nat) (x : Int32) : Bool × St :=
  if (m_X7_vesselAt x) < 0 then (false, g)
  else if (g (96 + d)) = 0 then (if (if (m_X7_room g d) ≤ (g (7 + 4 * (m_X7_vesselAt x).toNatClampNeg)) then (m_X7_room g d) else (g (7 + 4 * (m_X7_vesselAt x).toNatClampNeg))) = 0 then (false, g)
    else (true, (upd (upd (upd g (7 + 4 * (m_X7_vesselAt x).toNatClampNeg) ((g (7 + 4 * (m_X7_vesselAt x).toNatClampNeg)) - (if (m_X7_room g d) ≤ (g (7 + 4 * (m_X7_vesselAt x).toNatClampNeg)) then (m_X7_room g d) else (g (7 + 4 * (m_X7_vesselAt x).toNatClampNeg))))) (19 + 4 * d) ((g (19 + 4 * d)) + (if (m_X7_room g d) ≤ (g (7 + 4 * (m_X7_vesselAt x).toNatClampNeg)) then (m_X7_room g d) else (g (7 + 4 * (m_X7_vesselAt x).toNatClampNeg))))) (96 + d) 2)))
  else if (g (96 + d)) = 2 then (if (if (m_X7_room g d) ≤ (g (7 + 4 * (m_X7_vesselAt x).toNatClampNeg)) then (m_X7_room g d) else (g (7 + 4 * (m_X7_vesselAt x).toNatClampNeg))) = 0 then (false, g)
    else (true, (upd (upd (upd g (7 + 4 * (m_X7_vesselAt x).toNatClampNeg) ((g (7 + 4 * (m_X7_vesselAt x).toNatClampNeg)) - (if (m_X7_room g d) ≤ (g (7 + 4 * (m_X7_vesselAt x).toNatClampNeg)) then (m_X7_room g d) else (g (7 + 4 * (m_X7_vesselAt x).toNatClampNeg))))) (19 + 4 * d) ((g (19 + 4 * d)) + (if (m_X7_room g d) ≤ (g (7 + 4 * (m_X7_vesselAt x).toNatClampNeg)) then (m_X7_room g d) else (g (7 + 4 * (m_X7_vesselAt x).toNatClampNeg))))) (96 + d) 2)))
  else (false, g)
set_option maxHeartbeats 4000000 in
set_option maxRecDepth 100000 in
theorem c_X7_skims (l : Launch) (G : GG) (am : Nat → Nat) (g kf : St) (nk : Int32) {d : Nat} (hd : d < 4) (x : Int32) : Ct l G yX7_skims cX7_skims 5 (some Jvm.ClassFile.FieldType.boolean) rm_X7_skims [.ref (am 0), .int (nI d), .int x] (mw G am g kf nk) (fun rv W1 => rv = some (.int (bi (m_X7_skims g d x).1)) ∧ W1 = mw G am (m_X7_skims g d x).2 kf nk) := by
  refine Ct.mk2 (by decide) (Nat.le_of_ble_eq_true rfl) ?_
  intro p e s m args below meth c A H locs ls Q cx wo hl hQ
  obtain ⟨hx, hb, hml, hr, hlo, hown, hts, hnm, kn, hA⟩ := id cx
  have hl : lv_has ls 5 [(0, .ref (am 0)), (1, .int (nI d)), (2, .int x)] := hl
  generalize hM : m_X7_skims g d x = M at hQ
  unfold m_X7_skims at hM
  refine lv_iload_n hx hb dX7_skims_0 rfl (lv_at hl 2 rfl) ?_
  refine call_S (As := [.int x]) (rest := []) (fun X => X) Fr_id cx (c_X7_vesselAt l G _ x) fx_X7_vesselAt m_715 m_716 ⟨by decide, by decide⟩ wo rfl hl.1 rfl (Nat.le_of_ble_eq_true rfl) dX7_skims_1 ⟨by decide, by decide⟩ (fun v W1 H locs hp wo => ?_)
  obtain ⟨rfl, rfl⟩ := hp
  refine nrm_i ?_
  refine lv_istore_n (lv' := [(3, .int (m_X7_vesselAt x)), (0, .ref (am 0)), (1, .int (nI d)), (2, .int x)]) hx hb dX7_skims_4 rfl hl (by decide) rfl (fun ls hl => ?_)
  refine lv_iload_n hx hb dX7_skims_5 rfl (lv_at hl 0 rfl) ?_
  refine lv_if_lt (tgt := 34) hx hb dX7_skims_6 (by decide) (fun c_1 => ?_) (fun c_1 => ?_)
  · skip
    rw [if_pos c_1] at hM
    refine lv_iconst (v := 0) hx hb dX7_skims_34 (by decide) ?_
    refine tope (y := bi false) rfl ?_
    exact r2_z cx hQ wo dX7_skims_35 (by subst hM; exact ⟨rfl, rfl⟩)
  · skip
    rw [if_neg c_1] at hM
    have q_2 := m_X7_vesselAt_n c_1
    have q_2b := q_2.2
    refine lv_aload_n hx hb dX7_skims_9 rfl (lv_at hl 1 rfl) ?_
    refine mg_st cx wo m_631 dX7_skims_10 ?_
    refine lv_bipush (v := 96) hx hb dX7_skims_13 (by decide) ?_
    refine lv_iload_n hx hb dX7_skims_15 rfl (lv_at hl 2 rfl) ?_
    refine lv_iadd hx hb dX7_skims_16 ?_
    refine tope (y := (nI (96 + d))) (ai (a := 96) (b := d) rfl rfl (by omega)) ?_
    refine ml_st (n := 96 + d) cx wo rfl (by omega) dX7_skims_17 ?_
    refine lv_if_eq (tgt := 36) hx hb dX7_skims_18 (by decide) (fun c_3 => ?_) (fun c_3 => ?_)
    · skip
      rw [if_pos c_3] at hM
      refine lv_aload_n hx hb dX7_skims_36 rfl (lv_at hl 1 rfl) ?_
      refine mg_st cx wo m_631 dX7_skims_37 ?_
      refine lv_iconst (v := 4) hx hb dX7_skims_40 (by decide) ?_
      refine lv_iconst (v := 4) hx hb dX7_skims_41 (by decide) ?_
      refine lv_iload_n hx hb dX7_skims_42 rfl (lv_at hl 0 rfl) ?_
      refine tope (y := (nI ((m_X7_vesselAt x).toNatClampNeg))) q_2.1 ?_
      refine lv_imul hx hb dX7_skims_43 ?_
      refine tope (y := (nI (4 * (m_X7_vesselAt x).toNatClampNeg))) (mi (a := 4) (b := (m_X7_vesselAt x).toNatClampNeg) rfl rfl (by omega)) ?_
      refine lv_iadd hx hb dX7_skims_44 ?_
      refine tope (y := (nI (4 + 4 * (m_X7_vesselAt x).toNatClampNeg))) (ai (a := 4) (b := 4 * (m_X7_vesselAt x).toNatClampNeg) rfl rfl (by omega)) ?_
      refine lv_iconst (v := 3) hx hb dX7_skims_45 (by decide) ?_
      refine lv_iadd hx hb dX7_skims_46 ?_
      refine tope (y := (nI (7 + 4 * (m_X7_vesselAt x).toNatClampNeg))) (ai (a := 4 + 4 * (m_X7_vesselAt x).toNatClampNeg) (b := 3) rfl rfl (by omega)) ?_
      refine ml_st (n := 7 + 4 * (m_X7_vesselAt x).toNatClampNeg) cx wo rfl (by omega) dX7_skims_47 ?_
      refine lv_aload_n hx hb dX7_skims_48 rfl (lv_at hl 1 rfl) ?_
      refine lv_iload_n hx hb dX7_skims_49 rfl (lv_at hl 2 rfl) ?_
      refine call_V (As := [.int (nI d)]) (rest := [.int (g (7 + 4 * (m_X7_vesselAt x).toNatClampNeg))]) (fun X => X) Fr_id cx (c_X7_room l G am _ _ _ (d := d) (by omega)) fx_X7_room m_722 m_724 m_30 ⟨by decide, by decide⟩ wo (k := 0) rfl rfl rfl rfl hl.1 rfl (Nat.le_of_ble_eq_true rfl) dX7_skims_50 ⟨by decide, by decide⟩ (fun v W1 H locs hp wo => ?_)
      obtain ⟨rfl, rfl⟩ := hp
      refine nrm_i ?_
      have hj_4 : ∀ (H : Heap) (locs : List Loc) (ls : Array Slot), Wo G A s.heap H locs (mw G am g kf nk) → lv_has ls 5 [(3, .int (m_X7_vesselAt x)), (0, .ref (am 0)), (1, .int (nI d)), (2, .int x)] → W p l e rm_X7_skims s m args below meth c H locs 0 0 Q (F0 m 76 ls [.int (if (m_X7_room g d) ≤ (g (7 + 4 * (m_X7_vesselAt x).toNatClampNeg)) then (m_X7_room g d) else (g (7 + 4 * (m_X7_vesselAt x).toNatClampNeg)))]) := by
        intro H locs ls wo hl
        refine lv_istore (lv' := [(4, .int (if (m_X7_room g d) ≤ (g (7 + 4 * (m_X7_vesselAt x).toNatClampNeg)) then (m_X7_room g d) else (g (7 + 4 * (m_X7_vesselAt x).toNatClampNeg)))), (3, .int (m_X7_vesselAt x)), (0, .ref (am 0)), (1, .int (nI d)), (2, .int x)]) hx hb dX7_skims_76 hl (by decide) rfl (fun ls hl => ?_)
        refine lv_iload hx hb dX7_skims_78 (lv_at hl 0 rfl) ?_
        refine lv_if_ne (tgt := 85) hx hb dX7_skims_80 (by decide) (fun c_5 => ?_) (fun c_5 => ?_)
        · skip
          rw [if_neg c_5] at hM
          refine lv_aload_n hx hb dX7_skims_85 rfl (lv_at hl 2 rfl) ?_
          refine lv_iconst (v := 4) hx hb dX7_skims_86 (by decide) ?_
          refine lv_iconst (v := 4) hx hb dX7_skims_87 (by decide) ?_
          refine lv_iload_n hx hb dX7_skims_88 rfl (lv_at hl 1 rfl) ?_
          refine tope (y := (nI ((m_X7_vesselAt x).toNatClampNeg))) q_2.1 ?_
          refine lv_imul hx hb dX7_skims_89 ?_
          refine tope (y := (nI (4 * (m_X7_vesselAt x).toNatClampNeg))) (mi (a := 4) (b := (m_X7_vesselAt x).toNatClampNeg) rfl rfl (by omega)) ?_
          refine lv_iadd hx hb dX7_skims_90 ?_
          refine tope (y := (nI (4 + 4 * (m_X7_vesselAt x).toNatClampNeg))) (ai (a := 4) (b := 4 * (m_X7_vesselAt x).toNatClampNeg) rfl rfl (by omega)) ?_
          refine lv_bipush (v := 16) hx hb dX7_skims_91 (by decide) ?_
          refine lv_iconst (v := 4) hx hb dX7_skims_93 (by decide) ?_
          refine lv_iload_n hx hb dX7_skims_94 rfl (lv_at hl 3 rfl) ?_
          refine lv_imul hx hb dX7_skims_95 ?_
          refine tope (y := (nI (4 * d))) (mi (a := 4) (b := d) rfl rfl (by omega)) ?_
          refine lv_iadd hx hb dX7_skims_96 ?_
          refine tope (y := (nI (16 + 4 * d))) (ai (a := 16) (b := 4 * d) rfl rfl (by omega)) ?_
          refine lv_iconst (v := 3) hx hb dX7_skims_97 (by decide) ?_
          refine lv_iload hx hb dX7_skims_98 (lv_at hl 0 rfl) ?_
          refine call_V (As := [.int (nI (4 + 4 * (m_X7_vesselAt x).toNatClampNeg)), .int (nI (16 + 4 * d)), .int 3, .int (if (m_X7_room g d) ≤ (g (7 + 4 * (m_X7_vesselAt x).toNatClampNeg)) then (m_X7_room g d) else (g (7 + 4 * (m_X7_vesselAt x).toNatClampNeg)))]) (rest := []) (fun X => X) Fr_id cx (c_X7_moves_i l G am _ _ _ (a := 4 + 4 * (m_X7_vesselAt x).toNatClampNeg) (by omega) (b := 16 + 4 * d) (by omega) (k := 3) (by omega) (i := 7 + 4 * (m_X7_vesselAt x).toNatClampNeg) (by omega) (j := 19 + 4 * d) (by omega) (if (m_X7_room g d) ≤ (g (7 + 4 * (m_X7_vesselAt x).toNatClampNeg)) then (m_X7_room g d) else (g (7 + 4 * (m_X7_vesselAt x).toNatClampNeg)))) fx_X7_moves m_726 m_728 m_31 ⟨by decide, by decide⟩ wo (k := 0) rfl rfl rfl rfl hl.1 rfl (Nat.le_of_ble_eq_true rfl) dX7_skims_100 ⟨by decide, by decide⟩ (fun v W1 H locs hp wo => ?_)
          obtain ⟨rfl, rfl⟩ := hp
          rw [show (upd (upd g (7 + 4 * (m_X7_vesselAt x).toNatClampNeg) (g (7 + 4 * (m_X7_vesselAt x).toNatClampNeg) - (if (m_X7_room g d) ≤ (g (7 + 4 * (m_X7_vesselAt x).toNatClampNeg)) then (m_X7_room g d) else (g (7 + 4 * (m_X7_vesselAt x).toNatClampNeg))))) (19 + 4 * d) ((upd g (7 + 4 * (m_X7_vesselAt x).toNatClampNeg) (g (7 + 4 * (m_X7_vesselAt x).toNatClampNeg) - (if (m_X7_room g d) ≤ (g (7 + 4 * (m_X7_vesselAt x).toNatClampNeg)) then (m_X7_room g d) else (g (7 + 4 * (m_X7_vesselAt x).toNatClampNeg))))) (19 + 4 * d) + (if (m_X7_room g d) ≤ (g (7 + 4 * (m_X7_vesselAt x).toNatClampNeg)) then (m_X7_room g d) else (g (7 + 4 * (m_X7_vesselAt x).toNatClampNeg))))) = (upd (upd g (7 + 4 * (m_X7_vesselAt x).toNatClampNeg) ((g (7 + 4 * (m_X7_vesselAt x).toNatClampNeg)) - (if (m_X7_room g d) ≤ (g (7 + 4 * (m_X7_vesselAt x).toNatClampNeg)) then (m_X7_room g d) else (g (7 + 4 * (m_X7_vesselAt x).toNatClampNeg))))) (19 + 4 * d) ((g (19 + 4 * d)) + (if (m_X7_room g d) ≤ (g (7 + 4 * (m_X7_vesselAt x).toNatClampNeg)) then (m_X7_room g d) else (g (7 + 4 * (m_X7_vesselAt x).toNatClampNeg))))) from by simp (disch := omega) only [pk_un, pk_us]] at wo
          refine nrm_v ?_
          refine lv_aload_n hx hb dX7_skims_103 rfl (lv_at hl 2 rfl) ?_
          refine mg_st cx wo m_631 dX7_skims_104 ?_
          refine lv_bipush (v := 96) hx hb dX7_skims_107 (by decide) ?_
          refine lv_iload_n hx hb dX7_skims_109 rfl (lv_at hl 3 rfl) ?_
          refine lv_iadd hx hb dX7_skims_110 ?_
          refine tope (y := (nI (96 + d))) (ai (a := 96) (b := d) rfl rfl (by omega)) ?_
          refine lv_iconst (v := 2) hx hb dX7_skims_111 (by decide) ?_
          refine ms_st (n := 96 + d) cx wo rfl (by omega) dX7_skims_112 (fun H locs gz hgz wo => ?_)
          subst hgz
          refine lv_iconst (v := 1) hx hb dX7_skims_113 (by decide) ?_
          refine tope (y := bi true) rfl ?_
          exact r2_z cx hQ wo dX7_skims_114 (by subst hM; exact ⟨rfl, rfl⟩)
        · skip
          rw [if_pos c_5] at hM
          refine lv_iconst (v := 0) hx hb dX7_skims_83 (by decide) ?_
          refine tope (y := bi false) rfl ?_
          exact r2_z cx hQ wo dX7_skims_84 (by subst hM; exact ⟨rfl, rfl⟩)
      refine lv_icmp_ge (tgt := 71) hx hb dX7_skims_53 (by decide) (fun c_6 => ?_) (fun c_6 => ?_)
      · skip
        refine lv_aload_n hx hb dX7_skims_71 rfl (lv_at hl 1 rfl) ?_
        refine lv_iload_n hx hb dX7_skims_72 rfl (lv_at hl 2 rfl) ?_
        refine call_V (As := [.int (nI d)]) (rest := []) (fun X => X) Fr_id cx (c_X7_room l G am _ _ _ (d := d) (by omega)) fx_X7_room m_722 m_724 m_30 ⟨by decide, by decide⟩ wo (k := 0) rfl rfl rfl rfl hl.1 rfl (Nat.le_of_ble_eq_true rfl) dX7_skims_73 ⟨by decide, by decide⟩ (fun v W1 H locs hp wo => ?_)
        obtain ⟨rfl, rfl⟩ := hp
        refine nrm_i ?_
        rw [if_pos c_6] at hj_4
        exact hj_4 _ _ _ wo (lv_sub hl [0, 1, 2, 3] rfl)
      · skip
        refine lv_aload_n hx hb dX7_skims_56 rfl (lv_at hl 1 rfl) ?_
        refine mg_st cx wo m_631 dX7_skims_57 ?_
        refine lv_iconst (v := 4) hx hb dX7_skims_60 (by decide) ?_
        refine lv_iconst (v := 4) hx hb dX7_skims_61 (by decide) ?_
        refine lv_iload_n hx hb dX7_skims_62 rfl (lv_at hl 0 rfl) ?_
        refine tope (y := (nI ((m_X7_vesselAt x).toNatClampNeg))) q_2.1 ?_
        refine lv_imul hx hb dX7_skims_63 ?_
        refine tope (y := (nI (4 * (m_X7_vesselAt x).toNatClampNeg))) (mi (a := 4) (b := (m_X7_vesselAt x).toNatClampNeg) rfl rfl (by omega)) ?_
        refine lv_iadd hx hb dX7_skims_64 ?_
        refine tope (y := (nI (4 + 4 * (m_X7_vesselAt x).toNatClampNeg))) (ai (a := 4) (b := 4 * (m_X7_vesselAt x).toNatClampNeg) rfl rfl (by omega)) ?_
        refine lv_iconst (v := 3) hx hb dX7_skims_65 (by decide) ?_
        refine lv_iadd hx hb dX7_skims_66 ?_
        refine tope (y := (nI (7 + 4 * (m_X7_vesselAt x).toNatClampNeg))) (ai (a := 4 + 4 * (m_X7_vesselAt x).toNatClampNeg) (b := 3) rfl rfl (by omega)) ?_
        refine ml_st (n := 7 + 4 * (m_X7_vesselAt x).toNatClampNeg) cx wo rfl (by omega) dX7_skims_67 ?_
        refine lv_goto (tgt := 76) hx hb dX7_skims_68 (by decide) ?_
        rw [if_neg c_6] at hj_4
        exact hj_4 _ _ _ wo (lv_sub hl [0, 1, 2, 3] rfl)
    · skip
      rw [if_neg c_3] at hM
      refine lv_aload_n hx hb dX7_skims_21 rfl (lv_at hl 1 rfl) ?_
      refine mg_st cx wo m_631 dX7_skims_22 ?_
      refine lv_bipush (v := 96) hx hb dX7_skims_25 (by decide) ?_
      refine lv_iload_n hx hb dX7_skims_27 rfl (lv_at hl 2 rfl) ?_
      refine lv_iadd hx hb dX7_skims_28 ?_
      refine tope (y := (nI (96 + d))) (ai (a := 96) (b := d) rfl rfl (by omega)) ?_
      refine ml_st (n := 96 + d) cx wo rfl (by omega) dX7_skims_29 ?_
      refine lv_iconst (v := 2) hx hb dX7_skims_30 (by decide) ?_
      refine lv_icmp_eq (tgt := 36) hx hb dX7_skims_31 (by decide) (fun c_7 => ?_) (fun c_7 => ?_)
      · skip
        rw [if_pos c_7] at hM
        refine lv_aload_n hx hb dX7_skims_36 rfl (lv_at hl 1 rfl) ?_
        refine mg_st cx wo m_631 dX7_skims_37 ?_
        refine lv_iconst (v := 4) hx hb dX7_skims_40 (by decide) ?_
        refine lv_iconst (v := 4) hx hb dX7_skims_41 (by decide) ?_
        refine lv_iload_n hx hb dX7_skims_42 rfl (lv_at hl 0 rfl) ?_
        refine tope (y := (nI ((m_X7_vesselAt x).toNatClampNeg))) q_2.1 ?_
        refine lv_imul hx hb dX7_skims_43 ?_
        refine tope (y := (nI (4 * (m_X7_vesselAt x).toNatClampNeg))) (mi (a := 4) (b := (m_X7_vesselAt x).toNatClampNeg) rfl rfl (by omega)) ?_
        refine lv_iadd hx hb dX7_skims_44 ?_
        refine tope (y := (nI (4 + 4 * (m_X7_vesselAt x).toNatClampNeg))) (ai (a := 4) (b := 4 * (m_X7_vesselAt x).toNatClampNeg) rfl rfl (by omega)) ?_
        refine lv_iconst (v := 3) hx hb dX7_skims_45 (by decide) ?_
        refine lv_iadd hx hb dX7_skims_46 ?_
        refine tope (y := (nI (7 + 4 * (m_X7_vesselAt x).toNatClampNeg))) (ai (a := 4 + 4 * (m_X7_vesselAt x).toNatClampNeg) (b := 3) rfl rfl (by omega)) ?_
        refine ml_st (n := 7 + 4 * (m_X7_vesselAt x).toNatClampNeg) cx wo rfl (by omega) dX7_skims_47 ?_
        refine lv_aload_n hx hb dX7_skims_48 rfl (lv_at hl 1 rfl) ?_
        refine lv_iload_n hx hb dX7_skims_49 rfl (lv_at hl 2 rfl) ?_
        refine call_V (As := [.int (nI d)]) (rest := [.int (g (7 + 4 * (m_X7_vesselAt x).toNatClampNeg))]) (fun X => X) Fr_id cx (c_X7_room l G am _ _ _ (d := d) (by omega)) fx_X7_room m_722 m_724 m_30 ⟨by decide, by decide⟩ wo (k := 0) rfl rfl rfl rfl hl.1 rfl (Nat.le_of_ble_eq_true rfl) dX7_skims_50 ⟨by decide, by decide⟩ (fun v W1 H locs hp wo => ?_)
        obtain ⟨rfl, rfl⟩ := hp
        refine nrm_i ?_
        have hj_8 : ∀ (H : Heap) (locs : List Loc) (ls : Array Slot), Wo G A s.heap H locs (mw G am g kf nk) → lv_has ls 5 [(3, .int (m_X7_vesselAt x)), (0, .ref (am 0)), (1, .int (nI d)), (2, .int x)] → W p l e rm_X7_skims s m args below meth c H locs 0 0 Q (F0 m 76 ls [.int (if (m_X7_room g d) ≤ (g (7 + 4 * (m_X7_vesselAt x).toNatClampNeg)) then (m_X7_room g d) else (g (7 + 4 * (m_X7_vesselAt x).toNatClampNeg)))]) := by
          intro H locs ls wo hl
          refine lv_istore (lv' := [(4, .int (if (m_X7_room g d) ≤ (g (7 + 4 * (m_X7_vesselAt x).toNatClampNeg)) then (m_X7_room g d) else (g (7 + 4 * (m_X7_vesselAt x).toNatClampNeg)))), (3, .int (m_X7_vesselAt x)), (0, .ref (am 0)), (1, .int (nI d)), (2, .int x)]) hx hb dX7_skims_76 hl (by decide) rfl (fun ls hl => ?_)
          refine lv_iload hx hb dX7_skims_78 (lv_at hl 0 rfl) ?_
          refine lv_if_ne (tgt := 85) hx hb dX7_skims_80 (by decide) (fun c_9 => ?_) (fun c_9 => ?_)
          · skip
            rw [if_neg c_9] at hM
            refine lv_aload_n hx hb dX7_skims_85 rfl (lv_at hl 2 rfl) ?_
            refine lv_iconst (v := 4) hx hb dX7_skims_86 (by decide) ?_
            refine lv_iconst (v := 4) hx hb dX7_skims_87 (by decide) ?_
            refine lv_iload_n hx hb dX7_skims_88 rfl (lv_at hl 1 rfl) ?_
            refine tope (y := (nI ((m_X7_vesselAt x).toNatClampNeg))) q_2.1 ?_
            refine lv_imul hx hb dX7_skims_89 ?_
            refine tope (y := (nI (4 * (m_X7_vesselAt x).toNatClampNeg))) (mi (a := 4) (b := (m_X7_vesselAt x).toNatClampNeg) rfl rfl (by omega)) ?_
            refine lv_iadd hx hb dX7_skims_90 ?_
            refine tope (y := (nI (4 + 4 * (m_X7_vesselAt x).toNatClampNeg))) (ai (a := 4) (b := 4 * (m_X7_vesselAt x).toNatClampNeg) rfl rfl (by omega)) ?_
            refine lv_bipush (v := 16) hx hb dX7_skims_91 (by decide) ?_
            refine lv_iconst (v := 4) hx hb dX7_skims_93 (by decide) ?_
            refine lv_iload_n hx hb dX7_skims_94 rfl (lv_at hl 3 rfl) ?_
            refine lv_imul hx hb dX7_skims_95 ?_
            refine tope (y := (nI (4 * d))) (mi (a := 4) (b := d) rfl rfl (by omega)) ?_
            refine lv_iadd hx hb dX7_skims_96 ?_
            refine tope (y := (nI (16 + 4 * d))) (ai (a := 16) (b := 4 * d) rfl rfl (by omega)) ?_
            refine lv_iconst (v := 3) hx hb dX7_skims_97 (by decide) ?_
            refine lv_iload hx hb dX7_skims_98 (lv_at hl 0 rfl) ?_
            refine call_V (As := [.int (nI (4 + 4 * (m_X7_vesselAt x).toNatClampNeg)), .int (nI (16 + 4 * d)), .int 3, .int (if (m_X7_room g d) ≤ (g (7 + 4 * (m_X7_vesselAt x).toNatClampNeg)) then (m_X7_room g d) else (g (7 + 4 * (m_X7_vesselAt x).toNatClampNeg)))]) (rest := []) (fun X => X) Fr_id cx (c_X7_moves_i l G am _ _ _ (a := 4 + 4 * (m_X7_vesselAt x).toNatClampNeg) (by omega) (b := 16 + 4 * d) (by omega) (k := 3) (by omega) (i := 7 + 4 * (m_X7_vesselAt x).toNatClampNeg) (by omega) (j := 19 + 4 * d) (by omega) (if (m_X7_room g d) ≤ (g (7 + 4 * (m_X7_vesselAt x).toNatClampNeg)) then (m_X7_room g d) else (g (7 + 4 * (m_X7_vesselAt x).toNatClampNeg)))) fx_X7_moves m_726 m_728 m_31 ⟨by decide, by decide⟩ wo (k := 0) rfl rfl rfl rfl hl.1 rfl (Nat.le_of_ble_eq_true rfl) dX7_skims_100 ⟨by decide, by decide⟩ (fun v W1 H locs hp wo => ?_)
            obtain ⟨rfl, rfl⟩ := hp
            rw [show (upd (upd g (7 + 4 * (m_X7_vesselAt x).toNatClampNeg) (g (7 + 4 * (m_X7_vesselAt x).toNatClampNeg) - (if (m_X7_room g d) ≤ (g (7 + 4 * (m_X7_vesselAt x).toNatClampNeg)) then (m_X7_room g d) else (g (7 + 4 * (m_X7_vesselAt x).toNatClampNeg))))) (19 + 4 * d) ((upd g (7 + 4 * (m_X7_vesselAt x).toNatClampNeg) (g (7 + 4 * (m_X7_vesselAt x).toNatClampNeg) - (if (m_X7_room g d) ≤ (g (7 + 4 * (m_X7_vesselAt x).toNatClampNeg)) then (m_X7_room g d) else (g (7 + 4 * (m_X7_vesselAt x).toNatClampNeg))))) (19 + 4 * d) + (if (m_X7_room g d) ≤ (g (7 + 4 * (m_X7_vesselAt x).toNatClampNeg)) then (m_X7_room g d) else (g (7 + 4 * (m_X7_vesselAt x).toNatClampNeg))))) = (upd (upd g (7 + 4 * (m_X7_vesselAt x).toNatClampNeg) ((g (7 + 4 * (m_X7_vesselAt x).toNatClampNeg)) - (if (m_X7_room g d) ≤ (g (7 + 4 * (m_X7_vesselAt x).toNatClampNeg)) then (m_X7_room g d) else (g (7 + 4 * (m_X7_vesselAt x).toNatClampNeg))))) (19 + 4 * d) ((g (19 + 4 * d)) + (if (m_X7_room g d) ≤ (g (7 + 4 * (m_X7_vesselAt x).toNatClampNeg)) then (m_X7_room g d) else (g (7 + 4 * (m_X7_vesselAt x).toNatClampNeg))))) from by simp (disch := omega) only [pk_un, pk_us]] at wo
            refine nrm_v ?_
            refine lv_aload_n hx hb dX7_skims_103 rfl (lv_at hl 2 rfl) ?_
            refine mg_st cx wo m_631 dX7_skims_104 ?_
            refine lv_bipush (v := 96) hx hb dX7_skims_107 (by decide) ?_
            refine lv_iload_n hx hb dX7_skims_109 rfl (lv_at hl 3 rfl) ?_
            refine lv_iadd hx hb dX7_skims_110 ?_
            refine tope (y := (nI (96 + d))) (ai (a := 96) (b := d) rfl rfl (by omega)) ?_
            refine lv_iconst (v := 2) hx hb dX7_skims_111 (by decide) ?_
            refine ms_st (n := 96 + d) cx wo rfl (by omega) dX7_skims_112 (fun H locs gz hgz wo => ?_)
            subst hgz
            refine lv_iconst (v := 1) hx hb dX7_skims_113 (by decide) ?_
            refine tope (y := bi true) rfl ?_
            exact r2_z cx hQ wo dX7_skims_114 (by subst hM; exact ⟨rfl, rfl⟩)
          · skip
            rw [if_pos c_9] at hM
            refine lv_iconst (v := 0) hx hb dX7_skims_83 (by decide) ?_
            refine tope (y := bi false) rfl ?_
            exact r2_z cx hQ wo dX7_skims_84 (by subst hM; exact ⟨rfl, rfl⟩)
        refine lv_icmp_ge (tgt := 71) hx hb dX7_skims_53 (by decide) (fun c_10 => ?_) (fun c_10 => ?_)
        · skip
          refine lv_aload_n hx hb dX7_skims_71 rfl (lv_at hl 1 rfl) ?_
          refine lv_iload_n hx hb dX7_skims_72 rfl (lv_at hl 2 rfl) ?_
          refine call_V (As := [.int (nI d)]) (rest := []) (fun X => X) Fr_id cx (c_X7_room l G am _ _ _ (d := d) (by omega)) fx_X7_room m_722 m_724 m_30 ⟨by decide, by decide⟩ wo (k := 0) rfl rfl rfl rfl hl.1 rfl (Nat.le_of_ble_eq_true rfl) dX7_skims_73 ⟨by decide, by decide⟩ (fun v W1 H locs hp wo => ?_)
          obtain ⟨rfl, rfl⟩ := hp
          refine nrm_i ?_
          rw [if_pos c_10] at hj_8
          exact hj_8 _ _ _ wo (lv_sub hl [0, 1, 2, 3] rfl)
        · skip
          refine lv_aload_n hx hb dX7_skims_56 rfl (lv_at hl 1 rfl) ?_
          refine mg_st cx wo m_631 dX7_skims_57 ?_
          refine lv_iconst (v := 4) hx hb dX7_skims_60 (by decide) ?_
          refine lv_iconst (v := 4) hx hb dX7_skims_61 (by decide) ?_
          refine lv_iload_n hx hb dX7_skims_62 rfl (lv_at hl 0 rfl) ?_
          refine tope (y := (nI ((m_X7_vesselAt x).toNatClampNeg))) q_2.1 ?_
          refine lv_imul hx hb dX7_skims_63 ?_
          refine tope (y := (nI (4 * (m_X7_vesselAt x).toNatClampNeg))) (mi (a := 4) (b := (m_X7_vesselAt x).toNatClampNeg) rfl rfl (by omega)) ?_
          refine lv_iadd hx hb dX7_skims_64 ?_
          refine tope (y := (nI (4 + 4 * (m_X7_vesselAt x).toNatClampNeg))) (ai (a := 4) (b := 4 * (m_X7_vesselAt x).toNatClampNeg) rfl rfl (by omega)) ?_
          refine lv_iconst (v := 3) hx hb dX7_skims_65 (by decide) ?_
          refine lv_iadd hx hb dX7_skims_66 ?_
          refine tope (y := (nI (7 + 4 * (m_X7_vesselAt x).toNatClampNeg))) (ai (a := 4 + 4 * (m_X7_vesselAt x).toNatClampNeg) (b := 3) rfl rfl (by omega)) ?_
          refine ml_st (n := 7 + 4 * (m_X7_vesselAt x).toNatClampNeg) cx wo rfl (by omega) dX7_skims_67 ?_
          refine lv_goto (tgt := 76) hx hb dX7_skims_68 (by decide) ?_
          rw [if_neg c_10] at hj_8
          exact hj_8 _ _ _ wo (lv_sub hl [0, 1, 2, 3] rfl)
      · skip
        rw [if_neg c_7] at hM
        refine lv_iconst (v := 0) hx hb dX7_skims_34 (by decide) ?_
        refine tope (y := bi false) rfl ?_
        exact r2_z cx hQ wo dX7_skims_35 (by subst hM; exact ⟨rfl, rfl⟩)
abbrev rm_X7_draws : Room := { frames := 2, cells := 0, slots := 0, locals := 42 }
def m_X7_draws (g : St) (d : Nat) (x : Int32) : Bool × St :=
  if (m_X7_vesselAt x) < 0 then (false, g)
  else if (g (96 + d)) = 0 then (if (g (79 + (m_X7_vesselAt x).toNatClampNeg)) = 1 then (false, g)
    else if (g (4 + 4 * (m_X7_vesselAt x).toNatClampNeg)) = 0 then (false, g)
    else if (g (4 + 4 * (m_X7_vesselAt x).toNatClampNeg)) = (m_X7_sum g (4 + 4 * (m_X7_vesselAt x).toNatClampNeg)) then (true, (upd (upd (upd g (4 + 4 * (m_X7_vesselAt x).toNatClampNeg) ((g (4 + 4 * (m_X7_vesselAt x).toNatClampNeg)) - (if (m_X7_room g d) ≤ (g (4 + 4 * (m_X7_vesselAt x).toNatClampNeg)) then (m_X7_room g d) else (g (4 + 4 * (m_X7_vesselAt x).toNatClampNeg))))) (16 + 4 * d) ((g (16 + 4 * d)) + (if (m_X7_room g d) ≤ (g (4 + 4 * (m_X7_vesselAt x).toNatClampNeg)) then (m_X7_room g d) else (g (4 + 4 * (m_X7_vesselAt x).toNatClampNeg))))) (96 + d) 3))
    else (false, g))
  else (false, g)
set_option maxHeartbeats 4000000 in
set_option maxRecDepth 100000 in
theorem c_X7_draws (l : Launch) (G : GG) (am : Nat → Nat) (g kf : St) (nk : Int32) {d : Nat} (hd : d < 4) (x : Int32) : Ct l G yX7_draws cX7_draws 5 (some Jvm.ClassFile.FieldType.boolean) rm_X7_draws [.ref (am 0), .int (nI d), .int x] (mw G am g kf nk) (fun rv W1 => rv = some (.int (bi (m_X7_draws g d x).1)) ∧ W1 = mw G am (m_X7_draws g d x).2 kf nk) := by
  refine Ct.mk2 (by decide) (Nat.le_of_ble_eq_true rfl) ?_
  intro p e s m args below meth c A H locs ls Q cx wo hl hQ
  obtain ⟨hx, hb, hml, hr, hlo, hown, hts, hnm, kn, hA⟩ := id cx
  have hl : lv_has ls 5 [(0, .ref (am 0)), (1, .int (nI d)), (2, .int x)] := hl
  generalize hM : m_X7_draws g d x = M at hQ
  unfold m_X7_draws at hM
  refine lv_iload_n hx hb dX7_draws_0 rfl (lv_at hl 2 rfl) ?_
  refine call_S (As := [.int x]) (rest := []) (fun X => X) Fr_id cx (c_X7_vesselAt l G _ x) fx_X7_vesselAt m_715 m_716 ⟨by decide, by decide⟩ wo rfl hl.1 rfl (Nat.le_of_ble_eq_true rfl) dX7_draws_1 ⟨by decide, by decide⟩ (fun v W1 H locs hp wo => ?_)
  obtain ⟨rfl, rfl⟩ := hp
  refine nrm_i ?_
  refine lv_istore_n (lv' := [(3, .int (m_X7_vesselAt x)), (0, .ref (am 0)), (1, .int (nI d)), (2, .int x)]) hx hb dX7_draws_4 rfl hl (by decide) rfl (fun ls hl => ?_)
  refine lv_iload_n hx hb dX7_draws_5 rfl (lv_at hl 0 rfl) ?_
  refine lv_if_lt (tgt := 34) hx hb dX7_draws_6 (by decide) (fun c_1 => ?_) (fun c_1 => ?_)
  · skip
    rw [if_pos c_1] at hM
    refine lv_iconst (v := 0) hx hb dX7_draws_34 (by decide) ?_
    refine tope (y := bi false) rfl ?_
    exact r2_z cx hQ wo dX7_draws_35 (by subst hM; exact ⟨rfl, rfl⟩)
  · skip
    rw [if_neg c_1] at hM
    have q_2 := m_X7_vesselAt_n c_1
    have q_2b := q_2.2
    refine lv_aload_n hx hb dX7_draws_9 rfl (lv_at hl 1 rfl) ?_
    refine mg_st cx wo m_631 dX7_draws_10 ?_
    refine lv_bipush (v := 96) hx hb dX7_draws_13 (by decide) ?_
    refine lv_iload_n hx hb dX7_draws_15 rfl (lv_at hl 2 rfl) ?_
    refine lv_iadd hx hb dX7_draws_16 ?_
    refine tope (y := (nI (96 + d))) (ai (a := 96) (b := d) rfl rfl (by omega)) ?_
    refine ml_st (n := 96 + d) cx wo rfl (by omega) dX7_draws_17 ?_
    refine lv_if_ne (tgt := 34) hx hb dX7_draws_18 (by decide) (fun c_3 => ?_) (fun c_3 => ?_)
    · skip
      rw [if_neg c_3] at hM
      refine lv_iconst (v := 0) hx hb dX7_draws_34 (by decide) ?_
      refine tope (y := bi false) rfl ?_
      exact r2_z cx hQ wo dX7_draws_35 (by subst hM; exact ⟨rfl, rfl⟩)
    · skip
      rw [if_pos c_3] at hM
      refine lv_aload_n hx hb dX7_draws_21 rfl (lv_at hl 1 rfl) ?_
      refine mg_st cx wo m_631 dX7_draws_22 ?_
      refine lv_bipush (v := 79) hx hb dX7_draws_25 (by decide) ?_
      refine lv_iload_n hx hb dX7_draws_27 rfl (lv_at hl 0 rfl) ?_
      refine tope (y := (nI ((m_X7_vesselAt x).toNatClampNeg))) q_2.1 ?_
      refine lv_iadd hx hb dX7_draws_28 ?_
      refine tope (y := (nI (79 + (m_X7_vesselAt x).toNatClampNeg))) (ai (a := 79) (b := (m_X7_vesselAt x).toNatClampNeg) rfl rfl (by omega)) ?_
      refine ml_st (n := 79 + (m_X7_vesselAt x).toNatClampNeg) cx wo rfl (by omega) dX7_draws_29 ?_
      refine lv_iconst (v := 1) hx hb dX7_draws_30 (by decide) ?_
      refine lv_icmp_ne (tgt := 36) hx hb dX7_draws_31 (by decide) (fun c_4 => ?_) (fun c_4 => ?_)
      · skip
        rw [if_neg c_4] at hM
        refine lv_aload_n hx hb dX7_draws_36 rfl (lv_at hl 1 rfl) ?_
        refine mg_st cx wo m_631 dX7_draws_37 ?_
        refine lv_iconst (v := 4) hx hb dX7_draws_40 (by decide) ?_
        refine lv_iconst (v := 4) hx hb dX7_draws_41 (by decide) ?_
        refine lv_iload_n hx hb dX7_draws_42 rfl (lv_at hl 0 rfl) ?_
        refine tope (y := (nI ((m_X7_vesselAt x).toNatClampNeg))) q_2.1 ?_
        refine lv_imul hx hb dX7_draws_43 ?_
        refine tope (y := (nI (4 * (m_X7_vesselAt x).toNatClampNeg))) (mi (a := 4) (b := (m_X7_vesselAt x).toNatClampNeg) rfl rfl (by omega)) ?_
        refine lv_iadd hx hb dX7_draws_44 ?_
        refine tope (y := (nI (4 + 4 * (m_X7_vesselAt x).toNatClampNeg))) (ai (a := 4) (b := 4 * (m_X7_vesselAt x).toNatClampNeg) rfl rfl (by omega)) ?_
        refine ml_st (n := 4 + 4 * (m_X7_vesselAt x).toNatClampNeg) cx wo rfl (by omega) dX7_draws_45 ?_
        refine lv_istore (lv' := [(4, .int (g (4 + 4 * (m_X7_vesselAt x).toNatClampNeg))), (3, .int (m_X7_vesselAt x)), (0, .ref (am 0)), (1, .int (nI d)), (2, .int x)]) hx hb dX7_draws_46 hl (by decide) rfl (fun ls hl => ?_)
        refine lv_iload hx hb dX7_draws_48 (lv_at hl 0 rfl) ?_
        refine lv_if_eq (tgt := 67) hx hb dX7_draws_50 (by decide) (fun c_5 => ?_) (fun c_5 => ?_)
        · skip
          rw [if_pos c_5] at hM
          refine lv_iconst (v := 0) hx hb dX7_draws_67 (by decide) ?_
          refine tope (y := bi false) rfl ?_
          exact r2_z cx hQ wo dX7_draws_68 (by subst hM; exact ⟨rfl, rfl⟩)
        · skip
          rw [if_neg c_5] at hM
          refine lv_iload hx hb dX7_draws_53 (lv_at hl 0 rfl) ?_
          refine lv_aload_n hx hb dX7_draws_55 rfl (lv_at hl 2 rfl) ?_
          refine lv_iconst (v := 4) hx hb dX7_draws_56 (by decide) ?_
          refine lv_iconst (v := 4) hx hb dX7_draws_57 (by decide) ?_
          refine lv_iload_n hx hb dX7_draws_58 rfl (lv_at hl 1 rfl) ?_
          refine tope (y := (nI ((m_X7_vesselAt x).toNatClampNeg))) q_2.1 ?_
          refine lv_imul hx hb dX7_draws_59 ?_
          refine tope (y := (nI (4 * (m_X7_vesselAt x).toNatClampNeg))) (mi (a := 4) (b := (m_X7_vesselAt x).toNatClampNeg) rfl rfl (by omega)) ?_
          refine lv_iadd hx hb dX7_draws_60 ?_
          refine tope (y := (nI (4 + 4 * (m_X7_vesselAt x).toNatClampNeg))) (ai (a := 4) (b := 4 * (m_X7_vesselAt x).toNatClampNeg) rfl rfl (by omega)) ?_
          refine call_V (As := [.int (nI (4 + 4 * (m_X7_vesselAt x).toNatClampNeg))]) (rest := [.int (g (4 + 4 * (m_X7_vesselAt x).toNatClampNeg))]) (fun X => X) Fr_id cx (c_X7_sum l G am _ _ _ (a := 4 + 4 * (m_X7_vesselAt x).toNatClampNeg) (by omega)) fx_X7_sum m_656 m_658 m_19 ⟨by decide, by decide⟩ wo (k := 0) rfl rfl rfl rfl hl.1 rfl (Nat.le_of_ble_eq_true rfl) dX7_draws_61 ⟨by decide, by decide⟩ (fun v W1 H locs hp wo => ?_)
          obtain ⟨rfl, rfl⟩ := hp
          refine nrm_i ?_
          refine lv_icmp_eq (tgt := 69) hx hb dX7_draws_64 (by decide) (fun c_6 => ?_) (fun c_6 => ?_)
          · skip
            rw [if_pos c_6] at hM
            refine lv_aload_n hx hb dX7_draws_69 rfl (lv_at hl 2 rfl) ?_
            refine lv_iconst (v := 4) hx hb dX7_draws_70 (by decide) ?_
            refine lv_iconst (v := 4) hx hb dX7_draws_71 (by decide) ?_
            refine lv_iload_n hx hb dX7_draws_72 rfl (lv_at hl 1 rfl) ?_
            refine tope (y := (nI ((m_X7_vesselAt x).toNatClampNeg))) q_2.1 ?_
            refine lv_imul hx hb dX7_draws_73 ?_
            refine tope (y := (nI (4 * (m_X7_vesselAt x).toNatClampNeg))) (mi (a := 4) (b := (m_X7_vesselAt x).toNatClampNeg) rfl rfl (by omega)) ?_
            refine lv_iadd hx hb dX7_draws_74 ?_
            refine tope (y := (nI (4 + 4 * (m_X7_vesselAt x).toNatClampNeg))) (ai (a := 4) (b := 4 * (m_X7_vesselAt x).toNatClampNeg) rfl rfl (by omega)) ?_
            refine lv_bipush (v := 16) hx hb dX7_draws_75 (by decide) ?_
            refine lv_iconst (v := 4) hx hb dX7_draws_77 (by decide) ?_
            refine lv_iload_n hx hb dX7_draws_78 rfl (lv_at hl 3 rfl) ?_
            refine lv_imul hx hb dX7_draws_79 ?_
            refine tope (y := (nI (4 * d))) (mi (a := 4) (b := d) rfl rfl (by omega)) ?_
            refine lv_iadd hx hb dX7_draws_80 ?_
            refine tope (y := (nI (16 + 4 * d))) (ai (a := 16) (b := 4 * d) rfl rfl (by omega)) ?_
            refine lv_iconst (v := 0) hx hb dX7_draws_81 (by decide) ?_
            refine lv_iload hx hb dX7_draws_82 (lv_at hl 0 rfl) ?_
            refine lv_aload_n hx hb dX7_draws_84 rfl (lv_at hl 2 rfl) ?_
            refine lv_iload_n hx hb dX7_draws_85 rfl (lv_at hl 3 rfl) ?_
            refine call_V (As := [.int (nI d)]) (rest := [.int (g (4 + 4 * (m_X7_vesselAt x).toNatClampNeg)), .int 0, .int (nI (16 + 4 * d)), .int (nI (4 + 4 * (m_X7_vesselAt x).toNatClampNeg)), .ref (am 0)]) (fun X => X) Fr_id cx (c_X7_room l G am _ _ _ (d := d) (by omega)) fx_X7_room m_722 m_724 m_30 ⟨by decide, by decide⟩ wo (k := 0) rfl rfl rfl rfl hl.1 rfl (Nat.le_of_ble_eq_true rfl) dX7_draws_86 ⟨by decide, by decide⟩ (fun v W1 H locs hp wo => ?_)
            obtain ⟨rfl, rfl⟩ := hp
            refine nrm_i ?_
            have hj_7 : ∀ (H : Heap) (locs : List Loc) (ls : Array Slot), Wo G A s.heap H locs (mw G am g kf nk) → lv_has ls 5 [(4, .int (g (4 + 4 * (m_X7_vesselAt x).toNatClampNeg))), (3, .int (m_X7_vesselAt x)), (0, .ref (am 0)), (1, .int (nI d)), (2, .int x)] → W p l e rm_X7_draws s m args below meth c H locs 0 0 Q (F0 m 102 ls [.int (if (m_X7_room g d) ≤ (g (4 + 4 * (m_X7_vesselAt x).toNatClampNeg)) then (m_X7_room g d) else (g (4 + 4 * (m_X7_vesselAt x).toNatClampNeg))), .int 0, .int (nI (16 + 4 * d)), .int (nI (4 + 4 * (m_X7_vesselAt x).toNatClampNeg)), .ref (am 0)]) := by
              intro H locs ls wo hl
              refine call_V (As := [.int (nI (4 + 4 * (m_X7_vesselAt x).toNatClampNeg)), .int (nI (16 + 4 * d)), .int 0, .int (if (m_X7_room g d) ≤ (g (4 + 4 * (m_X7_vesselAt x).toNatClampNeg)) then (m_X7_room g d) else (g (4 + 4 * (m_X7_vesselAt x).toNatClampNeg)))]) (rest := []) (fun X => X) Fr_id cx (c_X7_moves_i l G am _ _ _ (a := 4 + 4 * (m_X7_vesselAt x).toNatClampNeg) (by omega) (b := 16 + 4 * d) (by omega) (k := 0) (by omega) (i := 4 + 4 * (m_X7_vesselAt x).toNatClampNeg) (by omega) (j := 16 + 4 * d) (by omega) (if (m_X7_room g d) ≤ (g (4 + 4 * (m_X7_vesselAt x).toNatClampNeg)) then (m_X7_room g d) else (g (4 + 4 * (m_X7_vesselAt x).toNatClampNeg)))) fx_X7_moves m_726 m_728 m_31 ⟨by decide, by decide⟩ wo (k := 0) rfl rfl rfl rfl hl.1 rfl (Nat.le_of_ble_eq_true rfl) dX7_draws_102 ⟨by decide, by decide⟩ (fun v W1 H locs hp wo => ?_)
              obtain ⟨rfl, rfl⟩ := hp
              rw [show (upd (upd g (4 + 4 * (m_X7_vesselAt x).toNatClampNeg) (g (4 + 4 * (m_X7_vesselAt x).toNatClampNeg) - (if (m_X7_room g d) ≤ (g (4 + 4 * (m_X7_vesselAt x).toNatClampNeg)) then (m_X7_room g d) else (g (4 + 4 * (m_X7_vesselAt x).toNatClampNeg))))) (16 + 4 * d) ((upd g (4 + 4 * (m_X7_vesselAt x).toNatClampNeg) (g (4 + 4 * (m_X7_vesselAt x).toNatClampNeg) - (if (m_X7_room g d) ≤ (g (4 + 4 * (m_X7_vesselAt x).toNatClampNeg)) then (m_X7_room g d) else (g (4 + 4 * (m_X7_vesselAt x).toNatClampNeg))))) (16 + 4 * d) + (if (m_X7_room g d) ≤ (g (4 + 4 * (m_X7_vesselAt x).toNatClampNeg)) then (m_X7_room g d) else (g (4 + 4 * (m_X7_vesselAt x).toNatClampNeg))))) = (upd (upd g (4 + 4 * (m_X7_vesselAt x).toNatClampNeg) ((g (4 + 4 * (m_X7_vesselAt x).toNatClampNeg)) - (if (m_X7_room g d) ≤ (g (4 + 4 * (m_X7_vesselAt x).toNatClampNeg)) then (m_X7_room g d) else (g (4 + 4 * (m_X7_vesselAt x).toNatClampNeg))))) (16 + 4 * d) ((g (16 + 4 * d)) + (if (m_X7_room g d) ≤ (g (4 + 4 * (m_X7_vesselAt x).toNatClampNeg)) then (m_X7_room g d) else (g (4 + 4 * (m_X7_vesselAt x).toNatClampNeg))))) from by simp (disch := omega) only [pk_un, pk_us]] at wo
              refine nrm_v ?_
              refine lv_aload_n hx hb dX7_draws_105 rfl (lv_at hl 2 rfl) ?_
              refine mg_st cx wo m_631 dX7_draws_106 ?_
              refine lv_bipush (v := 96) hx hb dX7_draws_109 (by decide) ?_
              refine lv_iload_n hx hb dX7_draws_111 rfl (lv_at hl 3 rfl) ?_
              refine lv_iadd hx hb dX7_draws_112 ?_
              refine tope (y := (nI (96 + d))) (ai (a := 96) (b := d) rfl rfl (by omega)) ?_
              refine lv_iconst (v := 3) hx hb dX7_draws_113 (by decide) ?_
              refine ms_st (n := 96 + d) cx wo rfl (by omega) dX7_draws_114 (fun H locs gz hgz wo => ?_)
              subst hgz
              refine lv_iconst (v := 1) hx hb dX7_draws_115 (by decide) ?_
              refine tope (y := bi true) rfl ?_
              exact r2_z cx hQ wo dX7_draws_116 (by subst hM; exact ⟨rfl, rfl⟩)
            refine lv_icmp_ge (tgt := 97) hx hb dX7_draws_89 (by decide) (fun c_8 => ?_) (fun c_8 => ?_)
            · skip
              refine lv_aload_n hx hb dX7_draws_97 rfl (lv_at hl 2 rfl) ?_
              refine lv_iload_n hx hb dX7_draws_98 rfl (lv_at hl 3 rfl) ?_
              refine call_V (As := [.int (nI d)]) (rest := [.int 0, .int (nI (16 + 4 * d)), .int (nI (4 + 4 * (m_X7_vesselAt x).toNatClampNeg)), .ref (am 0)]) (fun X => X) Fr_id cx (c_X7_room l G am _ _ _ (d := d) (by omega)) fx_X7_room m_722 m_724 m_30 ⟨by decide, by decide⟩ wo (k := 0) rfl rfl rfl rfl hl.1 rfl (Nat.le_of_ble_eq_true rfl) dX7_draws_99 ⟨by decide, by decide⟩ (fun v W1 H locs hp wo => ?_)
              obtain ⟨rfl, rfl⟩ := hp
              refine nrm_i ?_
              rw [if_pos c_8] at hj_7
              exact hj_7 _ _ _ wo (lv_sub hl [0, 1, 2, 3, 4] rfl)
            · skip
              refine lv_iload hx hb dX7_draws_92 (lv_at hl 0 rfl) ?_
              refine lv_goto (tgt := 102) hx hb dX7_draws_94 (by decide) ?_
              rw [if_neg c_8] at hj_7
              exact hj_7 _ _ _ wo (lv_sub hl [0, 1, 2, 3, 4] rfl)
          · skip
            rw [if_neg c_6] at hM
            refine lv_iconst (v := 0) hx hb dX7_draws_67 (by decide) ?_
            refine tope (y := bi false) rfl ?_
            exact r2_z cx hQ wo dX7_draws_68 (by subst hM; exact ⟨rfl, rfl⟩)
      · skip
        rw [if_pos c_4] at hM
        refine lv_iconst (v := 0) hx hb dX7_draws_34 (by decide) ?_
        refine tope (y := bi false) rfl ?_
        exact r2_z cx hQ wo dX7_draws_35 (by subst hM; exact ⟨rfl, rfl⟩)
abbrev rm_X7_cleans : Room := { frames := 1, cells := 0, slots := 0, locals := 24 }
def m_X7_cleans (g : St) (d : Nat) (x : Int32) : Bool × St :=
  if x = 1 then (if (g (96 + d)) = 0 then (if (m_X7_sum g (32 + 4 * d)) = 0 then (false, g)
      else (true, (upd (upd (upd (upd (upd (upd (upd (upd g (32 + 4 * d) ((g (32 + 4 * d)) - (g (32 + 4 * d)))) 60 ((g 60) + (g (32 + 4 * d)))) (33 + 4 * d) ((g (33 + 4 * d)) - (g (33 + 4 * d)))) 61 ((g 61) + (g (33 + 4 * d)))) (34 + 4 * d) ((g (34 + 4 * d)) - (g (34 + 4 * d)))) 62 ((g 62) + (g (34 + 4 * d)))) (35 + 4 * d) ((g (35 + 4 * d)) - (g (35 + 4 * d)))) 63 ((g 63) + (g (35 + 4 * d))))))
    else (false, g))
  else if x = 14 then (if (g (96 + d)) = 0 then (if (m_X7_sum g (32 + 4 * d)) = 0 then (false, g)
      else (true, (upd (upd (upd (upd (upd (upd (upd (upd g (32 + 4 * d) ((g (32 + 4 * d)) - (g (32 + 4 * d)))) 60 ((g 60) + (g (32 + 4 * d)))) (33 + 4 * d) ((g (33 + 4 * d)) - (g (33 + 4 * d)))) 61 ((g 61) + (g (33 + 4 * d)))) (34 + 4 * d) ((g (34 + 4 * d)) - (g (34 + 4 * d)))) 62 ((g 62) + (g (34 + 4 * d)))) (35 + 4 * d) ((g (35 + 4 * d)) - (g (35 + 4 * d)))) 63 ((g 63) + (g (35 + 4 * d))))))
    else (false, g))
  else (false, g)
set_option maxHeartbeats 4000000 in
set_option maxRecDepth 100000 in
theorem c_X7_cleans (l : Launch) (G : GG) (am : Nat → Nat) (g kf : St) (nk : Int32) {d : Nat} (hd : d < 4) (x : Int32) : Ct l G yX7_cleans cX7_cleans 4 (some Jvm.ClassFile.FieldType.boolean) rm_X7_cleans [.ref (am 0), .int (nI d), .int x] (mw G am g kf nk) (fun rv W1 => rv = some (.int (bi (m_X7_cleans g d x).1)) ∧ W1 = mw G am (m_X7_cleans g d x).2 kf nk) := by
  refine Ct.mk2 (by decide) (Nat.le_of_ble_eq_true rfl) ?_
  intro p e s m args below meth c A H locs ls Q cx wo hl hQ
  obtain ⟨hx, hb, hml, hr, hlo, hown, hts, hnm, kn, hA⟩ := id cx
  have hl : lv_has ls 4 [(0, .ref (am 0)), (1, .int (nI d)), (2, .int x)] := hl
  generalize hM : m_X7_cleans g d x = M at hQ
  unfold m_X7_cleans at hM
  refine lv_iload_n hx hb dX7_cleans_0 rfl (lv_at hl 2 rfl) ?_
  refine lv_iconst (v := 1) hx hb dX7_cleans_1 (by decide) ?_
  refine lv_icmp_eq (tgt := 11) hx hb dX7_cleans_2 (by decide) (fun c_1 => ?_) (fun c_1 => ?_)
  · skip
    rw [if_pos c_1] at hM
    refine lv_aload_n hx hb dX7_cleans_11 rfl (lv_at hl 0 rfl) ?_
    refine mg_st cx wo m_631 dX7_cleans_12 ?_
    refine lv_bipush (v := 96) hx hb dX7_cleans_15 (by decide) ?_
    refine lv_iload_n hx hb dX7_cleans_17 rfl (lv_at hl 1 rfl) ?_
    refine lv_iadd hx hb dX7_cleans_18 ?_
    refine tope (y := (nI (96 + d))) (ai (a := 96) (b := d) rfl rfl (by omega)) ?_
    refine ml_st (n := 96 + d) cx wo rfl (by omega) dX7_cleans_19 ?_
    refine lv_if_ne (tgt := 36) hx hb dX7_cleans_20 (by decide) (fun c_2 => ?_) (fun c_2 => ?_)
    · skip
      rw [if_neg c_2] at hM
      refine lv_iconst (v := 0) hx hb dX7_cleans_36 (by decide) ?_
      refine tope (y := bi false) rfl ?_
      exact r2_z cx hQ wo dX7_cleans_37 (by subst hM; exact ⟨rfl, rfl⟩)
    · skip
      rw [if_pos c_2] at hM
      refine lv_aload_n hx hb dX7_cleans_23 rfl (lv_at hl 0 rfl) ?_
      refine lv_bipush (v := 32) hx hb dX7_cleans_24 (by decide) ?_
      refine lv_iconst (v := 4) hx hb dX7_cleans_26 (by decide) ?_
      refine lv_iload_n hx hb dX7_cleans_27 rfl (lv_at hl 1 rfl) ?_
      refine lv_imul hx hb dX7_cleans_28 ?_
      refine tope (y := (nI (4 * d))) (mi (a := 4) (b := d) rfl rfl (by omega)) ?_
      refine lv_iadd hx hb dX7_cleans_29 ?_
      refine tope (y := (nI (32 + 4 * d))) (ai (a := 32) (b := 4 * d) rfl rfl (by omega)) ?_
      refine call_V (As := [.int (nI (32 + 4 * d))]) (rest := []) (fun X => X) Fr_id cx (c_X7_sum l G am _ _ _ (a := 32 + 4 * d) (by omega)) fx_X7_sum m_656 m_658 m_19 ⟨by decide, by decide⟩ wo (k := 0) rfl rfl rfl rfl hl.1 rfl (Nat.le_of_ble_eq_true rfl) dX7_cleans_30 ⟨by decide, by decide⟩ (fun v W1 H locs hp wo => ?_)
      obtain ⟨rfl, rfl⟩ := hp
      refine nrm_i ?_
      refine lv_if_ne (tgt := 38) hx hb dX7_cleans_33 (by decide) (fun c_3 => ?_) (fun c_3 => ?_)
      · skip
        rw [if_neg c_3] at hM
        refine lv_iconst (v := 0) hx hb dX7_cleans_38 (by decide) ?_
        refine lv_istore_n (lv' := [(3, .int 0), (0, .ref (am 0)), (1, .int (nI d)), (2, .int x)]) hx hb dX7_cleans_39 rfl hl (by decide) rfl (fun ls hl => ?_)
        refine lv_iload_n hx hb dX7_cleans_40 rfl (lv_at hl 0 rfl) ?_
        refine lv_iconst (v := 4) hx hb dX7_cleans_41 (by decide) ?_
        refine lv_icmp_ge (tgt := 77) hx hb dX7_cleans_42 (by decide) (fun h => absurd h (by decide)) (fun _ => ?_)
        refine lv_aload_n hx hb dX7_cleans_45 rfl (lv_at hl 1 rfl) ?_
        refine lv_bipush (v := 32) hx hb dX7_cleans_46 (by decide) ?_
        refine lv_iconst (v := 4) hx hb dX7_cleans_48 (by decide) ?_
        refine lv_iload_n hx hb dX7_cleans_49 rfl (lv_at hl 2 rfl) ?_
        refine lv_imul hx hb dX7_cleans_50 ?_
        refine tope (y := (nI (4 * d))) (mi (a := 4) (b := d) rfl rfl (by omega)) ?_
        refine lv_iadd hx hb dX7_cleans_51 ?_
        refine tope (y := (nI (32 + 4 * d))) (ai (a := 32) (b := 4 * d) rfl rfl (by omega)) ?_
        refine lv_bipush (v := 60) hx hb dX7_cleans_52 (by decide) ?_
        refine lv_iload_n hx hb dX7_cleans_54 rfl (lv_at hl 0 rfl) ?_
        refine lv_aload_n hx hb dX7_cleans_55 rfl (lv_at hl 1 rfl) ?_
        refine mg_st cx wo m_631 dX7_cleans_56 ?_
        refine lv_bipush (v := 32) hx hb dX7_cleans_59 (by decide) ?_
        refine lv_iconst (v := 4) hx hb dX7_cleans_61 (by decide) ?_
        refine lv_iload_n hx hb dX7_cleans_62 rfl (lv_at hl 2 rfl) ?_
        refine lv_imul hx hb dX7_cleans_63 ?_
        refine tope (y := (nI (4 * d))) (mi (a := 4) (b := d) rfl rfl (by omega)) ?_
        refine lv_iadd hx hb dX7_cleans_64 ?_
        refine tope (y := (nI (32 + 4 * d))) (ai (a := 32) (b := 4 * d) rfl rfl (by omega)) ?_
        refine lv_iload_n hx hb dX7_cleans_65 rfl (lv_at hl 0 rfl) ?_
        refine lv_iadd hx hb dX7_cleans_66 ?_
        refine tope (y := (nI (32 + 4 * d))) (ai (a := 32 + 4 * d) (b := 0) rfl rfl (by omega)) ?_
        refine ml_st (n := 32 + 4 * d) cx wo rfl (by omega) dX7_cleans_67 ?_
        refine call_V (As := [.int (nI (32 + 4 * d)), .int 60, .int 0, .int (g (32 + 4 * d))]) (rest := []) (fun X => X) Fr_id cx (c_X7_moves_i l G am _ _ _ (a := 32 + 4 * d) (by omega) (b := 60) (by omega) (k := 0) (by omega) (i := 32 + 4 * d) (by omega) (j := 60) (by omega) (g (32 + 4 * d))) fx_X7_moves m_726 m_728 m_31 ⟨by decide, by decide⟩ wo (k := 0) rfl rfl rfl rfl hl.1 rfl (Nat.le_of_ble_eq_true rfl) dX7_cleans_68 ⟨by decide, by decide⟩ (fun v W1 H locs hp wo => ?_)
        obtain ⟨rfl, rfl⟩ := hp
        rw [show (upd (upd g (32 + 4 * d) (g (32 + 4 * d) - (g (32 + 4 * d)))) 60 ((upd g (32 + 4 * d) (g (32 + 4 * d) - (g (32 + 4 * d)))) 60 + (g (32 + 4 * d)))) = (upd (upd g (32 + 4 * d) ((g (32 + 4 * d)) - (g (32 + 4 * d)))) 60 ((g 60) + (g (32 + 4 * d)))) from by simp (disch := omega) only [pk_un, pk_us]] at wo
        refine nrm_v ?_
        refine lv_iinc (v := 1) (lv' := [(3, .int 1), (0, .ref (am 0)), (1, .int (nI d)), (2, .int x)]) hx hb dX7_cleans_71 hl (k := 0) rfl (by decide) (by decide) rfl (fun ls hl => ?_)
        refine lv_goto (tgt := 40) hx hb dX7_cleans_74 (by decide) ?_
        refine lv_iload_n hx hb dX7_cleans_40 rfl (lv_at hl 0 rfl) ?_
        refine lv_iconst (v := 4) hx hb dX7_cleans_41 (by decide) ?_
        refine lv_icmp_ge (tgt := 77) hx hb dX7_cleans_42 (by decide) (fun h => absurd h (by decide)) (fun _ => ?_)
        refine lv_aload_n hx hb dX7_cleans_45 rfl (lv_at hl 1 rfl) ?_
        refine lv_bipush (v := 32) hx hb dX7_cleans_46 (by decide) ?_
        refine lv_iconst (v := 4) hx hb dX7_cleans_48 (by decide) ?_
        refine lv_iload_n hx hb dX7_cleans_49 rfl (lv_at hl 2 rfl) ?_
        refine lv_imul hx hb dX7_cleans_50 ?_
        refine tope (y := (nI (4 * d))) (mi (a := 4) (b := d) rfl rfl (by omega)) ?_
        refine lv_iadd hx hb dX7_cleans_51 ?_
        refine tope (y := (nI (32 + 4 * d))) (ai (a := 32) (b := 4 * d) rfl rfl (by omega)) ?_
        refine lv_bipush (v := 60) hx hb dX7_cleans_52 (by decide) ?_
        refine lv_iload_n hx hb dX7_cleans_54 rfl (lv_at hl 0 rfl) ?_
        refine lv_aload_n hx hb dX7_cleans_55 rfl (lv_at hl 1 rfl) ?_
        refine mg_st cx wo m_631 dX7_cleans_56 ?_
        refine lv_bipush (v := 32) hx hb dX7_cleans_59 (by decide) ?_
        refine lv_iconst (v := 4) hx hb dX7_cleans_61 (by decide) ?_
        refine lv_iload_n hx hb dX7_cleans_62 rfl (lv_at hl 2 rfl) ?_
        refine lv_imul hx hb dX7_cleans_63 ?_
        refine tope (y := (nI (4 * d))) (mi (a := 4) (b := d) rfl rfl (by omega)) ?_
        refine lv_iadd hx hb dX7_cleans_64 ?_
        refine tope (y := (nI (32 + 4 * d))) (ai (a := 32) (b := 4 * d) rfl rfl (by omega)) ?_
        refine lv_iload_n hx hb dX7_cleans_65 rfl (lv_at hl 0 rfl) ?_
        refine lv_iadd hx hb dX7_cleans_66 ?_
        refine tope (y := (nI (33 + 4 * d))) (ai (a := 32 + 4 * d) (b := 1) rfl rfl (by omega)) ?_
        refine ml_st (n := 33 + 4 * d) cx wo rfl (by omega) dX7_cleans_67 ?_
        refine tope (y := (g (33 + 4 * d))) (show (upd (upd g (32 + 4 * d) ((g (32 + 4 * d)) - (g (32 + 4 * d)))) 60 ((g 60) + (g (32 + 4 * d)))) (33 + 4 * d) = (g (33 + 4 * d)) from (rdN (by omega) (rdN (by omega) rfl))) ?_
        refine call_V (As := [.int (nI (32 + 4 * d)), .int 60, .int 1, .int (g (33 + 4 * d))]) (rest := []) (fun X => X) Fr_id cx (c_X7_moves_i l G am _ _ _ (a := 32 + 4 * d) (by omega) (b := 60) (by omega) (k := 1) (by omega) (i := 33 + 4 * d) (by omega) (j := 61) (by omega) (g (33 + 4 * d))) fx_X7_moves m_726 m_728 m_31 ⟨by decide, by decide⟩ wo (k := 0) rfl rfl rfl rfl hl.1 rfl (Nat.le_of_ble_eq_true rfl) dX7_cleans_68 ⟨by decide, by decide⟩ (fun v W1 H locs hp wo => ?_)
        obtain ⟨rfl, rfl⟩ := hp
        rw [show (upd (upd (upd (upd g (32 + 4 * d) ((g (32 + 4 * d)) - (g (32 + 4 * d)))) 60 ((g 60) + (g (32 + 4 * d)))) (33 + 4 * d) ((upd (upd g (32 + 4 * d) ((g (32 + 4 * d)) - (g (32 + 4 * d)))) 60 ((g 60) + (g (32 + 4 * d)))) (33 + 4 * d) - (g (33 + 4 * d)))) 61 ((upd (upd (upd g (32 + 4 * d) ((g (32 + 4 * d)) - (g (32 + 4 * d)))) 60 ((g 60) + (g (32 + 4 * d)))) (33 + 4 * d) ((upd (upd g (32 + 4 * d) ((g (32 + 4 * d)) - (g (32 + 4 * d)))) 60 ((g 60) + (g (32 + 4 * d)))) (33 + 4 * d) - (g (33 + 4 * d)))) 61 + (g (33 + 4 * d)))) = (upd (upd (upd (upd g (32 + 4 * d) ((g (32 + 4 * d)) - (g (32 + 4 * d)))) 60 ((g 60) + (g (32 + 4 * d)))) (33 + 4 * d) ((g (33 + 4 * d)) - (g (33 + 4 * d)))) 61 ((g 61) + (g (33 + 4 * d)))) from by simp (disch := omega) only [pk_un, pk_us]] at wo
        refine nrm_v ?_
        refine lv_iinc (v := 2) (lv' := [(3, .int 2), (0, .ref (am 0)), (1, .int (nI d)), (2, .int x)]) hx hb dX7_cleans_71 hl (k := 0) rfl (by decide) (by decide) rfl (fun ls hl => ?_)
        refine lv_goto (tgt := 40) hx hb dX7_cleans_74 (by decide) ?_
        refine lv_iload_n hx hb dX7_cleans_40 rfl (lv_at hl 0 rfl) ?_
        refine lv_iconst (v := 4) hx hb dX7_cleans_41 (by decide) ?_
        refine lv_icmp_ge (tgt := 77) hx hb dX7_cleans_42 (by decide) (fun h => absurd h (by decide)) (fun _ => ?_)
        refine lv_aload_n hx hb dX7_cleans_45 rfl (lv_at hl 1 rfl) ?_
        refine lv_bipush (v := 32) hx hb dX7_cleans_46 (by decide) ?_
        refine lv_iconst (v := 4) hx hb dX7_cleans_48 (by decide) ?_
        refine lv_iload_n hx hb dX7_cleans_49 rfl (lv_at hl 2 rfl) ?_
        refine lv_imul hx hb dX7_cleans_50 ?_
        refine tope (y := (nI (4 * d))) (mi (a := 4) (b := d) rfl rfl (by omega)) ?_
        refine lv_iadd hx hb dX7_cleans_51 ?_
        refine tope (y := (nI (32 + 4 * d))) (ai (a := 32) (b := 4 * d) rfl rfl (by omega)) ?_
        refine lv_bipush (v := 60) hx hb dX7_cleans_52 (by decide) ?_
        refine lv_iload_n hx hb dX7_cleans_54 rfl (lv_at hl 0 rfl) ?_
        refine lv_aload_n hx hb dX7_cleans_55 rfl (lv_at hl 1 rfl) ?_
        refine mg_st cx wo m_631 dX7_cleans_56 ?_
        refine lv_bipush (v := 32) hx hb dX7_cleans_59 (by decide) ?_
        refine lv_iconst (v := 4) hx hb dX7_cleans_61 (by decide) ?_
        refine lv_iload_n hx hb dX7_cleans_62 rfl (lv_at hl 2 rfl) ?_
        refine lv_imul hx hb dX7_cleans_63 ?_
        refine tope (y := (nI (4 * d))) (mi (a := 4) (b := d) rfl rfl (by omega)) ?_
        refine lv_iadd hx hb dX7_cleans_64 ?_
        refine tope (y := (nI (32 + 4 * d))) (ai (a := 32) (b := 4 * d) rfl rfl (by omega)) ?_
        refine lv_iload_n hx hb dX7_cleans_65 rfl (lv_at hl 0 rfl) ?_
        refine lv_iadd hx hb dX7_cleans_66 ?_
        refine tope (y := (nI (34 + 4 * d))) (ai (a := 32 + 4 * d) (b := 2) rfl rfl (by omega)) ?_
        refine ml_st (n := 34 + 4 * d) cx wo rfl (by omega) dX7_cleans_67 ?_
        refine tope (y := (g (34 + 4 * d))) (show (upd (upd (upd (upd g (32 + 4 * d) ((g (32 + 4 * d)) - (g (32 + 4 * d)))) 60 ((g 60) + (g (32 + 4 * d)))) (33 + 4 * d) ((g (33 + 4 * d)) - (g (33 + 4 * d)))) 61 ((g 61) + (g (33 + 4 * d)))) (34 + 4 * d) = (g (34 + 4 * d)) from (rdN (by omega) (rdN (by omega) (rdN (by omega) (rdN (by omega) rfl))))) ?_
        refine call_V (As := [.int (nI (32 + 4 * d)), .int 60, .int 2, .int (g (34 + 4 * d))]) (rest := []) (fun X => X) Fr_id cx (c_X7_moves_i l G am _ _ _ (a := 32 + 4 * d) (by omega) (b := 60) (by omega) (k := 2) (by omega) (i := 34 + 4 * d) (by omega) (j := 62) (by omega) (g (34 + 4 * d))) fx_X7_moves m_726 m_728 m_31 ⟨by decide, by decide⟩ wo (k := 0) rfl rfl rfl rfl hl.1 rfl (Nat.le_of_ble_eq_true rfl) dX7_cleans_68 ⟨by decide, by decide⟩ (fun v W1 H locs hp wo => ?_)
        obtain ⟨rfl, rfl⟩ := hp
        rw [show (upd (upd (upd (upd (upd (upd g (32 + 4 * d) ((g (32 + 4 * d)) - (g (32 + 4 * d)))) 60 ((g 60) + (g (32 + 4 * d)))) (33 + 4 * d) ((g (33 + 4 * d)) - (g (33 + 4 * d)))) 61 ((g 61) + (g (33 + 4 * d)))) (34 + 4 * d) ((upd (upd (upd (upd g (32 + 4 * d) ((g (32 + 4 * d)) - (g (32 + 4 * d)))) 60 ((g 60) + (g (32 + 4 * d)))) (33 + 4 * d) ((g (33 + 4 * d)) - (g (33 + 4 * d)))) 61 ((g 61) + (g (33 + 4 * d)))) (34 + 4 * d) - (g (34 + 4 * d)))) 62 ((upd (upd (upd (upd (upd g (32 + 4 * d) ((g (32 + 4 * d)) - (g (32 + 4 * d)))) 60 ((g 60) + (g (32 + 4 * d)))) (33 + 4 * d) ((g (33 + 4 * d)) - (g (33 + 4 * d)))) 61 ((g 61) + (g (33 + 4 * d)))) (34 + 4 * d) ((upd (upd (upd (upd g (32 + 4 * d) ((g (32 + 4 * d)) - (g (32 + 4 * d)))) 60 ((g 60) + (g (32 + 4 * d)))) (33 + 4 * d) ((g (33 + 4 * d)) - (g (33 + 4 * d)))) 61 ((g 61) + (g (33 + 4 * d)))) (34 + 4 * d) - (g (34 + 4 * d)))) 62 + (g (34 + 4 * d)))) = (upd (upd (upd (upd (upd (upd g (32 + 4 * d) ((g (32 + 4 * d)) - (g (32 + 4 * d)))) 60 ((g 60) + (g (32 + 4 * d)))) (33 + 4 * d) ((g (33 + 4 * d)) - (g (33 + 4 * d)))) 61 ((g 61) + (g (33 + 4 * d)))) (34 + 4 * d) ((g (34 + 4 * d)) - (g (34 + 4 * d)))) 62 ((g 62) + (g (34 + 4 * d)))) from by simp (disch := omega) only [pk_un, pk_us]] at wo
        refine nrm_v ?_
        refine lv_iinc (v := 3) (lv' := [(3, .int 3), (0, .ref (am 0)), (1, .int (nI d)), (2, .int x)]) hx hb dX7_cleans_71 hl (k := 0) rfl (by decide) (by decide) rfl (fun ls hl => ?_)
        refine lv_goto (tgt := 40) hx hb dX7_cleans_74 (by decide) ?_
        refine lv_iload_n hx hb dX7_cleans_40 rfl (lv_at hl 0 rfl) ?_
        refine lv_iconst (v := 4) hx hb dX7_cleans_41 (by decide) ?_
        refine lv_icmp_ge (tgt := 77) hx hb dX7_cleans_42 (by decide) (fun h => absurd h (by decide)) (fun _ => ?_)
        refine lv_aload_n hx hb dX7_cleans_45 rfl (lv_at hl 1 rfl) ?_
        refine lv_bipush (v := 32) hx hb dX7_cleans_46 (by decide) ?_
        refine lv_iconst (v := 4) hx hb dX7_cleans_48 (by decide) ?_
        refine lv_iload_n hx hb dX7_cleans_49 rfl (lv_at hl 2 rfl) ?_
        refine lv_imul hx hb dX7_cleans_50 ?_
        refine tope (y := (nI (4 * d))) (mi (a := 4) (b := d) rfl rfl (by omega)) ?_
        refine lv_iadd hx hb dX7_cleans_51 ?_
        refine tope (y := (nI (32 + 4 * d))) (ai (a := 32) (b := 4 * d) rfl rfl (by omega)) ?_
        refine lv_bipush (v := 60) hx hb dX7_cleans_52 (by decide) ?_
        refine lv_iload_n hx hb dX7_cleans_54 rfl (lv_at hl 0 rfl) ?_
        refine lv_aload_n hx hb dX7_cleans_55 rfl (lv_at hl 1 rfl) ?_
        refine mg_st cx wo m_631 dX7_cleans_56 ?_
        refine lv_bipush (v := 32) hx hb dX7_cleans_59 (by decide) ?_
        refine lv_iconst (v := 4) hx hb dX7_cleans_61 (by decide) ?_
        refine lv_iload_n hx hb dX7_cleans_62 rfl (lv_at hl 2 rfl) ?_
        refine lv_imul hx hb dX7_cleans_63 ?_
        refine tope (y := (nI (4 * d))) (mi (a := 4) (b := d) rfl rfl (by omega)) ?_
        refine lv_iadd hx hb dX7_cleans_64 ?_
        refine tope (y := (nI (32 + 4 * d))) (ai (a := 32) (b := 4 * d) rfl rfl (by omega)) ?_
        refine lv_iload_n hx hb dX7_cleans_65 rfl (lv_at hl 0 rfl) ?_
        refine lv_iadd hx hb dX7_cleans_66 ?_
        refine tope (y := (nI (35 + 4 * d))) (ai (a := 32 + 4 * d) (b := 3) rfl rfl (by omega)) ?_
        refine ml_st (n := 35 + 4 * d) cx wo rfl (by omega) dX7_cleans_67 ?_
        refine tope (y := (g (35 + 4 * d))) (show (upd (upd (upd (upd (upd (upd g (32 + 4 * d) ((g (32 + 4 * d)) - (g (32 + 4 * d)))) 60 ((g 60) + (g (32 + 4 * d)))) (33 + 4 * d) ((g (33 + 4 * d)) - (g (33 + 4 * d)))) 61 ((g 61) + (g (33 + 4 * d)))) (34 + 4 * d) ((g (34 + 4 * d)) - (g (34 + 4 * d)))) 62 ((g 62) + (g (34 + 4 * d)))) (35 + 4 * d) = (g (35 + 4 * d)) from (rdN (by omega) (rdN (by omega) (rdN (by omega) (rdN (by omega) (rdN (by omega) (rdN (by omega) rfl))))))) ?_
        refine call_V (As := [.int (nI (32 + 4 * d)), .int 60, .int 3, .int (g (35 + 4 * d))]) (rest := []) (fun X => X) Fr_id cx (c_X7_moves_i l G am _ _ _ (a := 32 + 4 * d) (by omega) (b := 60) (by omega) (k := 3) (by omega) (i := 35 + 4 * d) (by omega) (j := 63) (by omega) (g (35 + 4 * d))) fx_X7_moves m_726 m_728 m_31 ⟨by decide, by decide⟩ wo (k := 0) rfl rfl rfl rfl hl.1 rfl (Nat.le_of_ble_eq_true rfl) dX7_cleans_68 ⟨by decide, by decide⟩ (fun v W1 H locs hp wo => ?_)
        obtain ⟨rfl, rfl⟩ := hp
        rw [show (upd (upd (upd (upd (upd (upd (upd (upd g (32 + 4 * d) ((g (32 + 4 * d)) - (g (32 + 4 * d)))) 60 ((g 60) + (g (32 + 4 * d)))) (33 + 4 * d) ((g (33 + 4 * d)) - (g (33 + 4 * d)))) 61 ((g 61) + (g (33 + 4 * d)))) (34 + 4 * d) ((g (34 + 4 * d)) - (g (34 + 4 * d)))) 62 ((g 62) + (g (34 + 4 * d)))) (35 + 4 * d) ((upd (upd (upd (upd (upd (upd g (32 + 4 * d) ((g (32 + 4 * d)) - (g (32 + 4 * d)))) 60 ((g 60) + (g (32 + 4 * d)))) (33 + 4 * d) ((g (33 + 4 * d)) - (g (33 + 4 * d)))) 61 ((g 61) + (g (33 + 4 * d)))) (34 + 4 * d) ((g (34 + 4 * d)) - (g (34 + 4 * d)))) 62 ((g 62) + (g (34 + 4 * d)))) (35 + 4 * d) - (g (35 + 4 * d)))) 63 ((upd (upd (upd (upd (upd (upd (upd g (32 + 4 * d) ((g (32 + 4 * d)) - (g (32 + 4 * d)))) 60 ((g 60) + (g (32 + 4 * d)))) (33 + 4 * d) ((g (33 + 4 * d)) - (g (33 + 4 * d)))) 61 ((g 61) + (g (33 + 4 * d)))) (34 + 4 * d) ((g (34 + 4 * d)) - (g (34 + 4 * d)))) 62 ((g 62) + (g (34 + 4 * d)))) (35 + 4 * d) ((upd (upd (upd (upd (upd (upd g (32 + 4 * d) ((g (32 + 4 * d)) - (g (32 + 4 * d)))) 60 ((g 60) + (g (32 + 4 * d)))) (33 + 4 * d) ((g (33 + 4 * d)) - (g (33 + 4 * d)))) 61 ((g 61) + (g (33 + 4 * d)))) (34 + 4 * d) ((g (34 + 4 * d)) - (g (34 + 4 * d)))) 62 ((g 62) + (g (34 + 4 * d)))) (35 + 4 * d) - (g (35 + 4 * d)))) 63 + (g (35 + 4 * d)))) = (upd (upd (upd (upd (upd (upd (upd (upd g (32 + 4 * d) ((g (32 + 4 * d)) - (g (32 + 4 * d)))) 60 ((g 60) + (g (32 + 4 * d)))) (33 + 4 * d) ((g (33 + 4 * d)) - (g (33 + 4 * d)))) 61 ((g 61) + (g (33 + 4 * d)))) (34 + 4 * d) ((g (34 + 4 * d)) - (g (34 + 4 * d)))) 62 ((g 62) + (g (34 + 4 * d)))) (35 + 4 * d) ((g (35 + 4 * d)) - (g (35 + 4 * d)))) 63 ((g 63) + (g (35 + 4 * d)))) from by simp (disch := omega) only [pk_un, pk_us]] at wo
        refine nrm_v ?_
        refine lv_iinc (v := 4) (lv' := [(3, .int 4), (0, .ref (am 0)), (1, .int (nI d)), (2, .int x)]) hx hb dX7_cleans_71 hl (k := 0) rfl (by decide) (by decide) rfl (fun ls hl => ?_)
        refine lv_goto (tgt := 40) hx hb dX7_cleans_74 (by decide) ?_
        refine lv_iload_n hx hb dX7_cleans_40 rfl (lv_at hl 0 rfl) ?_
        refine lv_iconst (v := 4) hx hb dX7_cleans_41 (by decide) ?_
        refine lv_icmp_ge (tgt := 77) hx hb dX7_cleans_42 (by decide) (fun _ => ?_) (fun h => absurd (show ¬ _ from h) (by decide))
        refine lv_iconst (v := 1) hx hb dX7_cleans_77 (by decide) ?_
        refine tope (y := bi true) rfl ?_
        exact r2_z cx hQ wo dX7_cleans_78 (by subst hM; exact ⟨rfl, rfl⟩)
      · skip
        rw [if_pos c_3] at hM
        refine lv_iconst (v := 0) hx hb dX7_cleans_36 (by decide) ?_
        refine tope (y := bi false) rfl ?_
        exact r2_z cx hQ wo dX7_cleans_37 (by subst hM; exact ⟨rfl, rfl⟩)
  · skip
    rw [if_neg c_1] at hM
    refine lv_iload_n hx hb dX7_cleans_5 rfl (lv_at hl 2 rfl) ?_
    refine lv_bipush (v := 14) hx hb dX7_cleans_6 (by decide) ?_
    refine lv_icmp_ne (tgt := 36) hx hb dX7_cleans_8 (by decide) (fun c_4 => ?_) (fun c_4 => ?_)
    · skip
      rw [if_neg c_4] at hM
      refine lv_iconst (v := 0) hx hb dX7_cleans_36 (by decide) ?_
      refine tope (y := bi false) rfl ?_
      exact r2_z cx hQ wo dX7_cleans_37 (by subst hM; exact ⟨rfl, rfl⟩)
    · skip
      rw [if_pos c_4] at hM
      refine lv_aload_n hx hb dX7_cleans_11 rfl (lv_at hl 0 rfl) ?_
      refine mg_st cx wo m_631 dX7_cleans_12 ?_
      refine lv_bipush (v := 96) hx hb dX7_cleans_15 (by decide) ?_
      refine lv_iload_n hx hb dX7_cleans_17 rfl (lv_at hl 1 rfl) ?_
      refine lv_iadd hx hb dX7_cleans_18 ?_
      refine tope (y := (nI (96 + d))) (ai (a := 96) (b := d) rfl rfl (by omega)) ?_
      refine ml_st (n := 96 + d) cx wo rfl (by omega) dX7_cleans_19 ?_
      refine lv_if_ne (tgt := 36) hx hb dX7_cleans_20 (by decide) (fun c_5 => ?_) (fun c_5 => ?_)
      · skip
        rw [if_neg c_5] at hM
        refine lv_iconst (v := 0) hx hb dX7_cleans_36 (by decide) ?_
        refine tope (y := bi false) rfl ?_
        exact r2_z cx hQ wo dX7_cleans_37 (by subst hM; exact ⟨rfl, rfl⟩)
      · skip
        rw [if_pos c_5] at hM
        refine lv_aload_n hx hb dX7_cleans_23 rfl (lv_at hl 0 rfl) ?_
        refine lv_bipush (v := 32) hx hb dX7_cleans_24 (by decide) ?_
        refine lv_iconst (v := 4) hx hb dX7_cleans_26 (by decide) ?_
        refine lv_iload_n hx hb dX7_cleans_27 rfl (lv_at hl 1 rfl) ?_
        refine lv_imul hx hb dX7_cleans_28 ?_
        refine tope (y := (nI (4 * d))) (mi (a := 4) (b := d) rfl rfl (by omega)) ?_
        refine lv_iadd hx hb dX7_cleans_29 ?_
        refine tope (y := (nI (32 + 4 * d))) (ai (a := 32) (b := 4 * d) rfl rfl (by omega)) ?_
        refine call_V (As := [.int (nI (32 + 4 * d))]) (rest := []) (fun X => X) Fr_id cx (c_X7_sum l G am _ _ _ (a := 32 + 4 * d) (by omega)) fx_X7_sum m_656 m_658 m_19 ⟨by decide, by decide⟩ wo (k := 0) rfl rfl rfl rfl hl.1 rfl (Nat.le_of_ble_eq_true rfl) dX7_cleans_30 ⟨by decide, by decide⟩ (fun v W1 H locs hp wo => ?_)
        obtain ⟨rfl, rfl⟩ := hp
        refine nrm_i ?_
        refine lv_if_ne (tgt := 38) hx hb dX7_cleans_33 (by decide) (fun c_6 => ?_) (fun c_6 => ?_)
        · skip
          rw [if_neg c_6] at hM
          refine lv_iconst (v := 0) hx hb dX7_cleans_38 (by decide) ?_
          refine lv_istore_n (lv' := [(3, .int 0), (0, .ref (am 0)), (1, .int (nI d)), (2, .int x)]) hx hb dX7_cleans_39 rfl hl (by decide) rfl (fun ls hl => ?_)
          refine lv_iload_n hx hb dX7_cleans_40 rfl (lv_at hl 0 rfl) ?_
          refine lv_iconst (v := 4) hx hb dX7_cleans_41 (by decide) ?_
          refine lv_icmp_ge (tgt := 77) hx hb dX7_cleans_42 (by decide) (fun h => absurd h (by decide)) (fun _ => ?_)
          refine lv_aload_n hx hb dX7_cleans_45 rfl (lv_at hl 1 rfl) ?_
          refine lv_bipush (v := 32) hx hb dX7_cleans_46 (by decide) ?_
          refine lv_iconst (v := 4) hx hb dX7_cleans_48 (by decide) ?_
          refine lv_iload_n hx hb dX7_cleans_49 rfl (lv_at hl 2 rfl) ?_
          refine lv_imul hx hb dX7_cleans_50 ?_
          refine tope (y := (nI (4 * d))) (mi (a := 4) (b := d) rfl rfl (by omega)) ?_
          refine lv_iadd hx hb dX7_cleans_51 ?_
          refine tope (y := (nI (32 + 4 * d))) (ai (a := 32) (b := 4 * d) rfl rfl (by omega)) ?_
          refine lv_bipush (v := 60) hx hb dX7_cleans_52 (by decide) ?_
          refine lv_iload_n hx hb dX7_cleans_54 rfl (lv_at hl 0 rfl) ?_
          refine lv_aload_n hx hb dX7_cleans_55 rfl (lv_at hl 1 rfl) ?_
          refine mg_st cx wo m_631 dX7_cleans_56 ?_
          refine lv_bipush (v := 32) hx hb dX7_cleans_59 (by decide) ?_
          refine lv_iconst (v := 4) hx hb dX7_cleans_61 (by decide) ?_
          refine lv_iload_n hx hb dX7_cleans_62 rfl (lv_at hl 2 rfl) ?_
          refine lv_imul hx hb dX7_cleans_63 ?_
          refine tope (y := (nI (4 * d))) (mi (a := 4) (b := d) rfl rfl (by omega)) ?_
          refine lv_iadd hx hb dX7_cleans_64 ?_
          refine tope (y := (nI (32 + 4 * d))) (ai (a := 32) (b := 4 * d) rfl rfl (by omega)) ?_
          refine lv_iload_n hx hb dX7_cleans_65 rfl (lv_at hl 0 rfl) ?_
          refine lv_iadd hx hb dX7_cleans_66 ?_
          refine tope (y := (nI (32 + 4 * d))) (ai (a := 32 + 4 * d) (b := 0) rfl rfl (by omega)) ?_
          refine ml_st (n := 32 + 4 * d) cx wo rfl (by omega) dX7_cleans_67 ?_
          refine call_V (As := [.int (nI (32 + 4 * d)), .int 60, .int 0, .int (g (32 + 4 * d))]) (rest := []) (fun X => X) Fr_id cx (c_X7_moves_i l G am _ _ _ (a := 32 + 4 * d) (by omega) (b := 60) (by omega) (k := 0) (by omega) (i := 32 + 4 * d) (by omega) (j := 60) (by omega) (g (32 + 4 * d))) fx_X7_moves m_726 m_728 m_31 ⟨by decide, by decide⟩ wo (k := 0) rfl rfl rfl rfl hl.1 rfl (Nat.le_of_ble_eq_true rfl) dX7_cleans_68 ⟨by decide, by decide⟩ (fun v W1 H locs hp wo => ?_)
          obtain ⟨rfl, rfl⟩ := hp
          rw [show (upd (upd g (32 + 4 * d) (g (32 + 4 * d) - (g (32 + 4 * d)))) 60 ((upd g (32 + 4 * d) (g (32 + 4 * d) - (g (32 + 4 * d)))) 60 + (g (32 + 4 * d)))) = (upd (upd g (32 + 4 * d) ((g (32 + 4 * d)) - (g (32 + 4 * d)))) 60 ((g 60) + (g (32 + 4 * d)))) from by simp (disch := omega) only [pk_un, pk_us]] at wo
          refine nrm_v ?_
          refine lv_iinc (v := 1) (lv' := [(3, .int 1), (0, .ref (am 0)), (1, .int (nI d)), (2, .int x)]) hx hb dX7_cleans_71 hl (k := 0) rfl (by decide) (by decide) rfl (fun ls hl => ?_)
          refine lv_goto (tgt := 40) hx hb dX7_cleans_74 (by decide) ?_
          refine lv_iload_n hx hb dX7_cleans_40 rfl (lv_at hl 0 rfl) ?_
          refine lv_iconst (v := 4) hx hb dX7_cleans_41 (by decide) ?_
          refine lv_icmp_ge (tgt := 77) hx hb dX7_cleans_42 (by decide) (fun h => absurd h (by decide)) (fun _ => ?_)
          refine lv_aload_n hx hb dX7_cleans_45 rfl (lv_at hl 1 rfl) ?_
          refine lv_bipush (v := 32) hx hb dX7_cleans_46 (by decide) ?_
          refine lv_iconst (v := 4) hx hb dX7_cleans_48 (by decide) ?_
          refine lv_iload_n hx hb dX7_cleans_49 rfl (lv_at hl 2 rfl) ?_
          refine lv_imul hx hb dX7_cleans_50 ?_
          refine tope (y := (nI (4 * d))) (mi (a := 4) (b := d) rfl rfl (by omega)) ?_
          refine lv_iadd hx hb dX7_cleans_51 ?_
          refine tope (y := (nI (32 + 4 * d))) (ai (a := 32) (b := 4 * d) rfl rfl (by omega)) ?_
          refine lv_bipush (v := 60) hx hb dX7_cleans_52 (by decide) ?_
          refine lv_iload_n hx hb dX7_cleans_54 rfl (lv_at hl 0 rfl) ?_
          refine lv_aload_n hx hb dX7_cleans_55 rfl (lv_at hl 1 rfl) ?_
          refine mg_st cx wo m_631 dX7_cleans_56 ?_
          refine lv_bipush (v := 32) hx hb dX7_cleans_59 (by decide) ?_
          refine lv_iconst (v := 4) hx hb dX7_cleans_61 (by decide) ?_
          refine lv_iload_n hx hb dX7_cleans_62 rfl (lv_at hl 2 rfl) ?_
          refine lv_imul hx hb dX7_cleans_63 ?_
          refine tope (y := (nI (4 * d))) (mi (a := 4) (b := d) rfl rfl (by omega)) ?_
          refine lv_iadd hx hb dX7_cleans_64 ?_
          refine tope (y := (nI (32 + 4 * d))) (ai (a := 32) (b := 4 * d) rfl rfl (by omega)) ?_
          refine lv_iload_n hx hb dX7_cleans_65 rfl (lv_at hl 0 rfl) ?_
          refine lv_iadd hx hb dX7_cleans_66 ?_
          refine tope (y := (nI (33 + 4 * d))) (ai (a := 32 + 4 * d) (b := 1) rfl rfl (by omega)) ?_
          refine ml_st (n := 33 + 4 * d) cx wo rfl (by omega) dX7_cleans_67 ?_
          refine tope (y := (g (33 + 4 * d))) (show (upd (upd g (32 + 4 * d) ((g (32 + 4 * d)) - (g (32 + 4 * d)))) 60 ((g 60) + (g (32 + 4 * d)))) (33 + 4 * d) = (g (33 + 4 * d)) from (rdN (by omega) (rdN (by omega) rfl))) ?_
          refine call_V (As := [.int (nI (32 + 4 * d)), .int 60, .int 1, .int (g (33 + 4 * d))]) (rest := []) (fun X => X) Fr_id cx (c_X7_moves_i l G am _ _ _ (a := 32 + 4 * d) (by omega) (b := 60) (by omega) (k := 1) (by omega) (i := 33 + 4 * d) (by omega) (j := 61) (by omega) (g (33 + 4 * d))) fx_X7_moves m_726 m_728 m_31 ⟨by decide, by decide⟩ wo (k := 0) rfl rfl rfl rfl hl.1 rfl (Nat.le_of_ble_eq_true rfl) dX7_cleans_68 ⟨by decide, by decide⟩ (fun v W1 H locs hp wo => ?_)
          obtain ⟨rfl, rfl⟩ := hp
          rw [show (upd (upd (upd (upd g (32 + 4 * d) ((g (32 + 4 * d)) - (g (32 + 4 * d)))) 60 ((g 60) + (g (32 + 4 * d)))) (33 + 4 * d) ((upd (upd g (32 + 4 * d) ((g (32 + 4 * d)) - (g (32 + 4 * d)))) 60 ((g 60) + (g (32 + 4 * d)))) (33 + 4 * d) - (g (33 + 4 * d)))) 61 ((upd (upd (upd g (32 + 4 * d) ((g (32 + 4 * d)) - (g (32 + 4 * d)))) 60 ((g 60) + (g (32 + 4 * d)))) (33 + 4 * d) ((upd (upd g (32 + 4 * d) ((g (32 + 4 * d)) - (g (32 + 4 * d)))) 60 ((g 60) + (g (32 + 4 * d)))) (33 + 4 * d) - (g (33 + 4 * d)))) 61 + (g (33 + 4 * d)))) = (upd (upd (upd (upd g (32 + 4 * d) ((g (32 + 4 * d)) - (g (32 + 4 * d)))) 60 ((g 60) + (g (32 + 4 * d)))) (33 + 4 * d) ((g (33 + 4 * d)) - (g (33 + 4 * d)))) 61 ((g 61) + (g (33 + 4 * d)))) from by simp (disch := omega) only [pk_un, pk_us]] at wo
          refine nrm_v ?_
          refine lv_iinc (v := 2) (lv' := [(3, .int 2), (0, .ref (am 0)), (1, .int (nI d)), (2, .int x)]) hx hb dX7_cleans_71 hl (k := 0) rfl (by decide) (by decide) rfl (fun ls hl => ?_)
          refine lv_goto (tgt := 40) hx hb dX7_cleans_74 (by decide) ?_
          refine lv_iload_n hx hb dX7_cleans_40 rfl (lv_at hl 0 rfl) ?_
          refine lv_iconst (v := 4) hx hb dX7_cleans_41 (by decide) ?_
          refine lv_icmp_ge (tgt := 77) hx hb dX7_cleans_42 (by decide) (fun h => absurd h (by decide)) (fun _ => ?_)
          refine lv_aload_n hx hb dX7_cleans_45 rfl (lv_at hl 1 rfl) ?_
          refine lv_bipush (v := 32) hx hb dX7_cleans_46 (by decide) ?_
          refine lv_iconst (v := 4) hx hb dX7_cleans_48 (by decide) ?_
          refine lv_iload_n hx hb dX7_cleans_49 rfl (lv_at hl 2 rfl) ?_
          refine lv_imul hx hb dX7_cleans_50 ?_
          refine tope (y := (nI (4 * d))) (mi (a := 4) (b := d) rfl rfl (by omega)) ?_
          refine lv_iadd hx hb dX7_cleans_51 ?_
          refine tope (y := (nI (32 + 4 * d))) (ai (a := 32) (b := 4 * d) rfl rfl (by omega)) ?_
          refine lv_bipush (v := 60) hx hb dX7_cleans_52 (by decide) ?_
          refine lv_iload_n hx hb dX7_cleans_54 rfl (lv_at hl 0 rfl) ?_
          refine lv_aload_n hx hb dX7_cleans_55 rfl (lv_at hl 1 rfl) ?_
          refine mg_st cx wo m_631 dX7_cleans_56 ?_
          refine lv_bipush (v := 32) hx hb dX7_cleans_59 (by decide) ?_
          refine lv_iconst (v := 4) hx hb dX7_cleans_61 (by decide) ?_
          refine lv_iload_n hx hb dX7_cleans_62 rfl (lv_at hl 2 rfl) ?_
          refine lv_imul hx hb dX7_cleans_63 ?_
          refine tope (y := (nI (4 * d))) (mi (a := 4) (b := d) rfl rfl (by omega)) ?_
          refine lv_iadd hx hb dX7_cleans_64 ?_
          refine tope (y := (nI (32 + 4 * d))) (ai (a := 32) (b := 4 * d) rfl rfl (by omega)) ?_
          refine lv_iload_n hx hb dX7_cleans_65 rfl (lv_at hl 0 rfl) ?_
          refine lv_iadd hx hb dX7_cleans_66 ?_
          refine tope (y := (nI (34 + 4 * d))) (ai (a := 32 + 4 * d) (b := 2) rfl rfl (by omega)) ?_
          refine ml_st (n := 34 + 4 * d) cx wo rfl (by omega) dX7_cleans_67 ?_
          refine tope (y := (g (34 + 4 * d))) (show (upd (upd (upd (upd g (32 + 4 * d) ((g (32 + 4 * d)) - (g (32 + 4 * d)))) 60 ((g 60) + (g (32 + 4 * d)))) (33 + 4 * d) ((g (33 + 4 * d)) - (g (33 + 4 * d)))) 61 ((g 61) + (g (33 + 4 * d)))) (34 + 4 * d) = (g (34 + 4 * d)) from (rdN (by omega) (rdN (by omega) (rdN (by omega) (rdN (by omega) rfl))))) ?_
          refine call_V (As := [.int (nI (32 + 4 * d)), .int 60, .int 2, .int (g (34 + 4 * d))]) (rest := []) (fun X => X) Fr_id cx (c_X7_moves_i l G am _ _ _ (a := 32 + 4 * d) (by omega) (b := 60) (by omega) (k := 2) (by omega) (i := 34 + 4 * d) (by omega) (j := 62) (by omega) (g (34 + 4 * d))) fx_X7_moves m_726 m_728 m_31 ⟨by decide, by decide⟩ wo (k := 0) rfl rfl rfl rfl hl.1 rfl (Nat.le_of_ble_eq_true rfl) dX7_cleans_68 ⟨by decide, by decide⟩ (fun v W1 H locs hp wo => ?_)
          obtain ⟨rfl, rfl⟩ := hp
          rw [show (upd (upd (upd (upd (upd (upd g (32 + 4 * d) ((g (32 + 4 * d)) - (g (32 + 4 * d)))) 60 ((g 60) + (g (32 + 4 * d)))) (33 + 4 * d) ((g (33 + 4 * d)) - (g (33 + 4 * d)))) 61 ((g 61) + (g (33 + 4 * d)))) (34 + 4 * d) ((upd (upd (upd (upd g (32 + 4 * d) ((g (32 + 4 * d)) - (g (32 + 4 * d)))) 60 ((g 60) + (g (32 + 4 * d)))) (33 + 4 * d) ((g (33 + 4 * d)) - (g (33 + 4 * d)))) 61 ((g 61) + (g (33 + 4 * d)))) (34 + 4 * d) - (g (34 + 4 * d)))) 62 ((upd (upd (upd (upd (upd g (32 + 4 * d) ((g (32 + 4 * d)) - (g (32 + 4 * d)))) 60 ((g 60) + (g (32 + 4 * d)))) (33 + 4 * d) ((g (33 + 4 * d)) - (g (33 + 4 * d)))) 61 ((g 61) + (g (33 + 4 * d)))) (34 + 4 * d) ((upd (upd (upd (upd g (32 + 4 * d) ((g (32 + 4 * d)) - (g (32 + 4 * d)))) 60 ((g 60) + (g (32 + 4 * d)))) (33 + 4 * d) ((g (33 + 4 * d)) - (g (33 + 4 * d)))) 61 ((g 61) + (g (33 + 4 * d)))) (34 + 4 * d) - (g (34 + 4 * d)))) 62 + (g (34 + 4 * d)))) = (upd (upd (upd (upd (upd (upd g (32 + 4 * d) ((g (32 + 4 * d)) - (g (32 + 4 * d)))) 60 ((g 60) + (g (32 + 4 * d)))) (33 + 4 * d) ((g (33 + 4 * d)) - (g (33 + 4 * d)))) 61 ((g 61) + (g (33 + 4 * d)))) (34 + 4 * d) ((g (34 + 4 * d)) - (g (34 + 4 * d)))) 62 ((g 62) + (g (34 + 4 * d)))) from by simp (disch := omega) only [pk_un, pk_us]] at wo
          refine nrm_v ?_
          refine lv_iinc (v := 3) (lv' := [(3, .int 3), (0, .ref (am 0)), (1, .int (nI d)), (2, .int x)]) hx hb dX7_cleans_71 hl (k := 0) rfl (by decide) (by decide) rfl (fun ls hl => ?_)
          refine lv_goto (tgt := 40) hx hb dX7_cleans_74 (by decide) ?_
          refine lv_iload_n hx hb dX7_cleans_40 rfl (lv_at hl 0 rfl) ?_
          refine lv_iconst (v := 4) hx hb dX7_cleans_41 (by decide) ?_
          refine lv_icmp_ge (tgt := 77) hx hb dX7_cleans_42 (by decide) (fun h => absurd h (by decide)) (fun _ => ?_)
          refine lv_aload_n hx hb dX7_cleans_45 rfl (lv_at hl 1 rfl) ?_
          refine lv_bipush (v := 32) hx hb dX7_cleans_46 (by decide) ?_
          refine lv_iconst (v := 4) hx hb dX7_cleans_48 (by decide) ?_
          refine lv_iload_n hx hb dX7_cleans_49 rfl (lv_at hl 2 rfl) ?_
          refine lv_imul hx hb dX7_cleans_50 ?_
          refine tope (y := (nI (4 * d))) (mi (a := 4) (b := d) rfl rfl (by omega)) ?_
          refine lv_iadd hx hb dX7_cleans_51 ?_
          refine tope (y := (nI (32 + 4 * d))) (ai (a := 32) (b := 4 * d) rfl rfl (by omega)) ?_
          refine lv_bipush (v := 60) hx hb dX7_cleans_52 (by decide) ?_
          refine lv_iload_n hx hb dX7_cleans_54 rfl (lv_at hl 0 rfl) ?_
          refine lv_aload_n hx hb dX7_cleans_55 rfl (lv_at hl 1 rfl) ?_
          refine mg_st cx wo m_631 dX7_cleans_56 ?_
          refine lv_bipush (v := 32) hx hb dX7_cleans_59 (by decide) ?_
          refine lv_iconst (v := 4) hx hb dX7_cleans_61 (by decide) ?_
          refine lv_iload_n hx hb dX7_cleans_62 rfl (lv_at hl 2 rfl) ?_
          refine lv_imul hx hb dX7_cleans_63 ?_
          refine tope (y := (nI (4 * d))) (mi (a := 4) (b := d) rfl rfl (by omega)) ?_
          refine lv_iadd hx hb dX7_cleans_64 ?_
          refine tope (y := (nI (32 + 4 * d))) (ai (a := 32) (b := 4 * d) rfl rfl (by omega)) ?_
          refine lv_iload_n hx hb dX7_cleans_65 rfl (lv_at hl 0 rfl) ?_
          refine lv_iadd hx hb dX7_cleans_66 ?_
          refine tope (y := (nI (35 + 4 * d))) (ai (a := 32 + 4 * d) (b := 3) rfl rfl (by omega)) ?_
          refine ml_st (n := 35 + 4 * d) cx wo rfl (by omega) dX7_cleans_67 ?_
          refine tope (y := (g (35 + 4 * d))) (show (upd (upd (upd (upd (upd (upd g (32 + 4 * d) ((g (32 + 4 * d)) - (g (32 + 4 * d)))) 60 ((g 60) + (g (32 + 4 * d)))) (33 + 4 * d) ((g (33 + 4 * d)) - (g (33 + 4 * d)))) 61 ((g 61) + (g (33 + 4 * d)))) (34 + 4 * d) ((g (34 + 4 * d)) - (g (34 + 4 * d)))) 62 ((g 62) + (g (34 + 4 * d)))) (35 + 4 * d) = (g (35 + 4 * d)) from (rdN (by omega) (rdN (by omega) (rdN (by omega) (rdN (by omega) (rdN (by omega) (rdN (by omega) rfl))))))) ?_
          refine call_V (As := [.int (nI (32 + 4 * d)), .int 60, .int 3, .int (g (35 + 4 * d))]) (rest := []) (fun X => X) Fr_id cx (c_X7_moves_i l G am _ _ _ (a := 32 + 4 * d) (by omega) (b := 60) (by omega) (k := 3) (by omega) (i := 35 + 4 * d) (by omega) (j := 63) (by omega) (g (35 + 4 * d))) fx_X7_moves m_726 m_728 m_31 ⟨by decide, by decide⟩ wo (k := 0) rfl rfl rfl rfl hl.1 rfl (Nat.le_of_ble_eq_true rfl) dX7_cleans_68 ⟨by decide, by decide⟩ (fun v W1 H locs hp wo => ?_)
          obtain ⟨rfl, rfl⟩ := hp
          rw [show (upd (upd (upd (upd (upd (upd (upd (upd g (32 + 4 * d) ((g (32 + 4 * d)) - (g (32 + 4 * d)))) 60 ((g 60) + (g (32 + 4 * d)))) (33 + 4 * d) ((g (33 + 4 * d)) - (g (33 + 4 * d)))) 61 ((g 61) + (g (33 + 4 * d)))) (34 + 4 * d) ((g (34 + 4 * d)) - (g (34 + 4 * d)))) 62 ((g 62) + (g (34 + 4 * d)))) (35 + 4 * d) ((upd (upd (upd (upd (upd (upd g (32 + 4 * d) ((g (32 + 4 * d)) - (g (32 + 4 * d)))) 60 ((g 60) + (g (32 + 4 * d)))) (33 + 4 * d) ((g (33 + 4 * d)) - (g (33 + 4 * d)))) 61 ((g 61) + (g (33 + 4 * d)))) (34 + 4 * d) ((g (34 + 4 * d)) - (g (34 + 4 * d)))) 62 ((g 62) + (g (34 + 4 * d)))) (35 + 4 * d) - (g (35 + 4 * d)))) 63 ((upd (upd (upd (upd (upd (upd (upd g (32 + 4 * d) ((g (32 + 4 * d)) - (g (32 + 4 * d)))) 60 ((g 60) + (g (32 + 4 * d)))) (33 + 4 * d) ((g (33 + 4 * d)) - (g (33 + 4 * d)))) 61 ((g 61) + (g (33 + 4 * d)))) (34 + 4 * d) ((g (34 + 4 * d)) - (g (34 + 4 * d)))) 62 ((g 62) + (g (34 + 4 * d)))) (35 + 4 * d) ((upd (upd (upd (upd (upd (upd g (32 + 4 * d) ((g (32 + 4 * d)) - (g (32 + 4 * d)))) 60 ((g 60) + (g (32 + 4 * d)))) (33 + 4 * d) ((g (33 + 4 * d)) - (g (33 + 4 * d)))) 61 ((g 61) + (g (33 + 4 * d)))) (34 + 4 * d) ((g (34 + 4 * d)) - (g (34 + 4 * d)))) 62 ((g 62) + (g (34 + 4 * d)))) (35 + 4 * d) - (g (35 + 4 * d)))) 63 + (g (35 + 4 * d)))) = (upd (upd (upd (upd (upd (upd (upd (upd g (32 + 4 * d) ((g (32 + 4 * d)) - (g (32 + 4 * d)))) 60 ((g 60) + (g (32 + 4 * d)))) (33 + 4 * d) ((g (33 + 4 * d)) - (g (33 + 4 * d)))) 61 ((g 61) + (g (33 + 4 * d)))) (34 + 4 * d) ((g (34 + 4 * d)) - (g (34 + 4 * d)))) 62 ((g 62) + (g (34 + 4 * d)))) (35 + 4 * d) ((g (35 + 4 * d)) - (g (35 + 4 * d)))) 63 ((g 63) + (g (35 + 4 * d)))) from by simp (disch := omega) only [pk_un, pk_us]] at wo
          refine nrm_v ?_
          refine lv_iinc (v := 4) (lv' := [(3, .int 4), (0, .ref (am 0)), (1, .int (nI d)), (2, .int x)]) hx hb dX7_cleans_71 hl (k := 0) rfl (by decide) (by decide) rfl (fun ls hl => ?_)
          refine lv_goto (tgt := 40) hx hb dX7_cleans_74 (by decide) ?_
          refine lv_iload_n hx hb dX7_cleans_40 rfl (lv_at hl 0 rfl) ?_
          refine lv_iconst (v := 4) hx hb dX7_cleans_41 (by decide) ?_
          refine lv_icmp_ge (tgt := 77) hx hb dX7_cleans_42 (by decide) (fun _ => ?_) (fun h => absurd (show ¬ _ from h) (by decide))
          refine lv_iconst (v := 1) hx hb dX7_cleans_77 (by decide) ?_
          refine tope (y := bi true) rfl ?_
          exact r2_z cx hQ wo dX7_cleans_78 (by subst hM; exact ⟨rfl, rfl⟩)
        · skip
          rw [if_pos c_6] at hM
          refine lv_iconst (v := 0) hx hb dX7_cleans_36 (by decide) ?_
          refine tope (y := bi false) rfl ?_
          exact r2_z cx hQ wo dX7_cleans_37 (by subst hM; exact ⟨rfl, rfl⟩)
abbrev rm_X7_finishes : Room := { frames := 0, cells := 0, slots := 0, locals := 0 }
def m_X7_finishes (g : St) (r : Nat) : St :=
  (upd (upd (upd (upd (upd (upd (upd (upd (upd (upd (upd (upd (upd (upd (upd (upd g (108 + 16 * r) (g (110 + 16 * r))) (109 + 16 * r) (g (111 + 16 * r))) (110 + 16 * r) (g (112 + 16 * r))) (111 + 16 * r) (g (113 + 16 * r))) (112 + 16 * r) (g (114 + 16 * r))) (113 + 16 * r) (g (115 + 16 * r))) (114 + 16 * r) (g (116 + 16 * r))) (115 + 16 * r) (g (117 + 16 * r))) (116 + 16 * r) (g (118 + 16 * r))) (117 + 16 * r) (g (119 + 16 * r))) (118 + 16 * r) (g (120 + 16 * r))) (119 + 16 * r) (g (121 + 16 * r))) (120 + 16 * r) (g (122 + 16 * r))) (121 + 16 * r) (g (123 + 16 * r))) (104 + r) ((g (104 + r)) - 1)) 146 ((g 146) + 1))
set_option maxHeartbeats 4000000 in
set_option maxRecDepth 100000 in
theorem c_X7_finishes (l : Launch) (G : GG) (am : Nat → Nat) (g kf : St) (nk : Int32) {r : Nat} (hr : r < 2) : Ct l G yX7_finishes cX7_finishes 4 (none : Option Jvm.ClassFile.FieldType) rm_X7_finishes [.ref (am 0), .int (nI r)] (mw G am g kf nk) (fun rv W1 => rv = none ∧ W1 = mw G am (m_X7_finishes g r) kf nk) := by
  refine Ct.mk2 (by decide) (Nat.le_of_ble_eq_true rfl) ?_
  intro p e s m args below meth c A H locs ls Q cx wo hl hQ
  obtain ⟨hx, hb, hml, hr, hlo, hown, hts, hnm, kn, hA⟩ := id cx
  have hl : lv_has ls 4 [(0, .ref (am 0)), (1, .int (nI r))] := hl
  generalize hM : m_X7_finishes g r = M at hQ
  unfold m_X7_finishes at hM
  refine lv_bipush (v := 108) hx hb dX7_finishes_0 (by decide) ?_
  refine lv_bipush (v := 16) hx hb dX7_finishes_2 (by decide) ?_
  refine lv_iload_n hx hb dX7_finishes_4 rfl (lv_at hl 1 rfl) ?_
  refine lv_imul hx hb dX7_finishes_5 ?_
  refine tope (y := (nI (16 * r))) (mi (a := 16) (b := r) rfl rfl (by omega)) ?_
  refine lv_iadd hx hb dX7_finishes_6 ?_
  refine tope (y := (nI (108 + 16 * r))) (ai (a := 108) (b := 16 * r) rfl rfl (by omega)) ?_
  refine lv_istore_n (lv' := [(2, .int (nI (108 + 16 * r))), (0, .ref (am 0)), (1, .int (nI r))]) hx hb dX7_finishes_7 rfl hl (by decide) rfl (fun ls hl => ?_)
  refine lv_iconst (v := 0) hx hb dX7_finishes_8 (by decide) ?_
  refine lv_istore_n (lv' := [(3, .int 0), (2, .int (nI (108 + 16 * r))), (0, .ref (am 0)), (1, .int (nI r))]) hx hb dX7_finishes_9 rfl hl (by decide) rfl (fun ls hl => ?_)
  refine lv_iload_n hx hb dX7_finishes_10 rfl (lv_at hl 0 rfl) ?_
  refine lv_bipush (v := 14) hx hb dX7_finishes_11 (by decide) ?_
  refine lv_icmp_ge (tgt := 40) hx hb dX7_finishes_13 (by decide) (fun h => absurd h (by decide)) (fun _ => ?_)
  refine lv_aload_n hx hb dX7_finishes_16 rfl (lv_at hl 2 rfl) ?_
  refine mg_st cx wo m_631 dX7_finishes_17 ?_
  refine lv_iload_n hx hb dX7_finishes_20 rfl (lv_at hl 1 rfl) ?_
  refine lv_iload_n hx hb dX7_finishes_21 rfl (lv_at hl 0 rfl) ?_
  refine lv_iadd hx hb dX7_finishes_22 ?_
  refine tope (y := (nI (108 + 16 * r))) (ai (a := 108 + 16 * r) (b := 0) rfl rfl (by omega)) ?_
  refine lv_aload_n hx hb dX7_finishes_23 rfl (lv_at hl 2 rfl) ?_
  refine mg_st cx wo m_631 dX7_finishes_24 ?_
  refine lv_iload_n hx hb dX7_finishes_27 rfl (lv_at hl 1 rfl) ?_
  refine lv_iload_n hx hb dX7_finishes_28 rfl (lv_at hl 0 rfl) ?_
  refine lv_iadd hx hb dX7_finishes_29 ?_
  refine tope (y := (nI (108 + 16 * r))) (ai (a := 108 + 16 * r) (b := 0) rfl rfl (by omega)) ?_
  refine lv_iconst (v := 2) hx hb dX7_finishes_30 (by decide) ?_
  refine lv_iadd hx hb dX7_finishes_31 ?_
  refine tope (y := (nI (110 + 16 * r))) (ai (a := 108 + 16 * r) (b := 2) rfl rfl (by omega)) ?_
  refine ml_st (n := 110 + 16 * r) cx wo rfl (by omega) dX7_finishes_32 ?_
  refine ms_st (n := 108 + 16 * r) cx wo rfl (by omega) dX7_finishes_33 (fun H locs gz hgz wo => ?_)
  subst hgz
  refine lv_iinc (v := 1) (lv' := [(3, .int 1), (2, .int (nI (108 + 16 * r))), (0, .ref (am 0)), (1, .int (nI r))]) hx hb dX7_finishes_34 hl (k := 0) rfl (by decide) (by decide) rfl (fun ls hl => ?_)
  refine lv_goto (tgt := 10) hx hb dX7_finishes_37 (by decide) ?_
  refine lv_iload_n hx hb dX7_finishes_10 rfl (lv_at hl 0 rfl) ?_
  refine lv_bipush (v := 14) hx hb dX7_finishes_11 (by decide) ?_
  refine lv_icmp_ge (tgt := 40) hx hb dX7_finishes_13 (by decide) (fun h => absurd h (by decide)) (fun _ => ?_)
  refine lv_aload_n hx hb dX7_finishes_16 rfl (lv_at hl 2 rfl) ?_
  refine mg_st cx wo m_631 dX7_finishes_17 ?_
  refine lv_iload_n hx hb dX7_finishes_20 rfl (lv_at hl 1 rfl) ?_
  refine lv_iload_n hx hb dX7_finishes_21 rfl (lv_at hl 0 rfl) ?_
  refine lv_iadd hx hb dX7_finishes_22 ?_
  refine tope (y := (nI (109 + 16 * r))) (ai (a := 108 + 16 * r) (b := 1) rfl rfl (by omega)) ?_
  refine lv_aload_n hx hb dX7_finishes_23 rfl (lv_at hl 2 rfl) ?_
  refine mg_st cx wo m_631 dX7_finishes_24 ?_
  refine lv_iload_n hx hb dX7_finishes_27 rfl (lv_at hl 1 rfl) ?_
  refine lv_iload_n hx hb dX7_finishes_28 rfl (lv_at hl 0 rfl) ?_
  refine lv_iadd hx hb dX7_finishes_29 ?_
  refine tope (y := (nI (109 + 16 * r))) (ai (a := 108 + 16 * r) (b := 1) rfl rfl (by omega)) ?_
  refine lv_iconst (v := 2) hx hb dX7_finishes_30 (by decide) ?_
  refine lv_iadd hx hb dX7_finishes_31 ?_
  refine tope (y := (nI (111 + 16 * r))) (ai (a := 109 + 16 * r) (b := 2) rfl rfl (by omega)) ?_
  refine ml_st (n := 111 + 16 * r) cx wo rfl (by omega) dX7_finishes_32 ?_
  refine tope (y := (g (111 + 16 * r))) (show (upd g (108 + 16 * r) (g (110 + 16 * r))) (111 + 16 * r) = (g (111 + 16 * r)) from (rdN (by omega) rfl)) ?_
  refine ms_st (n := 109 + 16 * r) cx wo rfl (by omega) dX7_finishes_33 (fun H locs gz hgz wo => ?_)
  subst hgz
  refine lv_iinc (v := 2) (lv' := [(3, .int 2), (2, .int (nI (108 + 16 * r))), (0, .ref (am 0)), (1, .int (nI r))]) hx hb dX7_finishes_34 hl (k := 0) rfl (by decide) (by decide) rfl (fun ls hl => ?_)
  refine lv_goto (tgt := 10) hx hb dX7_finishes_37 (by decide) ?_
  refine lv_iload_n hx hb dX7_finishes_10 rfl (lv_at hl 0 rfl) ?_
  refine lv_bipush (v := 14) hx hb dX7_finishes_11 (by decide) ?_
  refine lv_icmp_ge (tgt := 40) hx hb dX7_finishes_13 (by decide) (fun h => absurd h (by decide)) (fun _ => ?_)
  refine lv_aload_n hx hb dX7_finishes_16 rfl (lv_at hl 2 rfl) ?_
  refine mg_st cx wo m_631 dX7_finishes_17 ?_
  refine lv_iload_n hx hb dX7_finishes_20 rfl (lv_at hl 1 rfl) ?_
  refine lv_iload_n hx hb dX7_finishes_21 rfl (lv_at hl 0 rfl) ?_
  refine lv_iadd hx hb dX7_finishes_22 ?_
  refine tope (y := (nI (110 + 16 * r))) (ai (a := 108 + 16 * r) (b := 2) rfl rfl (by omega)) ?_
  refine lv_aload_n hx hb dX7_finishes_23 rfl (lv_at hl 2 rfl) ?_
  refine mg_st cx wo m_631 dX7_finishes_24 ?_
  refine lv_iload_n hx hb dX7_finishes_27 rfl (lv_at hl 1 rfl) ?_
  refine lv_iload_n hx hb dX7_finishes_28 rfl (lv_at hl 0 rfl) ?_
  refine lv_iadd hx hb dX7_finishes_29 ?_
  refine tope (y := (nI (110 + 16 * r))) (ai (a := 108 + 16 * r) (b := 2) rfl rfl (by omega)) ?_
  refine lv_iconst (v := 2) hx hb dX7_finishes_30 (by decide) ?_
  refine lv_iadd hx hb dX7_finishes_31 ?_
  refine tope (y := (nI (112 + 16 * r))) (ai (a := 110 + 16 * r) (b := 2) rfl rfl (by omega)) ?_
  refine ml_st (n := 112 + 16 * r) cx wo rfl (by omega) dX7_finishes_32 ?_
  refine tope (y := (g (112 + 16 * r))) (show (upd (upd g (108 + 16 * r) (g (110 + 16 * r))) (109 + 16 * r) (g (111 + 16 * r))) (112 + 16 * r) = (g (112 + 16 * r)) from (rdN (by omega) (rdN (by omega) rfl))) ?_
  refine ms_st (n := 110 + 16 * r) cx wo rfl (by omega) dX7_finishes_33 (fun H locs gz hgz wo => ?_)
  subst hgz
  refine lv_iinc (v := 3) (lv' := [(3, .int 3), (2, .int (nI (108 + 16 * r))), (0, .ref (am 0)), (1, .int (nI r))]) hx hb dX7_finishes_34 hl (k := 0) rfl (by decide) (by decide) rfl (fun ls hl => ?_)
  refine lv_goto (tgt := 10) hx hb dX7_finishes_37 (by decide) ?_
  refine lv_iload_n hx hb dX7_finishes_10 rfl (lv_at hl 0 rfl) ?_
  refine lv_bipush (v := 14) hx hb dX7_finishes_11 (by decide) ?_
  refine lv_icmp_ge (tgt := 40) hx hb dX7_finishes_13 (by decide) (fun h => absurd h (by decide)) (fun _ => ?_)
  refine lv_aload_n hx hb dX7_finishes_16 rfl (lv_at hl 2 rfl) ?_
  refine mg_st cx wo m_631 dX7_finishes_17 ?_
  refine lv_iload_n hx hb dX7_finishes_20 rfl (lv_at hl 1 rfl) ?_
  refine lv_iload_n hx hb dX7_finishes_21 rfl (lv_at hl 0 rfl) ?_
  refine lv_iadd hx hb dX7_finishes_22 ?_
  refine tope (y := (nI (111 + 16 * r))) (ai (a := 108 + 16 * r) (b := 3) rfl rfl (by omega)) ?_
  refine lv_aload_n hx hb dX7_finishes_23 rfl (lv_at hl 2 rfl) ?_
  refine mg_st cx wo m_631 dX7_finishes_24 ?_
  refine lv_iload_n hx hb dX7_finishes_27 rfl (lv_at hl 1 rfl) ?_
  refine lv_iload_n hx hb dX7_finishes_28 rfl (lv_at hl 0 rfl) ?_
  refine lv_iadd hx hb dX7_finishes_29 ?_
  refine tope (y := (nI (111 + 16 * r))) (ai (a := 108 + 16 * r) (b := 3) rfl rfl (by omega)) ?_
  refine lv_iconst (v := 2) hx hb dX7_finishes_30 (by decide) ?_
  refine lv_iadd hx hb dX7_finishes_31 ?_
  refine tope (y := (nI (113 + 16 * r))) (ai (a := 111 + 16 * r) (b := 2) rfl rfl (by omega)) ?_
  refine ml_st (n := 113 + 16 * r) cx wo rfl (by omega) dX7_finishes_32 ?_
  refine tope (y := (g (113 + 16 * r))) (show (upd (upd (upd g (108 + 16 * r) (g (110 + 16 * r))) (109 + 16 * r) (g (111 + 16 * r))) (110 + 16 * r) (g (112 + 16 * r))) (113 + 16 * r) = (g (113 + 16 * r)) from (rdN (by omega) (rdN (by omega) (rdN (by omega) rfl)))) ?_
  refine ms_st (n := 111 + 16 * r) cx wo rfl (by omega) dX7_finishes_33 (fun H locs gz hgz wo => ?_)
  subst hgz
  refine lv_iinc (v := 4) (lv' := [(3, .int 4), (2, .int (nI (108 + 16 * r))), (0, .ref (am 0)), (1, .int (nI r))]) hx hb dX7_finishes_34 hl (k := 0) rfl (by decide) (by decide) rfl (fun ls hl => ?_)
  refine lv_goto (tgt := 10) hx hb dX7_finishes_37 (by decide) ?_
  refine lv_iload_n hx hb dX7_finishes_10 rfl (lv_at hl 0 rfl) ?_
  refine lv_bipush (v := 14) hx hb dX7_finishes_11 (by decide) ?_
  refine lv_icmp_ge (tgt := 40) hx hb dX7_finishes_13 (by decide) (fun h => absurd h (by decide)) (fun _ => ?_)
  refine lv_aload_n hx hb dX7_finishes_16 rfl (lv_at hl 2 rfl) ?_
  refine mg_st cx wo m_631 dX7_finishes_17 ?_
  refine lv_iload_n hx hb dX7_finishes_20 rfl (lv_at hl 1 rfl) ?_
  refine lv_iload_n hx hb dX7_finishes_21 rfl (lv_at hl 0 rfl) ?_
  refine lv_iadd hx hb dX7_finishes_22 ?_
  refine tope (y := (nI (112 + 16 * r))) (ai (a := 108 + 16 * r) (b := 4) rfl rfl (by omega)) ?_
  refine lv_aload_n hx hb dX7_finishes_23 rfl (lv_at hl 2 rfl) ?_
  refine mg_st cx wo m_631 dX7_finishes_24 ?_
  refine lv_iload_n hx hb dX7_finishes_27 rfl (lv_at hl 1 rfl) ?_
  refine lv_iload_n hx hb dX7_finishes_28 rfl (lv_at hl 0 rfl) ?_
  refine lv_iadd hx hb dX7_finishes_29 ?_
  refine tope (y := (nI (112 + 16 * r))) (ai (a := 108 + 16 * r) (b := 4) rfl rfl (by omega)) ?_
  refine lv_iconst (v := 2) hx hb dX7_finishes_30 (by decide) ?_
  refine lv_iadd hx hb dX7_finishes_31 ?_
  refine tope (y := (nI (114 + 16 * r))) (ai (a := 112 + 16 * r) (b := 2) rfl rfl (by omega)) ?_
  refine ml_st (n := 114 + 16 * r) cx wo rfl (by omega) dX7_finishes_32 ?_
  refine tope (y := (g (114 + 16 * r))) (show (upd (upd (upd (upd g (108 + 16 * r) (g (110 + 16 * r))) (109 + 16 * r) (g (111 + 16 * r))) (110 + 16 * r) (g (112 + 16 * r))) (111 + 16 * r) (g (113 + 16 * r))) (114 + 16 * r) = (g (114 + 16 * r)) from (rdN (by omega) (rdN (by omega) (rdN (by omega) (rdN (by omega) rfl))))) ?_
  refine ms_st (n := 112 + 16 * r) cx wo rfl (by omega) dX7_finishes_33 (fun H locs gz hgz wo => ?_)
  subst hgz
  refine lv_iinc (v := 5) (lv' := [(3, .int 5), (2, .int (nI (108 + 16 * r))), (0, .ref (am 0)), (1, .int (nI r))]) hx hb dX7_finishes_34 hl (k := 0) rfl (by decide) (by decide) rfl (fun ls hl => ?_)
  refine lv_goto (tgt := 10) hx hb dX7_finishes_37 (by decide) ?_
  refine lv_iload_n hx hb dX7_finishes_10 rfl (lv_at hl 0 rfl) ?_
  refine lv_bipush (v := 14) hx hb dX7_finishes_11 (by decide) ?_
  refine lv_icmp_ge (tgt := 40) hx hb dX7_finishes_13 (by decide) (fun h => absurd h (by decide)) (fun _ => ?_)
  refine lv_aload_n hx hb dX7_finishes_16 rfl (lv_at hl 2 rfl) ?_
  refine mg_st cx wo m_631 dX7_finishes_17 ?_
  refine lv_iload_n hx hb dX7_finishes_20 rfl (lv_at hl 1 rfl) ?_
  refine lv_iload_n hx hb dX7_finishes_21 rfl (lv_at hl 0 rfl) ?_
  refine lv_iadd hx hb dX7_finishes_22 ?_
  refine tope (y := (nI (113 + 16 * r))) (ai (a := 108 + 16 * r) (b := 5) rfl rfl (by omega)) ?_
  refine lv_aload_n hx hb dX7_finishes_23 rfl (lv_at hl 2 rfl) ?_
  refine mg_st cx wo m_631 dX7_finishes_24 ?_
  refine lv_iload_n hx hb dX7_finishes_27 rfl (lv_at hl 1 rfl) ?_
  refine lv_iload_n hx hb dX7_finishes_28 rfl (lv_at hl 0 rfl) ?_
  refine lv_iadd hx hb dX7_finishes_29 ?_
  refine tope (y := (nI (113 + 16 * r))) (ai (a := 108 + 16 * r) (b := 5) rfl rfl (by omega)) ?_
  refine lv_iconst (v := 2) hx hb dX7_finishes_30 (by decide) ?_
  refine lv_iadd hx hb dX7_finishes_31 ?_
  refine tope (y := (nI (115 + 16 * r))) (ai (a := 113 + 16 * r) (b := 2) rfl rfl (by omega)) ?_
  refine ml_st (n := 115 + 16 * r) cx wo rfl (by omega) dX7_finishes_32 ?_
  refine tope (y := (g (115 + 16 * r))) (show (upd (upd (upd (upd (upd g (108 + 16 * r) (g (110 + 16 * r))) (109 + 16 * r) (g (111 + 16 * r))) (110 + 16 * r) (g (112 + 16 * r))) (111 + 16 * r) (g (113 + 16 * r))) (112 + 16 * r) (g (114 + 16 * r))) (115 + 16 * r) = (g (115 + 16 * r)) from (rdN (by omega) (rdN (by omega) (rdN (by omega) (rdN (by omega) (rdN (by omega) rfl)))))) ?_
  refine ms_st (n := 113 + 16 * r) cx wo rfl (by omega) dX7_finishes_33 (fun H locs gz hgz wo => ?_)
  subst hgz
  refine lv_iinc (v := 6) (lv' := [(3, .int 6), (2, .int (nI (108 + 16 * r))), (0, .ref (am 0)), (1, .int (nI r))]) hx hb dX7_finishes_34 hl (k := 0) rfl (by decide) (by decide) rfl (fun ls hl => ?_)
  refine lv_goto (tgt := 10) hx hb dX7_finishes_37 (by decide) ?_
  refine lv_iload_n hx hb dX7_finishes_10 rfl (lv_at hl 0 rfl) ?_
  refine lv_bipush (v := 14) hx hb dX7_finishes_11 (by decide) ?_
  refine lv_icmp_ge (tgt := 40) hx hb dX7_finishes_13 (by decide) (fun h => absurd h (by decide)) (fun _ => ?_)
  refine lv_aload_n hx hb dX7_finishes_16 rfl (lv_at hl 2 rfl) ?_
  refine mg_st cx wo m_631 dX7_finishes_17 ?_
  refine lv_iload_n hx hb dX7_finishes_20 rfl (lv_at hl 1 rfl) ?_
  refine lv_iload_n hx hb dX7_finishes_21 rfl (lv_at hl 0 rfl) ?_
  refine lv_iadd hx hb dX7_finishes_22 ?_
  refine tope (y := (nI (114 + 16 * r))) (ai (a := 108 + 16 * r) (b := 6) rfl rfl (by omega)) ?_
  refine lv_aload_n hx hb dX7_finishes_23 rfl (lv_at hl 2 rfl) ?_
  refine mg_st cx wo m_631 dX7_finishes_24 ?_
  refine lv_iload_n hx hb dX7_finishes_27 rfl (lv_at hl 1 rfl) ?_
  refine lv_iload_n hx hb dX7_finishes_28 rfl (lv_at hl 0 rfl) ?_
  refine lv_iadd hx hb dX7_finishes_29 ?_
  refine tope (y := (nI (114 + 16 * r))) (ai (a := 108 + 16 * r) (b := 6) rfl rfl (by omega)) ?_
  refine lv_iconst (v := 2) hx hb dX7_finishes_30 (by decide) ?_
  refine lv_iadd hx hb dX7_finishes_31 ?_
  refine tope (y := (nI (116 + 16 * r))) (ai (a := 114 + 16 * r) (b := 2) rfl rfl (by omega)) ?_
  refine ml_st (n := 116 + 16 * r) cx wo rfl (by omega) dX7_finishes_32 ?_
  refine tope (y := (g (116 + 16 * r))) (show (upd (upd (upd (upd (upd (upd g (108 + 16 * r) (g (110 + 16 * r))) (109 + 16 * r) (g (111 + 16 * r))) (110 + 16 * r) (g (112 + 16 * r))) (111 + 16 * r) (g (113 + 16 * r))) (112 + 16 * r) (g (114 + 16 * r))) (113 + 16 * r) (g (115 + 16 * r))) (116 + 16 * r) = (g (116 + 16 * r)) from (rdN (by omega) (rdN (by omega) (rdN (by omega) (rdN (by omega) (rdN (by omega) (rdN (by omega) rfl))))))) ?_
  refine ms_st (n := 114 + 16 * r) cx wo rfl (by omega) dX7_finishes_33 (fun H locs gz hgz wo => ?_)
  subst hgz
  refine lv_iinc (v := 7) (lv' := [(3, .int 7), (2, .int (nI (108 + 16 * r))), (0, .ref (am 0)), (1, .int (nI r))]) hx hb dX7_finishes_34 hl (k := 0) rfl (by decide) (by decide) rfl (fun ls hl => ?_)
  refine lv_goto (tgt := 10) hx hb dX7_finishes_37 (by decide) ?_
  refine lv_iload_n hx hb dX7_finishes_10 rfl (lv_at hl 0 rfl) ?_
  refine lv_bipush (v := 14) hx hb dX7_finishes_11 (by decide) ?_
  refine lv_icmp_ge (tgt := 40) hx hb dX7_finishes_13 (by decide) (fun h => absurd h (by decide)) (fun _ => ?_)
  refine lv_aload_n hx hb dX7_finishes_16 rfl (lv_at hl 2 rfl) ?_
  refine mg_st cx wo m_631 dX7_finishes_17 ?_
  refine lv_iload_n hx hb dX7_finishes_20 rfl (lv_at hl 1 rfl) ?_
  refine lv_iload_n hx hb dX7_finishes_21 rfl (lv_at hl 0 rfl) ?_
  refine lv_iadd hx hb dX7_finishes_22 ?_
  refine tope (y := (nI (115 + 16 * r))) (ai (a := 108 + 16 * r) (b := 7) rfl rfl (by omega)) ?_
  refine lv_aload_n hx hb dX7_finishes_23 rfl (lv_at hl 2 rfl) ?_
  refine mg_st cx wo m_631 dX7_finishes_24 ?_
  refine lv_iload_n hx hb dX7_finishes_27 rfl (lv_at hl 1 rfl) ?_
  refine lv_iload_n hx hb dX7_finishes_28 rfl (lv_at hl 0 rfl) ?_
  refine lv_iadd hx hb dX7_finishes_29 ?_
  refine tope (y := (nI (115 + 16 * r))) (ai (a := 108 + 16 * r) (b := 7) rfl rfl (by omega)) ?_
  refine lv_iconst (v := 2) hx hb dX7_finishes_30 (by decide) ?_
  refine lv_iadd hx hb dX7_finishes_31 ?_
  refine tope (y := (nI (117 + 16 * r))) (ai (a := 115 + 16 * r) (b := 2) rfl rfl (by omega)) ?_
  refine ml_st (n := 117 + 16 * r) cx wo rfl (by omega) dX7_finishes_32 ?_
  refine tope (y := (g (117 + 16 * r))) (show (upd (upd (upd (upd (upd (upd (upd g (108 + 16 * r) (g (110 + 16 * r))) (109 + 16 * r) (g (111 + 16 * r))) (110 + 16 * r) (g (112 + 16 * r))) (111 + 16 * r) (g (113 + 16 * r))) (112 + 16 * r) (g (114 + 16 * r))) (113 + 16 * r) (g (115 + 16 * r))) (114 + 16 * r) (g (116 + 16 * r))) (117 + 16 * r) = (g (117 + 16 * r)) from (rdN (by omega) (rdN (by omega) (rdN (by omega) (rdN (by omega) (rdN (by omega) (rdN (by omega) (rdN (by omega) rfl)))))))) ?_
  refine ms_st (n := 115 + 16 * r) cx wo rfl (by omega) dX7_finishes_33 (fun H locs gz hgz wo => ?_)
  subst hgz
  refine lv_iinc (v := 8) (lv' := [(3, .int 8), (2, .int (nI (108 + 16 * r))), (0, .ref (am 0)), (1, .int (nI r))]) hx hb dX7_finishes_34 hl (k := 0) rfl (by decide) (by decide) rfl (fun ls hl => ?_)
  refine lv_goto (tgt := 10) hx hb dX7_finishes_37 (by decide) ?_
  refine lv_iload_n hx hb dX7_finishes_10 rfl (lv_at hl 0 rfl) ?_
  refine lv_bipush (v := 14) hx hb dX7_finishes_11 (by decide) ?_
  refine lv_icmp_ge (tgt := 40) hx hb dX7_finishes_13 (by decide) (fun h => absurd h (by decide)) (fun _ => ?_)
  refine lv_aload_n hx hb dX7_finishes_16 rfl (lv_at hl 2 rfl) ?_
  refine mg_st cx wo m_631 dX7_finishes_17 ?_
  refine lv_iload_n hx hb dX7_finishes_20 rfl (lv_at hl 1 rfl) ?_
  refine lv_iload_n hx hb dX7_finishes_21 rfl (lv_at hl 0 rfl) ?_
  refine lv_iadd hx hb dX7_finishes_22 ?_
  refine tope (y := (nI (116 + 16 * r))) (ai (a := 108 + 16 * r) (b := 8) rfl rfl (by omega)) ?_
  refine lv_aload_n hx hb dX7_finishes_23 rfl (lv_at hl 2 rfl) ?_
  refine mg_st cx wo m_631 dX7_finishes_24 ?_
  refine lv_iload_n hx hb dX7_finishes_27 rfl (lv_at hl 1 rfl) ?_
  refine lv_iload_n hx hb dX7_finishes_28 rfl (lv_at hl 0 rfl) ?_
  refine lv_iadd hx hb dX7_finishes_29 ?_
  refine tope (y := (nI (116 + 16 * r))) (ai (a := 108 + 16 * r) (b := 8) rfl rfl (by omega)) ?_
  refine lv_iconst (v := 2) hx hb dX7_finishes_30 (by decide) ?_
  refine lv_iadd hx hb dX7_finishes_31 ?_
  refine tope (y := (nI (118 + 16 * r))) (ai (a := 116 + 16 * r) (b := 2) rfl rfl (by omega)) ?_
  refine ml_st (n := 118 + 16 * r) cx wo rfl (by omega) dX7_finishes_32 ?_
  refine tope (y := (g (118 + 16 * r))) (show (upd (upd (upd (upd (upd (upd (upd (upd g (108 + 16 * r) (g (110 + 16 * r))) (109 + 16 * r) (g (111 + 16 * r))) (110 + 16 * r) (g (112 + 16 * r))) (111 + 16 * r) (g (113 + 16 * r))) (112 + 16 * r) (g (114 + 16 * r))) (113 + 16 * r) (g (115 + 16 * r))) (114 + 16 * r) (g (116 + 16 * r))) (115 + 16 * r) (g (117 + 16 * r))) (118 + 16 * r) = (g (118 + 16 * r)) from (rdN (by omega) (rdN (by omega) (rdN (by omega) (rdN (by omega) (rdN (by omega) (rdN (by omega) (rdN (by omega) (rdN (by omega) rfl))))))))) ?_
  refine ms_st (n := 116 + 16 * r) cx wo rfl (by omega) dX7_finishes_33 (fun H locs gz hgz wo => ?_)
  subst hgz
  refine lv_iinc (v := 9) (lv' := [(3, .int 9), (2, .int (nI (108 + 16 * r))), (0, .ref (am 0)), (1, .int (nI r))]) hx hb dX7_finishes_34 hl (k := 0) rfl (by decide) (by decide) rfl (fun ls hl => ?_)
  refine lv_goto (tgt := 10) hx hb dX7_finishes_37 (by decide) ?_
  refine lv_iload_n hx hb dX7_finishes_10 rfl (lv_at hl 0 rfl) ?_
  refine lv_bipush (v := 14) hx hb dX7_finishes_11 (by decide) ?_
  refine lv_icmp_ge (tgt := 40) hx hb dX7_finishes_13 (by decide) (fun h => absurd h (by decide)) (fun _ => ?_)
  refine lv_aload_n hx hb dX7_finishes_16 rfl (lv_at hl 2 rfl) ?_
  refine mg_st cx wo m_631 dX7_finishes_17 ?_
  refine lv_iload_n hx hb dX7_finishes_20 rfl (lv_at hl 1 rfl) ?_
  refine lv_iload_n hx hb dX7_finishes_21 rfl (lv_at hl 0 rfl) ?_
  refine lv_iadd hx hb dX7_finishes_22 ?_
  refine tope (y := (nI (117 + 16 * r))) (ai (a := 108 + 16 * r) (b := 9) rfl rfl (by omega)) ?_
  refine lv_aload_n hx hb dX7_finishes_23 rfl (lv_at hl 2 rfl) ?_
  refine mg_st cx wo m_631 dX7_finishes_24 ?_
  refine lv_iload_n hx hb dX7_finishes_27 rfl (lv_at hl 1 rfl) ?_
  refine lv_iload_n hx hb dX7_finishes_28 rfl (lv_at hl 0 rfl) ?_
  refine lv_iadd hx hb dX7_finishes_29 ?_
  refine tope (y := (nI (117 + 16 * r))) (ai (a := 108 + 16 * r) (b := 9) rfl rfl (by omega)) ?_
  refine lv_iconst (v := 2) hx hb dX7_finishes_30 (by decide) ?_
  refine lv_iadd hx hb dX7_finishes_31 ?_
  refine tope (y := (nI (119 + 16 * r))) (ai (a := 117 + 16 * r) (b := 2) rfl rfl (by omega)) ?_
  refine ml_st (n := 119 + 16 * r) cx wo rfl (by omega) dX7_finishes_32 ?_
  refine tope (y := (g (119 + 16 * r))) (show (upd (upd (upd (upd (upd (upd (upd (upd (upd g (108 + 16 * r) (g (110 + 16 * r))) (109 + 16 * r) (g (111 + 16 * r))) (110 + 16 * r) (g (112 + 16 * r))) (111 + 16 * r) (g (113 + 16 * r))) (112 + 16 * r) (g (114 + 16 * r))) (113 + 16 * r) (g (115 + 16 * r))) (114 + 16 * r) (g (116 + 16 * r))) (115 + 16 * r) (g (117 + 16 * r))) (116 + 16 * r) (g (118 + 16 * r))) (119 + 16 * r) = (g (119 + 16 * r)) from (rdN (by omega) (rdN (by omega) (rdN (by omega) (rdN (by omega) (rdN (by omega) (rdN (by omega) (rdN (by omega) (rdN (by omega) (rdN (by omega) rfl)))))))))) ?_
  refine ms_st (n := 117 + 16 * r) cx wo rfl (by omega) dX7_finishes_33 (fun H locs gz hgz wo => ?_)
  subst hgz
  refine lv_iinc (v := 10) (lv' := [(3, .int 10), (2, .int (nI (108 + 16 * r))), (0, .ref (am 0)), (1, .int (nI r))]) hx hb dX7_finishes_34 hl (k := 0) rfl (by decide) (by decide) rfl (fun ls hl => ?_)
  refine lv_goto (tgt := 10) hx hb dX7_finishes_37 (by decide) ?_
  refine lv_iload_n hx hb dX7_finishes_10 rfl (lv_at hl 0 rfl) ?_
  refine lv_bipush (v := 14) hx hb dX7_finishes_11 (by decide) ?_
  refine lv_icmp_ge (tgt := 40) hx hb dX7_finishes_13 (by decide) (fun h => absurd h (by decide)) (fun _ => ?_)
  refine lv_aload_n hx hb dX7_finishes_16 rfl (lv_at hl 2 rfl) ?_
  refine mg_st cx wo m_631 dX7_finishes_17 ?_
  refine lv_iload_n hx hb dX7_finishes_20 rfl (lv_at hl 1 rfl) ?_
  refine lv_iload_n hx hb dX7_finishes_21 rfl (lv_at hl 0 rfl) ?_
  refine lv_iadd hx hb dX7_finishes_22 ?_
  refine tope (y := (nI (118 + 16 * r))) (ai (a := 108 + 16 * r) (b := 10) rfl rfl (by omega)) ?_
  refine lv_aload_n hx hb dX7_finishes_23 rfl (lv_at hl 2 rfl) ?_
  refine mg_st cx wo m_631 dX7_finishes_24 ?_
  refine lv_iload_n hx hb dX7_finishes_27 rfl (lv_at hl 1 rfl) ?_
  refine lv_iload_n hx hb dX7_finishes_28 rfl (lv_at hl 0 rfl) ?_
  refine lv_iadd hx hb dX7_finishes_29 ?_
  refine tope (y := (nI (118 + 16 * r))) (ai (a := 108 + 16 * r) (b := 10) rfl rfl (by omega)) ?_
  refine lv_iconst (v := 2) hx hb dX7_finishes_30 (by decide) ?_
  refine lv_iadd hx hb dX7_finishes_31 ?_
  refine tope (y := (nI (120 + 16 * r))) (ai (a := 118 + 16 * r) (b := 2) rfl rfl (by omega)) ?_
  refine ml_st (n := 120 + 16 * r) cx wo rfl (by omega) dX7_finishes_32 ?_
  refine tope (y := (g (120 + 16 * r))) (show (upd (upd (upd (upd (upd (upd (upd (upd (upd (upd g (108 + 16 * r) (g (110 + 16 * r))) (109 + 16 * r) (g (111 + 16 * r))) (110 + 16 * r) (g (112 + 16 * r))) (111 + 16 * r) (g (113 + 16 * r))) (112 + 16 * r) (g (114 + 16 * r))) (113 + 16 * r) (g (115 + 16 * r))) (114 + 16 * r) (g (116 + 16 * r))) (115 + 16 * r) (g (117 + 16 * r))) (116 + 16 * r) (g (118 + 16 * r))) (117 + 16 * r) (g (119 + 16 * r))) (120 + 16 * r) = (g (120 + 16 * r)) from (rdN (by omega) (rdN (by omega) (rdN (by omega) (rdN (by omega) (rdN (by omega) (rdN (by omega) (rdN (by omega) (rdN (by omega) (rdN (by omega) (rdN (by omega) rfl))))))))))) ?_
  refine ms_st (n := 118 + 16 * r) cx wo rfl (by omega) dX7_finishes_33 (fun H locs gz hgz wo => ?_)
  subst hgz
  refine lv_iinc (v := 11) (lv' := [(3, .int 11), (2, .int (nI (108 + 16 * r))), (0, .ref (am 0)), (1, .int (nI r))]) hx hb dX7_finishes_34 hl (k := 0) rfl (by decide) (by decide) rfl (fun ls hl => ?_)
  refine lv_goto (tgt := 10) hx hb dX7_finishes_37 (by decide) ?_
  refine lv_iload_n hx hb dX7_finishes_10 rfl (lv_at hl 0 rfl) ?_
  refine lv_bipush (v := 14) hx hb dX7_finishes_11 (by decide) ?_
  refine lv_icmp_ge (tgt := 40) hx hb dX7_finishes_13 (by decide) (fun h => absurd h (by decide)) (fun _ => ?_)
  refine lv_aload_n hx hb dX7_finishes_16 rfl (lv_at hl 2 rfl) ?_
  refine mg_st cx wo m_631 dX7_finishes_17 ?_
  refine lv_iload_n hx hb dX7_finishes_20 rfl (lv_at hl 1 rfl) ?_
  refine lv_iload_n hx hb dX7_finishes_21 rfl (lv_at hl 0 rfl) ?_
  refine lv_iadd hx hb dX7_finishes_22 ?_
  refine tope (y := (nI (119 + 16 * r))) (ai (a := 108 + 16 * r) (b := 11) rfl rfl (by omega)) ?_
  refine lv_aload_n hx hb dX7_finishes_23 rfl (lv_at hl 2 rfl) ?_
  refine mg_st cx wo m_631 dX7_finishes_24 ?_
  refine lv_iload_n hx hb dX7_finishes_27 rfl (lv_at hl 1 rfl) ?_
  refine lv_iload_n hx hb dX7_finishes_28 rfl (lv_at hl 0 rfl) ?_
  refine lv_iadd hx hb dX7_finishes_29 ?_
  refine tope (y := (nI (119 + 16 * r))) (ai (a := 108 + 16 * r) (b := 11) rfl rfl (by omega)) ?_
  refine lv_iconst (v := 2) hx hb dX7_finishes_30 (by decide) ?_
  refine lv_iadd hx hb dX7_finishes_31 ?_
  refine tope (y := (nI (121 + 16 * r))) (ai (a := 119 + 16 * r) (b := 2) rfl rfl (by omega)) ?_
  refine ml_st (n := 121 + 16 * r) cx wo rfl (by omega) dX7_finishes_32 ?_
  refine tope (y := (g (121 + 16 * r))) (show (upd (upd (upd (upd (upd (upd (upd (upd (upd (upd (upd g (108 + 16 * r) (g (110 + 16 * r))) (109 + 16 * r) (g (111 + 16 * r))) (110 + 16 * r) (g (112 + 16 * r))) (111 + 16 * r) (g (113 + 16 * r))) (112 + 16 * r) (g (114 + 16 * r))) (113 + 16 * r) (g (115 + 16 * r))) (114 + 16 * r) (g (116 + 16 * r))) (115 + 16 * r) (g (117 + 16 * r))) (116 + 16 * r) (g (118 + 16 * r))) (117 + 16 * r) (g (119 + 16 * r))) (118 + 16 * r) (g (120 + 16 * r))) (121 + 16 * r) = (g (121 + 16 * r)) from (rdN (by omega) (rdN (by omega) (rdN (by omega) (rdN (by omega) (rdN (by omega) (rdN (by omega) (rdN (by omega) (rdN (by omega) (rdN (by omega) (rdN (by omega) (rdN (by omega) rfl)))))))))))) ?_
  refine ms_st (n := 119 + 16 * r) cx wo rfl (by omega) dX7_finishes_33 (fun H locs gz hgz wo => ?_)
  subst hgz
  refine lv_iinc (v := 12) (lv' := [(3, .int 12), (2, .int (nI (108 + 16 * r))), (0, .ref (am 0)), (1, .int (nI r))]) hx hb dX7_finishes_34 hl (k := 0) rfl (by decide) (by decide) rfl (fun ls hl => ?_)
  refine lv_goto (tgt := 10) hx hb dX7_finishes_37 (by decide) ?_
  refine lv_iload_n hx hb dX7_finishes_10 rfl (lv_at hl 0 rfl) ?_
  refine lv_bipush (v := 14) hx hb dX7_finishes_11 (by decide) ?_
  refine lv_icmp_ge (tgt := 40) hx hb dX7_finishes_13 (by decide) (fun h => absurd h (by decide)) (fun _ => ?_)
  refine lv_aload_n hx hb dX7_finishes_16 rfl (lv_at hl 2 rfl) ?_
  refine mg_st cx wo m_631 dX7_finishes_17 ?_
  refine lv_iload_n hx hb dX7_finishes_20 rfl (lv_at hl 1 rfl) ?_
  refine lv_iload_n hx hb dX7_finishes_21 rfl (lv_at hl 0 rfl) ?_
  refine lv_iadd hx hb dX7_finishes_22 ?_
  refine tope (y := (nI (120 + 16 * r))) (ai (a := 108 + 16 * r) (b := 12) rfl rfl (by omega)) ?_
  refine lv_aload_n hx hb dX7_finishes_23 rfl (lv_at hl 2 rfl) ?_
  refine mg_st cx wo m_631 dX7_finishes_24 ?_
  refine lv_iload_n hx hb dX7_finishes_27 rfl (lv_at hl 1 rfl) ?_
  refine lv_iload_n hx hb dX7_finishes_28 rfl (lv_at hl 0 rfl) ?_
  refine lv_iadd hx hb dX7_finishes_29 ?_
  refine tope (y := (nI (120 + 16 * r))) (ai (a := 108 + 16 * r) (b := 12) rfl rfl (by omega)) ?_
  refine lv_iconst (v := 2) hx hb dX7_finishes_30 (by decide) ?_
  refine lv_iadd hx hb dX7_finishes_31 ?_
  refine tope (y := (nI (122 + 16 * r))) (ai (a := 120 + 16 * r) (b := 2) rfl rfl (by omega)) ?_
  refine ml_st (n := 122 + 16 * r) cx wo rfl (by omega) dX7_finishes_32 ?_
  refine tope (y := (g (122 + 16 * r))) (show (upd (upd (upd (upd (upd (upd (upd (upd (upd (upd (upd (upd g (108 + 16 * r) (g (110 + 16 * r))) (109 + 16 * r) (g (111 + 16 * r))) (110 + 16 * r) (g (112 + 16 * r))) (111 + 16 * r) (g (113 + 16 * r))) (112 + 16 * r) (g (114 + 16 * r))) (113 + 16 * r) (g (115 + 16 * r))) (114 + 16 * r) (g (116 + 16 * r))) (115 + 16 * r) (g (117 + 16 * r))) (116 + 16 * r) (g (118 + 16 * r))) (117 + 16 * r) (g (119 + 16 * r))) (118 + 16 * r) (g (120 + 16 * r))) (119 + 16 * r) (g (121 + 16 * r))) (122 + 16 * r) = (g (122 + 16 * r)) from (rdN (by omega) (rdN (by omega) (rdN (by omega) (rdN (by omega) (rdN (by omega) (rdN (by omega) (rdN (by omega) (rdN (by omega) (rdN (by omega) (rdN (by omega) (rdN (by omega) (rdN (by omega) rfl))))))))))))) ?_
  refine ms_st (n := 120 + 16 * r) cx wo rfl (by omega) dX7_finishes_33 (fun H locs gz hgz wo => ?_)
  subst hgz
  refine lv_iinc (v := 13) (lv' := [(3, .int 13), (2, .int (nI (108 + 16 * r))), (0, .ref (am 0)), (1, .int (nI r))]) hx hb dX7_finishes_34 hl (k := 0) rfl (by decide) (by decide) rfl (fun ls hl => ?_)
  refine lv_goto (tgt := 10) hx hb dX7_finishes_37 (by decide) ?_
  refine lv_iload_n hx hb dX7_finishes_10 rfl (lv_at hl 0 rfl) ?_
  refine lv_bipush (v := 14) hx hb dX7_finishes_11 (by decide) ?_
  refine lv_icmp_ge (tgt := 40) hx hb dX7_finishes_13 (by decide) (fun h => absurd h (by decide)) (fun _ => ?_)
  refine lv_aload_n hx hb dX7_finishes_16 rfl (lv_at hl 2 rfl) ?_
  refine mg_st cx wo m_631 dX7_finishes_17 ?_
  refine lv_iload_n hx hb dX7_finishes_20 rfl (lv_at hl 1 rfl) ?_
  refine lv_iload_n hx hb dX7_finishes_21 rfl (lv_at hl 0 rfl) ?_
  refine lv_iadd hx hb dX7_finishes_22 ?_
  refine tope (y := (nI (121 + 16 * r))) (ai (a := 108 + 16 * r) (b := 13) rfl rfl (by omega)) ?_
  refine lv_aload_n hx hb dX7_finishes_23 rfl (lv_at hl 2 rfl) ?_
  refine mg_st cx wo m_631 dX7_finishes_24 ?_
  refine lv_iload_n hx hb dX7_finishes_27 rfl (lv_at hl 1 rfl) ?_
  refine lv_iload_n hx hb dX7_finishes_28 rfl (lv_at hl 0 rfl) ?_
  refine lv_iadd hx hb dX7_finishes_29 ?_
  refine tope (y := (nI (121 + 16 * r))) (ai (a := 108 + 16 * r) (b := 13) rfl rfl (by omega)) ?_
  refine lv_iconst (v := 2) hx hb dX7_finishes_30 (by decide) ?_
  refine lv_iadd hx hb dX7_finishes_31 ?_
  refine tope (y := (nI (123 + 16 * r))) (ai (a := 121 + 16 * r) (b := 2) rfl rfl (by omega)) ?_
  refine ml_st (n := 123 + 16 * r) cx wo rfl (by omega) dX7_finishes_32 ?_
  refine tope (y := (g (123 + 16 * r))) (show (upd (upd (upd (upd (upd (upd (upd (upd (upd (upd (upd (upd (upd g (108 + 16 * r) (g (110 + 16 * r))) (109 + 16 * r) (g (111 + 16 * r))) (110 + 16 * r) (g (112 + 16 * r))) (111 + 16 * r) (g (113 + 16 * r))) (112 + 16 * r) (g (114 + 16 * r))) (113 + 16 * r) (g (115 + 16 * r))) (114 + 16 * r) (g (116 + 16 * r))) (115 + 16 * r) (g (117 + 16 * r))) (116 + 16 * r) (g (118 + 16 * r))) (117 + 16 * r) (g (119 + 16 * r))) (118 + 16 * r) (g (120 + 16 * r))) (119 + 16 * r) (g (121 + 16 * r))) (120 + 16 * r) (g (122 + 16 * r))) (123 + 16 * r) = (g (123 + 16 * r)) from (rdN (by omega) (rdN (by omega) (rdN (by omega) (rdN (by omega) (rdN (by omega) (rdN (by omega) (rdN (by omega) (rdN (by omega) (rdN (by omega) (rdN (by omega) (rdN (by omega) (rdN (by omega) (rdN (by omega) rfl)))))))))))))) ?_
  refine ms_st (n := 121 + 16 * r) cx wo rfl (by omega) dX7_finishes_33 (fun H locs gz hgz wo => ?_)
  subst hgz
  refine lv_iinc (v := 14) (lv' := [(3, .int 14), (2, .int (nI (108 + 16 * r))), (0, .ref (am 0)), (1, .int (nI r))]) hx hb dX7_finishes_34 hl (k := 0) rfl (by decide) (by decide) rfl (fun ls hl => ?_)
  refine lv_goto (tgt := 10) hx hb dX7_finishes_37 (by decide) ?_
  refine lv_iload_n hx hb dX7_finishes_10 rfl (lv_at hl 0 rfl) ?_
  refine lv_bipush (v := 14) hx hb dX7_finishes_11 (by decide) ?_
  refine lv_icmp_ge (tgt := 40) hx hb dX7_finishes_13 (by decide) (fun _ => ?_) (fun h => absurd (show ¬ _ from h) (by decide))
  refine lv_aload_n hx hb dX7_finishes_40 rfl (lv_at hl 2 rfl) ?_
  refine mg_st cx wo m_631 dX7_finishes_41 ?_
  refine lv_bipush (v := 104) hx hb dX7_finishes_44 (by decide) ?_
  refine lv_iload_n hx hb dX7_finishes_46 rfl (lv_at hl 3 rfl) ?_
  refine lv_iadd hx hb dX7_finishes_47 ?_
  refine tope (y := (nI (104 + r))) (ai (a := 104) (b := r) rfl rfl (by omega)) ?_
  refine lv_dup2_11 hx hb dX7_finishes_48 rfl rfl ?_
  refine ml_st (n := 104 + r) cx wo rfl (by omega) dX7_finishes_49 ?_
  refine tope (y := (g (104 + r))) (show (upd (upd (upd (upd (upd (upd (upd (upd (upd (upd (upd (upd (upd (upd g (108 + 16 * r) (g (110 + 16 * r))) (109 + 16 * r) (g (111 + 16 * r))) (110 + 16 * r) (g (112 + 16 * r))) (111 + 16 * r) (g (113 + 16 * r))) (112 + 16 * r) (g (114 + 16 * r))) (113 + 16 * r) (g (115 + 16 * r))) (114 + 16 * r) (g (116 + 16 * r))) (115 + 16 * r) (g (117 + 16 * r))) (116 + 16 * r) (g (118 + 16 * r))) (117 + 16 * r) (g (119 + 16 * r))) (118 + 16 * r) (g (120 + 16 * r))) (119 + 16 * r) (g (121 + 16 * r))) (120 + 16 * r) (g (122 + 16 * r))) (121 + 16 * r) (g (123 + 16 * r))) (104 + r) = (g (104 + r)) from (rdN (by omega) (rdN (by omega) (rdN (by omega) (rdN (by omega) (rdN (by omega) (rdN (by omega) (rdN (by omega) (rdN (by omega) (rdN (by omega) (rdN (by omega) (rdN (by omega) (rdN (by omega) (rdN (by omega) (rdN (by omega) rfl))))))))))))))) ?_
  refine lv_iconst (v := 1) hx hb dX7_finishes_50 (by decide) ?_
  refine lv_isub hx hb dX7_finishes_51 ?_
  refine ms_st (n := 104 + r) cx wo rfl (by omega) dX7_finishes_52 (fun H locs gz hgz wo => ?_)
  subst hgz
  refine lv_aload_n hx hb dX7_finishes_53 rfl (lv_at hl 2 rfl) ?_
  refine mg_st cx wo m_631 dX7_finishes_54 ?_
  refine lv_sipush (v := 146) hx hb dX7_finishes_57 (by decide) ?_
  refine lv_dup2_11 hx hb dX7_finishes_60 rfl rfl ?_
  refine ml_st (n := 146) cx wo rfl (by omega) dX7_finishes_61 ?_
  refine tope (y := (g 146)) (show (upd (upd (upd (upd (upd (upd (upd (upd (upd (upd (upd (upd (upd (upd (upd g (108 + 16 * r) (g (110 + 16 * r))) (109 + 16 * r) (g (111 + 16 * r))) (110 + 16 * r) (g (112 + 16 * r))) (111 + 16 * r) (g (113 + 16 * r))) (112 + 16 * r) (g (114 + 16 * r))) (113 + 16 * r) (g (115 + 16 * r))) (114 + 16 * r) (g (116 + 16 * r))) (115 + 16 * r) (g (117 + 16 * r))) (116 + 16 * r) (g (118 + 16 * r))) (117 + 16 * r) (g (119 + 16 * r))) (118 + 16 * r) (g (120 + 16 * r))) (119 + 16 * r) (g (121 + 16 * r))) (120 + 16 * r) (g (122 + 16 * r))) (121 + 16 * r) (g (123 + 16 * r))) (104 + r) ((g (104 + r)) - 1)) 146 = (g 146) from (rdN (by omega) (rdN (by omega) (rdN (by omega) (rdN (by omega) (rdN (by omega) (rdN (by omega) (rdN (by omega) (rdN (by omega) (rdN (by omega) (rdN (by omega) (rdN (by omega) (rdN (by omega) (rdN (by omega) (rdN (by omega) (rdN (by omega) rfl)))))))))))))))) ?_
  refine lv_iconst (v := 1) hx hb dX7_finishes_62 (by decide) ?_
  refine lv_iadd hx hb dX7_finishes_63 ?_
  refine ms_st (n := 146) cx wo rfl (by omega) dX7_finishes_64 (fun H locs gz hgz wo => ?_)
  subst hgz
  exact r2_v cx hQ wo dX7_finishes_65 (by subst hM; exact ⟨rfl, rfl⟩)
abbrev rm_X7_crane : Room := { frames := 1, cells := 0, slots := 0, locals := 22 }
def m_X7_crane (g : St) (x : Int32) (y : Int32) : Int32 :=
  if (m_X7_in x 0 1) = true then (if (m_X7_in y 0 4) = true then (if (nI (y.toNatClampNeg)) = 0 then (g (100 + x.toNatClampNeg))
      else if (nI (y.toNatClampNeg)) = 1 then (if 0 ≤ (g (102 + x.toNatClampNeg)) then (g (102 + x.toNatClampNeg))
        else (-4))
      else if (nI (y.toNatClampNeg)) = 2 then (g (104 + x.toNatClampNeg))
      else if (nI (y.toNatClampNeg)) = 3 then (if (g (104 + x.toNatClampNeg)) = 0 then (-4)
        else (g (108 + 16 * x.toNatClampNeg)))
      else (g (106 + x.toNatClampNeg)))
    else (-1))
  else (-1)
set_option maxHeartbeats 4000000 in
set_option maxRecDepth 100000 in
theorem c_X7_crane (l : Launch) (G : GG) (am : Nat → Nat) (g kf : St) (nk : Int32) (x : Int32) (y : Int32) : Ct l G yX7_crane cX7_crane 3 (some Jvm.ClassFile.FieldType.int) rm_X7_crane [.ref (am 0), .int x, .int y] (mw G am g kf nk) (fun rv W1 => rv = some (.int (m_X7_crane g x y)) ∧ W1 = mw G am g kf nk) := by
  refine Ct.mk2 (by decide) (Nat.le_of_ble_eq_true rfl) ?_
  intro p e s m args below meth c A H locs ls Q cx wo hl hQ
  obtain ⟨hx, hb, hml, hr, hlo, hown, hts, hnm, kn, hA⟩ := id cx
  have hl : lv_has ls 3 [(0, .ref (am 0)), (1, .int x), (2, .int y)] := hl
  generalize hM : m_X7_crane g x y = M at hQ
  unfold m_X7_crane at hM
  refine lv_iload_n hx hb dX7_crane_0 rfl (lv_at hl 1 rfl) ?_
  refine lv_iconst (v := 0) hx hb dX7_crane_1 (by decide) ?_
  refine lv_iconst (v := 1) hx hb dX7_crane_2 (by decide) ?_
  refine call_S (As := [.int x, .int 0, .int 1]) (rest := []) (fun X => X) Fr_id cx (c_X7_in l G _ x 0 1) fx_X7_in m_649 m_650 ⟨by decide, by decide⟩ wo rfl hl.1 rfl (Nat.le_of_ble_eq_true rfl) dX7_crane_3 ⟨by decide, by decide⟩ (fun v W1 H locs hp wo => ?_)
  obtain ⟨rfl, rfl⟩ := hp
  refine nrm_i ?_
  refine if_eq_b (tgt := 18) hx hb dX7_crane_6 (by decide) (fun c_1 => ?_) (fun c_1 => ?_)
  · skip
    rw [if_neg c_1] at hM
    refine lv_iconst (v := (-1)) hx hb dX7_crane_18 (by decide) ?_
    exact r2_i cx hQ wo dX7_crane_19 (by subst hM; exact ⟨rfl, rfl⟩)
  · skip
    rw [if_pos c_1] at hM
    have q_2 := inb (lo := 0) (hi := 1) c_1
    have q_2b := q_2.2
    refine lv_iload_n hx hb dX7_crane_9 rfl (lv_at hl 2 rfl) ?_
    refine lv_iconst (v := 0) hx hb dX7_crane_10 (by decide) ?_
    refine lv_iconst (v := 4) hx hb dX7_crane_11 (by decide) ?_
    refine call_S (As := [.int y, .int 0, .int 4]) (rest := []) (fun X => X) Fr_id cx (c_X7_in l G _ y 0 4) fx_X7_in m_649 m_650 ⟨by decide, by decide⟩ wo rfl hl.1 rfl (Nat.le_of_ble_eq_true rfl) dX7_crane_12 ⟨by decide, by decide⟩ (fun v W1 H locs hp wo => ?_)
    obtain ⟨rfl, rfl⟩ := hp
    refine nrm_i ?_
    refine if_ne_b (tgt := 20) hx hb dX7_crane_15 (by decide) (fun c_3 => ?_) (fun c_3 => ?_)
    · skip
      rw [if_pos c_3] at hM
      have q_4 := inb (lo := 0) (hi := 4) c_3
      have q_4b := q_4.2
      refine lv_iload_n hx hb dX7_crane_20 rfl (lv_at hl 2 rfl) ?_
      refine tope (y := (nI (y.toNatClampNeg))) q_4.1 ?_
      by_cases c_5 : (nI (y.toNatClampNeg)) = 0
      · skip
        rw [if_pos c_5] at hM
        refine lv_tableIn (off := 31) (tgt := 52) hx hb dX7_crane_21 (by rw [c_5]; decide) (by rw [c_5]; decide) (by rw [c_5]; decide) (by decide) ?_
        refine lv_aload_n hx hb dX7_crane_52 rfl (lv_at hl 0 rfl) ?_
        refine mg_st cx wo m_631 dX7_crane_53 ?_
        refine lv_bipush (v := 100) hx hb dX7_crane_56 (by decide) ?_
        refine lv_iload_n hx hb dX7_crane_58 rfl (lv_at hl 1 rfl) ?_
        refine tope (y := (nI (x.toNatClampNeg))) q_2.1 ?_
        refine lv_iadd hx hb dX7_crane_59 ?_
        refine tope (y := (nI (100 + x.toNatClampNeg))) (ai (a := 100) (b := x.toNatClampNeg) rfl rfl (by omega)) ?_
        refine ml_st (n := 100 + x.toNatClampNeg) cx wo rfl (by omega) dX7_crane_60 ?_
        exact r2_i cx hQ wo dX7_crane_61 (by subst hM; exact ⟨rfl, rfl⟩)
      rw [if_neg c_5] at hM
      have c_5n := ne_nI (k := 0) c_5
      by_cases c_6 : (nI (y.toNatClampNeg)) = 1
      · skip
        rw [if_pos c_6] at hM
        refine lv_tableIn (off := 41) (tgt := 62) hx hb dX7_crane_21 (by rw [c_6]; decide) (by rw [c_6]; decide) (by rw [c_6]; decide) (by decide) ?_
        refine lv_aload_n hx hb dX7_crane_62 rfl (lv_at hl 0 rfl) ?_
        refine mg_st cx wo m_631 dX7_crane_63 ?_
        refine lv_bipush (v := 102) hx hb dX7_crane_66 (by decide) ?_
        refine lv_iload_n hx hb dX7_crane_68 rfl (lv_at hl 1 rfl) ?_
        refine tope (y := (nI (x.toNatClampNeg))) q_2.1 ?_
        refine lv_iadd hx hb dX7_crane_69 ?_
        refine tope (y := (nI (102 + x.toNatClampNeg))) (ai (a := 102) (b := x.toNatClampNeg) rfl rfl (by omega)) ?_
        refine ml_st (n := 102 + x.toNatClampNeg) cx wo rfl (by omega) dX7_crane_70 ?_
        refine lv_if_ge (tgt := 79) hx hb dX7_crane_71 (by decide) (fun c_7 => ?_) (fun c_7 => ?_)
        · skip
          rw [if_pos c_7] at hM
          refine lv_aload_n hx hb dX7_crane_79 rfl (lv_at hl 0 rfl) ?_
          refine mg_st cx wo m_631 dX7_crane_80 ?_
          refine lv_bipush (v := 102) hx hb dX7_crane_83 (by decide) ?_
          refine lv_iload_n hx hb dX7_crane_85 rfl (lv_at hl 1 rfl) ?_
          refine tope (y := (nI (x.toNatClampNeg))) q_2.1 ?_
          refine lv_iadd hx hb dX7_crane_86 ?_
          refine tope (y := (nI (102 + x.toNatClampNeg))) (ai (a := 102) (b := x.toNatClampNeg) rfl rfl (by omega)) ?_
          refine ml_st (n := 102 + x.toNatClampNeg) cx wo rfl (by omega) dX7_crane_87 ?_
          exact r2_i cx hQ wo dX7_crane_88 (by subst hM; exact ⟨rfl, rfl⟩)
        · skip
          rw [if_neg c_7] at hM
          refine lv_bipush (v := (-4)) hx hb dX7_crane_74 (by decide) ?_
          refine lv_goto (tgt := 88) hx hb dX7_crane_76 (by decide) ?_
          exact r2_i cx hQ wo dX7_crane_88 (by subst hM; exact ⟨rfl, rfl⟩)
      rw [if_neg c_6] at hM
      have c_6n := ne_nI (k := 1) c_6
      by_cases c_8 : (nI (y.toNatClampNeg)) = 2
      · skip
        rw [if_pos c_8] at hM
        refine lv_tableIn (off := 68) (tgt := 89) hx hb dX7_crane_21 (by rw [c_8]; decide) (by rw [c_8]; decide) (by rw [c_8]; decide) (by decide) ?_
        refine lv_aload_n hx hb dX7_crane_89 rfl (lv_at hl 0 rfl) ?_
        refine mg_st cx wo m_631 dX7_crane_90 ?_
        refine lv_bipush (v := 104) hx hb dX7_crane_93 (by decide) ?_
        refine lv_iload_n hx hb dX7_crane_95 rfl (lv_at hl 1 rfl) ?_
        refine tope (y := (nI (x.toNatClampNeg))) q_2.1 ?_
        refine lv_iadd hx hb dX7_crane_96 ?_
        refine tope (y := (nI (104 + x.toNatClampNeg))) (ai (a := 104) (b := x.toNatClampNeg) rfl rfl (by omega)) ?_
        refine ml_st (n := 104 + x.toNatClampNeg) cx wo rfl (by omega) dX7_crane_97 ?_
        exact r2_i cx hQ wo dX7_crane_98 (by subst hM; exact ⟨rfl, rfl⟩)
      rw [if_neg c_8] at hM
      have c_8n := ne_nI (k := 2) c_8
      by_cases c_9 : (nI (y.toNatClampNeg)) = 3
      · skip
        rw [if_pos c_9] at hM
        refine lv_tableIn (off := 78) (tgt := 99) hx hb dX7_crane_21 (by rw [c_9]; decide) (by rw [c_9]; decide) (by rw [c_9]; decide) (by decide) ?_
        refine lv_aload_n hx hb dX7_crane_99 rfl (lv_at hl 0 rfl) ?_
        refine mg_st cx wo m_631 dX7_crane_100 ?_
        refine lv_bipush (v := 104) hx hb dX7_crane_103 (by decide) ?_
        refine lv_iload_n hx hb dX7_crane_105 rfl (lv_at hl 1 rfl) ?_
        refine tope (y := (nI (x.toNatClampNeg))) q_2.1 ?_
        refine lv_iadd hx hb dX7_crane_106 ?_
        refine tope (y := (nI (104 + x.toNatClampNeg))) (ai (a := 104) (b := x.toNatClampNeg) rfl rfl (by omega)) ?_
        refine ml_st (n := 104 + x.toNatClampNeg) cx wo rfl (by omega) dX7_crane_107 ?_
        refine lv_if_ne (tgt := 116) hx hb dX7_crane_108 (by decide) (fun c_10 => ?_) (fun c_10 => ?_)
        · skip
          rw [if_neg c_10] at hM
          refine lv_aload_n hx hb dX7_crane_116 rfl (lv_at hl 0 rfl) ?_
          refine mg_st cx wo m_631 dX7_crane_117 ?_
          refine lv_bipush (v := 108) hx hb dX7_crane_120 (by decide) ?_
          refine lv_bipush (v := 16) hx hb dX7_crane_122 (by decide) ?_
          refine lv_iload_n hx hb dX7_crane_124 rfl (lv_at hl 1 rfl) ?_
          refine tope (y := (nI (x.toNatClampNeg))) q_2.1 ?_
          refine lv_imul hx hb dX7_crane_125 ?_
          refine tope (y := (nI (16 * x.toNatClampNeg))) (mi (a := 16) (b := x.toNatClampNeg) rfl rfl (by omega)) ?_
          refine lv_iadd hx hb dX7_crane_126 ?_
          refine tope (y := (nI (108 + 16 * x.toNatClampNeg))) (ai (a := 108) (b := 16 * x.toNatClampNeg) rfl rfl (by omega)) ?_
          refine ml_st (n := 108 + 16 * x.toNatClampNeg) cx wo rfl (by omega) dX7_crane_127 ?_
          exact r2_i cx hQ wo dX7_crane_128 (by subst hM; exact ⟨rfl, rfl⟩)
        · skip
          rw [if_pos c_10] at hM
          refine lv_bipush (v := (-4)) hx hb dX7_crane_111 (by decide) ?_
          refine lv_goto (tgt := 128) hx hb dX7_crane_113 (by decide) ?_
          exact r2_i cx hQ wo dX7_crane_128 (by subst hM; exact ⟨rfl, rfl⟩)
      rw [if_neg c_9] at hM
      have c_9n := ne_nI (k := 3) c_9
      refine lv_tableOut (tgt := 129) hx hb dX7_crane_21 (by have q0 := lv_neT c_5 (a := 0) rfl; have q1 := lv_neT c_6 (a := 1) rfl; have q2 := lv_neT c_8 (a := 2) rfl; have q3 := lv_neT c_9 (a := 3) rfl; omega) (by decide) ?_
      refine lv_aload_n hx hb dX7_crane_129 rfl (lv_at hl 0 rfl) ?_
      refine mg_st cx wo m_631 dX7_crane_130 ?_
      refine lv_bipush (v := 106) hx hb dX7_crane_133 (by decide) ?_
      refine lv_iload_n hx hb dX7_crane_135 rfl (lv_at hl 1 rfl) ?_
      refine tope (y := (nI (x.toNatClampNeg))) q_2.1 ?_
      refine lv_iadd hx hb dX7_crane_136 ?_
      refine tope (y := (nI (106 + x.toNatClampNeg))) (ai (a := 106) (b := x.toNatClampNeg) rfl rfl (by omega)) ?_
      refine ml_st (n := 106 + x.toNatClampNeg) cx wo rfl (by omega) dX7_crane_137 ?_
      exact r2_i cx hQ wo dX7_crane_138 (by subst hM; exact ⟨rfl, rfl⟩)
    · skip
      rw [if_neg c_3] at hM
      refine lv_iconst (v := (-1)) hx hb dX7_crane_18 (by decide) ?_
      exact r2_i cx hQ wo dX7_crane_19 (by subst hM; exact ⟨rfl, rfl⟩)
abbrev rm_X7_ladle : Room := { frames := 1, cells := 0, slots := 0, locals := 22 }
def m_X7_ladle (g : St) (x : Int32) (y : Int32) : Int32 :=
  if (m_X7_in x 0 3) = true then (if (m_X7_in y 0 11) = true then (if (nI (y.toNatClampNeg)) = 3 then (-1)
      else if (nI (y.toNatClampNeg)) = 0 then (g (88 + x.toNatClampNeg))
      else if (nI (y.toNatClampNeg)) = 1 then (if 0 ≤ (g (92 + x.toNatClampNeg)) then (g (92 + x.toNatClampNeg))
        else (-4))
      else if (nI (y.toNatClampNeg)) = 2 then (g (96 + x.toNatClampNeg))
      else if 8 ≤ (nI (y.toNatClampNeg)) then (g (24 + 4 * x.toNatClampNeg + y.toNatClampNeg))
      else (g (12 + 4 * x.toNatClampNeg + y.toNatClampNeg)))
    else (-1))
  else (-1)
set_option maxHeartbeats 4000000 in
set_option maxRecDepth 100000 in
theorem c_X7_ladle (l : Launch) (G : GG) (am : Nat → Nat) (g kf : St) (nk : Int32) (x : Int32) (y : Int32) : Ct l G yX7_ladle cX7_ladle 3 (some Jvm.ClassFile.FieldType.int) rm_X7_ladle [.ref (am 0), .int x, .int y] (mw G am g kf nk) (fun rv W1 => rv = some (.int (m_X7_ladle g x y)) ∧ W1 = mw G am g kf nk) := by
  refine Ct.mk2 (by decide) (Nat.le_of_ble_eq_true rfl) ?_
  intro p e s m args below meth c A H locs ls Q cx wo hl hQ
  obtain ⟨hx, hb, hml, hr, hlo, hown, hts, hnm, kn, hA⟩ := id cx
  have hl : lv_has ls 3 [(0, .ref (am 0)), (1, .int x), (2, .int y)] := hl
  generalize hM : m_X7_ladle g x y = M at hQ
  unfold m_X7_ladle at hM
  refine lv_iload_n hx hb dX7_ladle_0 rfl (lv_at hl 1 rfl) ?_
  refine lv_iconst (v := 0) hx hb dX7_ladle_1 (by decide) ?_
  refine lv_iconst (v := 3) hx hb dX7_ladle_2 (by decide) ?_
  refine call_S (As := [.int x, .int 0, .int 3]) (rest := []) (fun X => X) Fr_id cx (c_X7_in l G _ x 0 3) fx_X7_in m_649 m_650 ⟨by decide, by decide⟩ wo rfl hl.1 rfl (Nat.le_of_ble_eq_true rfl) dX7_ladle_3 ⟨by decide, by decide⟩ (fun v W1 H locs hp wo => ?_)
  obtain ⟨rfl, rfl⟩ := hp
  refine nrm_i ?_
  refine if_eq_b (tgt := 24) hx hb dX7_ladle_6 (by decide) (fun c_1 => ?_) (fun c_1 => ?_)
  · skip
    rw [if_neg c_1] at hM
    refine lv_iconst (v := (-1)) hx hb dX7_ladle_24 (by decide) ?_
    exact r2_i cx hQ wo dX7_ladle_25 (by subst hM; exact ⟨rfl, rfl⟩)
  · skip
    rw [if_pos c_1] at hM
    have q_2 := inb (lo := 0) (hi := 3) c_1
    have q_2b := q_2.2
    refine lv_iload_n hx hb dX7_ladle_9 rfl (lv_at hl 2 rfl) ?_
    refine lv_iconst (v := 0) hx hb dX7_ladle_10 (by decide) ?_
    refine lv_bipush (v := 11) hx hb dX7_ladle_11 (by decide) ?_
    refine call_S (As := [.int y, .int 0, .int 11]) (rest := []) (fun X => X) Fr_id cx (c_X7_in l G _ y 0 11) fx_X7_in m_649 m_650 ⟨by decide, by decide⟩ wo rfl hl.1 rfl (Nat.le_of_ble_eq_true rfl) dX7_ladle_13 ⟨by decide, by decide⟩ (fun v W1 H locs hp wo => ?_)
    obtain ⟨rfl, rfl⟩ := hp
    refine nrm_i ?_
    refine if_eq_b (tgt := 24) hx hb dX7_ladle_16 (by decide) (fun c_3 => ?_) (fun c_3 => ?_)
    · skip
      rw [if_neg c_3] at hM
      refine lv_iconst (v := (-1)) hx hb dX7_ladle_24 (by decide) ?_
      exact r2_i cx hQ wo dX7_ladle_25 (by subst hM; exact ⟨rfl, rfl⟩)
    · skip
      rw [if_pos c_3] at hM
      have q_4 := inb (lo := 0) (hi := 11) c_3
      have q_4b := q_4.2
      refine lv_iload_n hx hb dX7_ladle_19 rfl (lv_at hl 2 rfl) ?_
      refine tope (y := (nI (y.toNatClampNeg))) q_4.1 ?_
      refine lv_iconst (v := 3) hx hb dX7_ladle_20 (by decide) ?_
      refine lv_icmp_ne (tgt := 26) hx hb dX7_ladle_21 (by decide) (fun c_5 => ?_) (fun c_5 => ?_)
      · skip
        rw [if_neg c_5] at hM
        have c_5n := ne_nI (k := 3) c_5
        refine lv_iload_n hx hb dX7_ladle_26 rfl (lv_at hl 2 rfl) ?_
        refine tope (y := (nI (y.toNatClampNeg))) q_4.1 ?_
        by_cases c_6 : (nI (y.toNatClampNeg)) = 0
        · skip
          rw [if_pos c_6] at hM
          refine lv_tableIn (off := 25) (tgt := 52) hx hb dX7_ladle_27 (by rw [c_6]; decide) (by rw [c_6]; decide) (by rw [c_6]; decide) (by decide) ?_
          refine lv_aload_n hx hb dX7_ladle_52 rfl (lv_at hl 0 rfl) ?_
          refine mg_st cx wo m_631 dX7_ladle_53 ?_
          refine lv_bipush (v := 88) hx hb dX7_ladle_56 (by decide) ?_
          refine lv_iload_n hx hb dX7_ladle_58 rfl (lv_at hl 1 rfl) ?_
          refine tope (y := (nI (x.toNatClampNeg))) q_2.1 ?_
          refine lv_iadd hx hb dX7_ladle_59 ?_
          refine tope (y := (nI (88 + x.toNatClampNeg))) (ai (a := 88) (b := x.toNatClampNeg) rfl rfl (by omega)) ?_
          refine ml_st (n := 88 + x.toNatClampNeg) cx wo rfl (by omega) dX7_ladle_60 ?_
          exact r2_i cx hQ wo dX7_ladle_61 (by subst hM; exact ⟨rfl, rfl⟩)
        rw [if_neg c_6] at hM
        have c_6n := ne_nI (k := 0) c_6
        by_cases c_7 : (nI (y.toNatClampNeg)) = 1
        · skip
          rw [if_pos c_7] at hM
          refine lv_tableIn (off := 35) (tgt := 62) hx hb dX7_ladle_27 (by rw [c_7]; decide) (by rw [c_7]; decide) (by rw [c_7]; decide) (by decide) ?_
          refine lv_aload_n hx hb dX7_ladle_62 rfl (lv_at hl 0 rfl) ?_
          refine mg_st cx wo m_631 dX7_ladle_63 ?_
          refine lv_bipush (v := 92) hx hb dX7_ladle_66 (by decide) ?_
          refine lv_iload_n hx hb dX7_ladle_68 rfl (lv_at hl 1 rfl) ?_
          refine tope (y := (nI (x.toNatClampNeg))) q_2.1 ?_
          refine lv_iadd hx hb dX7_ladle_69 ?_
          refine tope (y := (nI (92 + x.toNatClampNeg))) (ai (a := 92) (b := x.toNatClampNeg) rfl rfl (by omega)) ?_
          refine ml_st (n := 92 + x.toNatClampNeg) cx wo rfl (by omega) dX7_ladle_70 ?_
          refine lv_if_ge (tgt := 79) hx hb dX7_ladle_71 (by decide) (fun c_8 => ?_) (fun c_8 => ?_)
          · skip
            rw [if_pos c_8] at hM
            refine lv_aload_n hx hb dX7_ladle_79 rfl (lv_at hl 0 rfl) ?_
            refine mg_st cx wo m_631 dX7_ladle_80 ?_
            refine lv_bipush (v := 92) hx hb dX7_ladle_83 (by decide) ?_
            refine lv_iload_n hx hb dX7_ladle_85 rfl (lv_at hl 1 rfl) ?_
            refine tope (y := (nI (x.toNatClampNeg))) q_2.1 ?_
            refine lv_iadd hx hb dX7_ladle_86 ?_
            refine tope (y := (nI (92 + x.toNatClampNeg))) (ai (a := 92) (b := x.toNatClampNeg) rfl rfl (by omega)) ?_
            refine ml_st (n := 92 + x.toNatClampNeg) cx wo rfl (by omega) dX7_ladle_87 ?_
            exact r2_i cx hQ wo dX7_ladle_88 (by subst hM; exact ⟨rfl, rfl⟩)
          · skip
            rw [if_neg c_8] at hM
            refine lv_bipush (v := (-4)) hx hb dX7_ladle_74 (by decide) ?_
            refine lv_goto (tgt := 88) hx hb dX7_ladle_76 (by decide) ?_
            exact r2_i cx hQ wo dX7_ladle_88 (by subst hM; exact ⟨rfl, rfl⟩)
        rw [if_neg c_7] at hM
        have c_7n := ne_nI (k := 1) c_7
        by_cases c_9 : (nI (y.toNatClampNeg)) = 2
        · skip
          rw [if_pos c_9] at hM
          refine lv_tableIn (off := 62) (tgt := 89) hx hb dX7_ladle_27 (by rw [c_9]; decide) (by rw [c_9]; decide) (by rw [c_9]; decide) (by decide) ?_
          refine lv_aload_n hx hb dX7_ladle_89 rfl (lv_at hl 0 rfl) ?_
          refine mg_st cx wo m_631 dX7_ladle_90 ?_
          refine lv_bipush (v := 96) hx hb dX7_ladle_93 (by decide) ?_
          refine lv_iload_n hx hb dX7_ladle_95 rfl (lv_at hl 1 rfl) ?_
          refine tope (y := (nI (x.toNatClampNeg))) q_2.1 ?_
          refine lv_iadd hx hb dX7_ladle_96 ?_
          refine tope (y := (nI (96 + x.toNatClampNeg))) (ai (a := 96) (b := x.toNatClampNeg) rfl rfl (by omega)) ?_
          refine ml_st (n := 96 + x.toNatClampNeg) cx wo rfl (by omega) dX7_ladle_97 ?_
          exact r2_i cx hQ wo dX7_ladle_98 (by subst hM; exact ⟨rfl, rfl⟩)
        rw [if_neg c_9] at hM
        have c_9n := ne_nI (k := 2) c_9
        refine lv_tableOut (tgt := 99) hx hb dX7_ladle_27 (by have q0 := lv_neT c_6 (a := 0) rfl; have q1 := lv_neT c_7 (a := 1) rfl; have q2 := lv_neT c_9 (a := 2) rfl; omega) (by decide) ?_
        refine lv_iload_n hx hb dX7_ladle_99 rfl (lv_at hl 2 rfl) ?_
        refine tope (y := (nI (y.toNatClampNeg))) q_4.1 ?_
        refine lv_bipush (v := 8) hx hb dX7_ladle_100 (by decide) ?_
        refine lv_icmp_ge (tgt := 123) hx hb dX7_ladle_102 (by decide) (fun c_10 => ?_) (fun c_10 => ?_)
        · skip
          rw [if_pos c_10] at hM
          refine lv_aload_n hx hb dX7_ladle_123 rfl (lv_at hl 0 rfl) ?_
          refine mg_st cx wo m_631 dX7_ladle_124 ?_
          refine lv_bipush (v := 32) hx hb dX7_ladle_127 (by decide) ?_
          refine lv_iconst (v := 4) hx hb dX7_ladle_129 (by decide) ?_
          refine lv_iload_n hx hb dX7_ladle_130 rfl (lv_at hl 1 rfl) ?_
          refine tope (y := (nI (x.toNatClampNeg))) q_2.1 ?_
          refine lv_imul hx hb dX7_ladle_131 ?_
          refine tope (y := (nI (4 * x.toNatClampNeg))) (mi (a := 4) (b := x.toNatClampNeg) rfl rfl (by omega)) ?_
          refine lv_iadd hx hb dX7_ladle_132 ?_
          refine tope (y := (nI (32 + 4 * x.toNatClampNeg))) (ai (a := 32) (b := 4 * x.toNatClampNeg) rfl rfl (by omega)) ?_
          refine lv_iload_n hx hb dX7_ladle_133 rfl (lv_at hl 2 rfl) ?_
          refine tope (y := (nI (y.toNatClampNeg))) q_4.1 ?_
          refine lv_iadd hx hb dX7_ladle_134 ?_
          refine tope (y := (nI (32 + 4 * x.toNatClampNeg + y.toNatClampNeg))) (ai (a := 32 + 4 * x.toNatClampNeg) (b := y.toNatClampNeg) rfl rfl (by omega)) ?_
          refine lv_bipush (v := 8) hx hb dX7_ladle_135 (by decide) ?_
          refine lv_isub hx hb dX7_ladle_137 ?_
          refine tope (y := (nI (24 + 4 * x.toNatClampNeg + y.toNatClampNeg))) (si (a := 32 + 4 * x.toNatClampNeg + y.toNatClampNeg) (b := 8) rfl rfl (by omega) (by omega)) ?_
          refine ml_st (n := 24 + 4 * x.toNatClampNeg + y.toNatClampNeg) cx wo rfl (by omega) dX7_ladle_138 ?_
          exact r2_i cx hQ wo dX7_ladle_139 (by subst hM; exact ⟨rfl, rfl⟩)
        · skip
          rw [if_neg c_10] at hM
          refine lv_aload_n hx hb dX7_ladle_105 rfl (lv_at hl 0 rfl) ?_
          refine mg_st cx wo m_631 dX7_ladle_106 ?_
          refine lv_bipush (v := 16) hx hb dX7_ladle_109 (by decide) ?_
          refine lv_iconst (v := 4) hx hb dX7_ladle_111 (by decide) ?_
          refine lv_iload_n hx hb dX7_ladle_112 rfl (lv_at hl 1 rfl) ?_
          refine tope (y := (nI (x.toNatClampNeg))) q_2.1 ?_
          refine lv_imul hx hb dX7_ladle_113 ?_
          refine tope (y := (nI (4 * x.toNatClampNeg))) (mi (a := 4) (b := x.toNatClampNeg) rfl rfl (by omega)) ?_
          refine lv_iadd hx hb dX7_ladle_114 ?_
          refine tope (y := (nI (16 + 4 * x.toNatClampNeg))) (ai (a := 16) (b := 4 * x.toNatClampNeg) rfl rfl (by omega)) ?_
          refine lv_iload_n hx hb dX7_ladle_115 rfl (lv_at hl 2 rfl) ?_
          refine tope (y := (nI (y.toNatClampNeg))) q_4.1 ?_
          refine lv_iadd hx hb dX7_ladle_116 ?_
          refine tope (y := (nI (16 + 4 * x.toNatClampNeg + y.toNatClampNeg))) (ai (a := 16 + 4 * x.toNatClampNeg) (b := y.toNatClampNeg) rfl rfl (by omega)) ?_
          refine lv_iconst (v := 4) hx hb dX7_ladle_117 (by decide) ?_
          refine lv_isub hx hb dX7_ladle_118 ?_
          refine tope (y := (nI (12 + 4 * x.toNatClampNeg + y.toNatClampNeg))) (si (a := 16 + 4 * x.toNatClampNeg + y.toNatClampNeg) (b := 4) rfl rfl (by omega) (by omega)) ?_
          refine ml_st (n := 12 + 4 * x.toNatClampNeg + y.toNatClampNeg) cx wo rfl (by omega) dX7_ladle_119 ?_
          refine lv_goto (tgt := 139) hx hb dX7_ladle_120 (by decide) ?_
          exact r2_i cx hQ wo dX7_ladle_139 (by subst hM; exact ⟨rfl, rfl⟩)
      · skip
        rw [if_pos c_5] at hM
        refine lv_iconst (v := (-1)) hx hb dX7_ladle_24 (by decide) ?_
        exact r2_i cx hQ wo dX7_ladle_25 (by subst hM; exact ⟨rfl, rfl⟩)
abbrev rm_X7_vessel : Room := { frames := 1, cells := 0, slots := 0, locals := 22 }
def m_X7_vessel (g : St) (x : Int32) (y : Int32) : Int32 :=
  if (m_X7_in x 0 2) = true then (if (m_X7_in y 0 7) = true then (if (nI (y.toNatClampNeg)) = 0 then (g (76 + x.toNatClampNeg))
      else if (nI (y.toNatClampNeg)) = 1 then (g (79 + x.toNatClampNeg))
      else if (nI (y.toNatClampNeg)) = 2 then (g (2 + 4 * x.toNatClampNeg + y.toNatClampNeg))
      else if (nI (y.toNatClampNeg)) = 3 then (g (2 + 4 * x.toNatClampNeg + y.toNatClampNeg))
      else if (nI (y.toNatClampNeg)) = 4 then (g (2 + 4 * x.toNatClampNeg + y.toNatClampNeg))
      else if (nI (y.toNatClampNeg)) = 5 then (g (2 + 4 * x.toNatClampNeg + y.toNatClampNeg))
      else if (nI (y.toNatClampNeg)) = 6 then (g (82 + x.toNatClampNeg))
      else if (nI (y.toNatClampNeg)) = 7 then (g (85 + x.toNatClampNeg))
      else (g (2 + 4 * x.toNatClampNeg + y.toNatClampNeg)))
    else (-1))
  else (-1)
set_option maxHeartbeats 4000000 in
set_option maxRecDepth 100000 in
theorem c_X7_vessel (l : Launch) (G : GG) (am : Nat → Nat) (g kf : St) (nk : Int32) (x : Int32) (y : Int32) : Ct l G yX7_vessel cX7_vessel 3 (some Jvm.ClassFile.FieldType.int) rm_X7_vessel [.ref (am 0), .int x, .int y] (mw G am g kf nk) (fun rv W1 => rv = some (.int (m_X7_vessel g x y)) ∧ W1 = mw G am g kf nk) := by
  refine Ct.mk2 (by decide) (Nat.le_of_ble_eq_true rfl) ?_
  intro p e s m args below meth c A H locs ls Q cx wo hl hQ
  obtain ⟨hx, hb, hml, hr, hlo, hown, hts, hnm, kn, hA⟩ := id cx
  have hl : lv_has ls 3 [(0, .ref (am 0)), (1, .int x), (2, .int y)] := hl
  generalize hM : m_X7_vessel g x y = M at hQ
  unfold m_X7_vessel at hM
  refine lv_iload_n hx hb dX7_vessel_0 rfl (lv_at hl 1 rfl) ?_
  refine lv_iconst (v := 0) hx hb dX7_vessel_1 (by decide) ?_
  refine lv_iconst (v := 2) hx hb dX7_vessel_2 (by decide) ?_
  refine call_S (As := [.int x, .int 0, .int 2]) (rest := []) (fun X => X) Fr_id cx (c_X7_in l G _ x 0 2) fx_X7_in m_649 m_650 ⟨by decide, by decide⟩ wo rfl hl.1 rfl (Nat.le_of_ble_eq_true rfl) dX7_vessel_3 ⟨by decide, by decide⟩ (fun v W1 H locs hp wo => ?_)
  obtain ⟨rfl, rfl⟩ := hp
  refine nrm_i ?_
  refine if_eq_b (tgt := 19) hx hb dX7_vessel_6 (by decide) (fun c_1 => ?_) (fun c_1 => ?_)
  · skip
    rw [if_neg c_1] at hM
    refine lv_iconst (v := (-1)) hx hb dX7_vessel_19 (by decide) ?_
    exact r2_i cx hQ wo dX7_vessel_20 (by subst hM; exact ⟨rfl, rfl⟩)
  · skip
    rw [if_pos c_1] at hM
    have q_2 := inb (lo := 0) (hi := 2) c_1
    have q_2b := q_2.2
    refine lv_iload_n hx hb dX7_vessel_9 rfl (lv_at hl 2 rfl) ?_
    refine lv_iconst (v := 0) hx hb dX7_vessel_10 (by decide) ?_
    refine lv_bipush (v := 7) hx hb dX7_vessel_11 (by decide) ?_
    refine call_S (As := [.int y, .int 0, .int 7]) (rest := []) (fun X => X) Fr_id cx (c_X7_in l G _ y 0 7) fx_X7_in m_649 m_650 ⟨by decide, by decide⟩ wo rfl hl.1 rfl (Nat.le_of_ble_eq_true rfl) dX7_vessel_13 ⟨by decide, by decide⟩ (fun v W1 H locs hp wo => ?_)
    obtain ⟨rfl, rfl⟩ := hp
    refine nrm_i ?_
    refine if_ne_b (tgt := 21) hx hb dX7_vessel_16 (by decide) (fun c_3 => ?_) (fun c_3 => ?_)
    · skip
      rw [if_pos c_3] at hM
      have q_4 := inb (lo := 0) (hi := 7) c_3
      have q_4b := q_4.2
      refine lv_iload_n hx hb dX7_vessel_21 rfl (lv_at hl 2 rfl) ?_
      refine tope (y := (nI (y.toNatClampNeg))) q_4.1 ?_
      by_cases c_5 : (nI (y.toNatClampNeg)) = 0
      · skip
        rw [if_pos c_5] at hM
        refine lv_tableIn (off := 46) (tgt := 68) hx hb dX7_vessel_22 (by rw [c_5]; decide) (by rw [c_5]; decide) (by rw [c_5]; decide) (by decide) ?_
        refine lv_aload_n hx hb dX7_vessel_68 rfl (lv_at hl 0 rfl) ?_
        refine mg_st cx wo m_631 dX7_vessel_69 ?_
        refine lv_bipush (v := 76) hx hb dX7_vessel_72 (by decide) ?_
        refine lv_iload_n hx hb dX7_vessel_74 rfl (lv_at hl 1 rfl) ?_
        refine tope (y := (nI (x.toNatClampNeg))) q_2.1 ?_
        refine lv_iadd hx hb dX7_vessel_75 ?_
        refine tope (y := (nI (76 + x.toNatClampNeg))) (ai (a := 76) (b := x.toNatClampNeg) rfl rfl (by omega)) ?_
        refine ml_st (n := 76 + x.toNatClampNeg) cx wo rfl (by omega) dX7_vessel_76 ?_
        exact r2_i cx hQ wo dX7_vessel_77 (by subst hM; exact ⟨rfl, rfl⟩)
      rw [if_neg c_5] at hM
      have c_5n := ne_nI (k := 0) c_5
      by_cases c_6 : (nI (y.toNatClampNeg)) = 1
      · skip
        rw [if_pos c_6] at hM
        refine lv_tableIn (off := 56) (tgt := 78) hx hb dX7_vessel_22 (by rw [c_6]; decide) (by rw [c_6]; decide) (by rw [c_6]; decide) (by decide) ?_
        refine lv_aload_n hx hb dX7_vessel_78 rfl (lv_at hl 0 rfl) ?_
        refine mg_st cx wo m_631 dX7_vessel_79 ?_
        refine lv_bipush (v := 79) hx hb dX7_vessel_82 (by decide) ?_
        refine lv_iload_n hx hb dX7_vessel_84 rfl (lv_at hl 1 rfl) ?_
        refine tope (y := (nI (x.toNatClampNeg))) q_2.1 ?_
        refine lv_iadd hx hb dX7_vessel_85 ?_
        refine tope (y := (nI (79 + x.toNatClampNeg))) (ai (a := 79) (b := x.toNatClampNeg) rfl rfl (by omega)) ?_
        refine ml_st (n := 79 + x.toNatClampNeg) cx wo rfl (by omega) dX7_vessel_86 ?_
        exact r2_i cx hQ wo dX7_vessel_87 (by subst hM; exact ⟨rfl, rfl⟩)
      rw [if_neg c_6] at hM
      have c_6n := ne_nI (k := 1) c_6
      by_cases c_7 : (nI (y.toNatClampNeg)) = 2
      · skip
        rw [if_pos c_7] at hM
        refine lv_tableIn (off := 86) (tgt := 108) hx hb dX7_vessel_22 (by rw [c_7]; decide) (by rw [c_7]; decide) (by rw [c_7]; decide) (by decide) ?_
        refine lv_aload_n hx hb dX7_vessel_108 rfl (lv_at hl 0 rfl) ?_
        refine mg_st cx wo m_631 dX7_vessel_109 ?_
        refine lv_iconst (v := 4) hx hb dX7_vessel_112 (by decide) ?_
        refine lv_iconst (v := 4) hx hb dX7_vessel_113 (by decide) ?_
        refine lv_iload_n hx hb dX7_vessel_114 rfl (lv_at hl 1 rfl) ?_
        refine tope (y := (nI (x.toNatClampNeg))) q_2.1 ?_
        refine lv_imul hx hb dX7_vessel_115 ?_
        refine tope (y := (nI (4 * x.toNatClampNeg))) (mi (a := 4) (b := x.toNatClampNeg) rfl rfl (by omega)) ?_
        refine lv_iadd hx hb dX7_vessel_116 ?_
        refine tope (y := (nI (4 + 4 * x.toNatClampNeg))) (ai (a := 4) (b := 4 * x.toNatClampNeg) rfl rfl (by omega)) ?_
        refine lv_iload_n hx hb dX7_vessel_117 rfl (lv_at hl 2 rfl) ?_
        refine tope (y := (nI (y.toNatClampNeg))) q_4.1 ?_
        refine lv_iadd hx hb dX7_vessel_118 ?_
        refine tope (y := (nI (4 + 4 * x.toNatClampNeg + y.toNatClampNeg))) (ai (a := 4 + 4 * x.toNatClampNeg) (b := y.toNatClampNeg) rfl rfl (by omega)) ?_
        refine lv_iconst (v := 2) hx hb dX7_vessel_119 (by decide) ?_
        refine lv_isub hx hb dX7_vessel_120 ?_
        refine tope (y := (nI (2 + 4 * x.toNatClampNeg + y.toNatClampNeg))) (si (a := 4 + 4 * x.toNatClampNeg + y.toNatClampNeg) (b := 2) rfl rfl (by omega) (by omega)) ?_
        refine ml_st (n := 2 + 4 * x.toNatClampNeg + y.toNatClampNeg) cx wo rfl (by omega) dX7_vessel_121 ?_
        exact r2_i cx hQ wo dX7_vessel_122 (by subst hM; exact ⟨rfl, rfl⟩)
      rw [if_neg c_7] at hM
      have c_7n := ne_nI (k := 2) c_7
      by_cases c_8 : (nI (y.toNatClampNeg)) = 3
      · skip
        rw [if_pos c_8] at hM
        refine lv_tableIn (off := 86) (tgt := 108) hx hb dX7_vessel_22 (by rw [c_8]; decide) (by rw [c_8]; decide) (by rw [c_8]; decide) (by decide) ?_
        refine lv_aload_n hx hb dX7_vessel_108 rfl (lv_at hl 0 rfl) ?_
        refine mg_st cx wo m_631 dX7_vessel_109 ?_
        refine lv_iconst (v := 4) hx hb dX7_vessel_112 (by decide) ?_
        refine lv_iconst (v := 4) hx hb dX7_vessel_113 (by decide) ?_
        refine lv_iload_n hx hb dX7_vessel_114 rfl (lv_at hl 1 rfl) ?_
        refine tope (y := (nI (x.toNatClampNeg))) q_2.1 ?_
        refine lv_imul hx hb dX7_vessel_115 ?_
        refine tope (y := (nI (4 * x.toNatClampNeg))) (mi (a := 4) (b := x.toNatClampNeg) rfl rfl (by omega)) ?_
        refine lv_iadd hx hb dX7_vessel_116 ?_
        refine tope (y := (nI (4 + 4 * x.toNatClampNeg))) (ai (a := 4) (b := 4 * x.toNatClampNeg) rfl rfl (by omega)) ?_
        refine lv_iload_n hx hb dX7_vessel_117 rfl (lv_at hl 2 rfl) ?_
        refine tope (y := (nI (y.toNatClampNeg))) q_4.1 ?_
        refine lv_iadd hx hb dX7_vessel_118 ?_
        refine tope (y := (nI (4 + 4 * x.toNatClampNeg + y.toNatClampNeg))) (ai (a := 4 + 4 * x.toNatClampNeg) (b := y.toNatClampNeg) rfl rfl (by omega)) ?_
        refine lv_iconst (v := 2) hx hb dX7_vessel_119 (by decide) ?_
        refine lv_isub hx hb dX7_vessel_120 ?_
        refine tope (y := (nI (2 + 4 * x.toNatClampNeg + y.toNatClampNeg))) (si (a := 4 + 4 * x.toNatClampNeg + y.toNatClampNeg) (b := 2) rfl rfl (by omega) (by omega)) ?_
        refine ml_st (n := 2 + 4 * x.toNatClampNeg + y.toNatClampNeg) cx wo rfl (by omega) dX7_vessel_121 ?_
        exact r2_i cx hQ wo dX7_vessel_122 (by subst hM; exact ⟨rfl, rfl⟩)
      rw [if_neg c_8] at hM
      have c_8n := ne_nI (k := 3) c_8
      by_cases c_9 : (nI (y.toNatClampNeg)) = 4
      · skip
        rw [if_pos c_9] at hM
        refine lv_tableIn (off := 86) (tgt := 108) hx hb dX7_vessel_22 (by rw [c_9]; decide) (by rw [c_9]; decide) (by rw [c_9]; decide) (by decide) ?_
        refine lv_aload_n hx hb dX7_vessel_108 rfl (lv_at hl 0 rfl) ?_
        refine mg_st cx wo m_631 dX7_vessel_109 ?_
        refine lv_iconst (v := 4) hx hb dX7_vessel_112 (by decide) ?_
        refine lv_iconst (v := 4) hx hb dX7_vessel_113 (by decide) ?_
        refine lv_iload_n hx hb dX7_vessel_114 rfl (lv_at hl 1 rfl) ?_
        refine tope (y := (nI (x.toNatClampNeg))) q_2.1 ?_
        refine lv_imul hx hb dX7_vessel_115 ?_
        refine tope (y := (nI (4 * x.toNatClampNeg))) (mi (a := 4) (b := x.toNatClampNeg) rfl rfl (by omega)) ?_
        refine lv_iadd hx hb dX7_vessel_116 ?_
        refine tope (y := (nI (4 + 4 * x.toNatClampNeg))) (ai (a := 4) (b := 4 * x.toNatClampNeg) rfl rfl (by omega)) ?_
        refine lv_iload_n hx hb dX7_vessel_117 rfl (lv_at hl 2 rfl) ?_
        refine tope (y := (nI (y.toNatClampNeg))) q_4.1 ?_
        refine lv_iadd hx hb dX7_vessel_118 ?_
        refine tope (y := (nI (4 + 4 * x.toNatClampNeg + y.toNatClampNeg))) (ai (a := 4 + 4 * x.toNatClampNeg) (b := y.toNatClampNeg) rfl rfl (by omega)) ?_
        refine lv_iconst (v := 2) hx hb dX7_vessel_119 (by decide) ?_
        refine lv_isub hx hb dX7_vessel_120 ?_
        refine tope (y := (nI (2 + 4 * x.toNatClampNeg + y.toNatClampNeg))) (si (a := 4 + 4 * x.toNatClampNeg + y.toNatClampNeg) (b := 2) rfl rfl (by omega) (by omega)) ?_
        refine ml_st (n := 2 + 4 * x.toNatClampNeg + y.toNatClampNeg) cx wo rfl (by omega) dX7_vessel_121 ?_
        exact r2_i cx hQ wo dX7_vessel_122 (by subst hM; exact ⟨rfl, rfl⟩)
      rw [if_neg c_9] at hM
      have c_9n := ne_nI (k := 4) c_9
      by_cases c_10 : (nI (y.toNatClampNeg)) = 5
      · skip
        rw [if_pos c_10] at hM
        refine lv_tableIn (off := 86) (tgt := 108) hx hb dX7_vessel_22 (by rw [c_10]; decide) (by rw [c_10]; decide) (by rw [c_10]; decide) (by decide) ?_
        refine lv_aload_n hx hb dX7_vessel_108 rfl (lv_at hl 0 rfl) ?_
        refine mg_st cx wo m_631 dX7_vessel_109 ?_
        refine lv_iconst (v := 4) hx hb dX7_vessel_112 (by decide) ?_
        refine lv_iconst (v := 4) hx hb dX7_vessel_113 (by decide) ?_
        refine lv_iload_n hx hb dX7_vessel_114 rfl (lv_at hl 1 rfl) ?_
        refine tope (y := (nI (x.toNatClampNeg))) q_2.1 ?_
        refine lv_imul hx hb dX7_vessel_115 ?_
        refine tope (y := (nI (4 * x.toNatClampNeg))) (mi (a := 4) (b := x.toNatClampNeg) rfl rfl (by omega)) ?_
        refine lv_iadd hx hb dX7_vessel_116 ?_
        refine tope (y := (nI (4 + 4 * x.toNatClampNeg))) (ai (a := 4) (b := 4 * x.toNatClampNeg) rfl rfl (by omega)) ?_
        refine lv_iload_n hx hb dX7_vessel_117 rfl (lv_at hl 2 rfl) ?_
        refine tope (y := (nI (y.toNatClampNeg))) q_4.1 ?_
        refine lv_iadd hx hb dX7_vessel_118 ?_
        refine tope (y := (nI (4 + 4 * x.toNatClampNeg + y.toNatClampNeg))) (ai (a := 4 + 4 * x.toNatClampNeg) (b := y.toNatClampNeg) rfl rfl (by omega)) ?_
        refine lv_iconst (v := 2) hx hb dX7_vessel_119 (by decide) ?_
        refine lv_isub hx hb dX7_vessel_120 ?_
        refine tope (y := (nI (2 + 4 * x.toNatClampNeg + y.toNatClampNeg))) (si (a := 4 + 4 * x.toNatClampNeg + y.toNatClampNeg) (b := 2) rfl rfl (by omega) (by omega)) ?_
        refine ml_st (n := 2 + 4 * x.toNatClampNeg + y.toNatClampNeg) cx wo rfl (by omega) dX7_vessel_121 ?_
        exact r2_i cx hQ wo dX7_vessel_122 (by subst hM; exact ⟨rfl, rfl⟩)
      rw [if_neg c_10] at hM
      have c_10n := ne_nI (k := 5) c_10
      by_cases c_11 : (nI (y.toNatClampNeg)) = 6
      · skip
        rw [if_pos c_11] at hM
        refine lv_tableIn (off := 66) (tgt := 88) hx hb dX7_vessel_22 (by rw [c_11]; decide) (by rw [c_11]; decide) (by rw [c_11]; decide) (by decide) ?_
        refine lv_aload_n hx hb dX7_vessel_88 rfl (lv_at hl 0 rfl) ?_
        refine mg_st cx wo m_631 dX7_vessel_89 ?_
        refine lv_bipush (v := 82) hx hb dX7_vessel_92 (by decide) ?_
        refine lv_iload_n hx hb dX7_vessel_94 rfl (lv_at hl 1 rfl) ?_
        refine tope (y := (nI (x.toNatClampNeg))) q_2.1 ?_
        refine lv_iadd hx hb dX7_vessel_95 ?_
        refine tope (y := (nI (82 + x.toNatClampNeg))) (ai (a := 82) (b := x.toNatClampNeg) rfl rfl (by omega)) ?_
        refine ml_st (n := 82 + x.toNatClampNeg) cx wo rfl (by omega) dX7_vessel_96 ?_
        exact r2_i cx hQ wo dX7_vessel_97 (by subst hM; exact ⟨rfl, rfl⟩)
      rw [if_neg c_11] at hM
      have c_11n := ne_nI (k := 6) c_11
      by_cases c_12 : (nI (y.toNatClampNeg)) = 7
      · skip
        rw [if_pos c_12] at hM
        refine lv_tableIn (off := 76) (tgt := 98) hx hb dX7_vessel_22 (by rw [c_12]; decide) (by rw [c_12]; decide) (by rw [c_12]; decide) (by decide) ?_
        refine lv_aload_n hx hb dX7_vessel_98 rfl (lv_at hl 0 rfl) ?_
        refine mg_st cx wo m_631 dX7_vessel_99 ?_
        refine lv_bipush (v := 85) hx hb dX7_vessel_102 (by decide) ?_
        refine lv_iload_n hx hb dX7_vessel_104 rfl (lv_at hl 1 rfl) ?_
        refine tope (y := (nI (x.toNatClampNeg))) q_2.1 ?_
        refine lv_iadd hx hb dX7_vessel_105 ?_
        refine tope (y := (nI (85 + x.toNatClampNeg))) (ai (a := 85) (b := x.toNatClampNeg) rfl rfl (by omega)) ?_
        refine ml_st (n := 85 + x.toNatClampNeg) cx wo rfl (by omega) dX7_vessel_106 ?_
        exact r2_i cx hQ wo dX7_vessel_107 (by subst hM; exact ⟨rfl, rfl⟩)
      rw [if_neg c_12] at hM
      have c_12n := ne_nI (k := 7) c_12
      refine lv_tableOut (tgt := 108) hx hb dX7_vessel_22 (by have q0 := lv_neT c_5 (a := 0) rfl; have q1 := lv_neT c_6 (a := 1) rfl; have q2 := lv_neT c_7 (a := 2) rfl; have q3 := lv_neT c_8 (a := 3) rfl; have q4 := lv_neT c_9 (a := 4) rfl; have q5 := lv_neT c_10 (a := 5) rfl; have q6 := lv_neT c_11 (a := 6) rfl; have q7 := lv_neT c_12 (a := 7) rfl; omega) (by decide) ?_
      refine lv_aload_n hx hb dX7_vessel_108 rfl (lv_at hl 0 rfl) ?_
      refine mg_st cx wo m_631 dX7_vessel_109 ?_
      refine lv_iconst (v := 4) hx hb dX7_vessel_112 (by decide) ?_
      refine lv_iconst (v := 4) hx hb dX7_vessel_113 (by decide) ?_
      refine lv_iload_n hx hb dX7_vessel_114 rfl (lv_at hl 1 rfl) ?_
      refine tope (y := (nI (x.toNatClampNeg))) q_2.1 ?_
      refine lv_imul hx hb dX7_vessel_115 ?_
      refine tope (y := (nI (4 * x.toNatClampNeg))) (mi (a := 4) (b := x.toNatClampNeg) rfl rfl (by omega)) ?_
      refine lv_iadd hx hb dX7_vessel_116 ?_
      refine tope (y := (nI (4 + 4 * x.toNatClampNeg))) (ai (a := 4) (b := 4 * x.toNatClampNeg) rfl rfl (by omega)) ?_
      refine lv_iload_n hx hb dX7_vessel_117 rfl (lv_at hl 2 rfl) ?_
      refine tope (y := (nI (y.toNatClampNeg))) q_4.1 ?_
      refine lv_iadd hx hb dX7_vessel_118 ?_
      refine tope (y := (nI (4 + 4 * x.toNatClampNeg + y.toNatClampNeg))) (ai (a := 4 + 4 * x.toNatClampNeg) (b := y.toNatClampNeg) rfl rfl (by omega)) ?_
      refine lv_iconst (v := 2) hx hb dX7_vessel_119 (by decide) ?_
      refine lv_isub hx hb dX7_vessel_120 ?_
      refine tope (y := (nI (2 + 4 * x.toNatClampNeg + y.toNatClampNeg))) (si (a := 4 + 4 * x.toNatClampNeg + y.toNatClampNeg) (b := 2) rfl rfl (by omega) (by omega)) ?_
      refine ml_st (n := 2 + 4 * x.toNatClampNeg + y.toNatClampNeg) cx wo rfl (by omega) dX7_vessel_121 ?_
      exact r2_i cx hQ wo dX7_vessel_122 (by subst hM; exact ⟨rfl, rfl⟩)
    · skip
      rw [if_neg c_3] at hM
      refine lv_iconst (v := (-1)) hx hb dX7_vessel_19 (by decide) ?_
      exact r2_i cx hQ wo dX7_vessel_20 (by subst hM; exact ⟨rfl, rfl⟩)
abbrev rm_X7_several_1 : Room := { frames := 0, cells := 0, slots := 0, locals := 0 }
def m_X7_several_1 (g : St) (a : Nat) (k : Nat) : Int32 :=
  (0 + (g (a + k)))
set_option maxHeartbeats 4000000 in
set_option maxRecDepth 100000 in
theorem c_X7_several_1 (l : Launch) (G : GG) (am : Nat → Nat) (g kf : St) (nk : Int32) {a : Nat} (ha : a < 40) {k : Nat} (hk : k < 4) : Ct l G yX7_several cX7_several 6 (some Jvm.ClassFile.FieldType.int) rm_X7_several_1 [.ref (am 0), .int (nI a), .int 1, .int (nI k)] (mw G am g kf nk) (fun rv W1 => rv = some (.int (m_X7_several_1 g a k)) ∧ W1 = mw G am g kf nk) := by
  refine Ct.mk2 (by decide) (Nat.le_of_ble_eq_true rfl) ?_
  intro p e s m args below meth c A H locs ls Q cx wo hl hQ
  obtain ⟨hx, hb, hml, hr, hlo, hown, hts, hnm, kn, hA⟩ := id cx
  have hl : lv_has ls 6 [(0, .ref (am 0)), (1, .int (nI a)), (2, .int 1), (3, .int (nI k))] := hl
  generalize hM : m_X7_several_1 g a k = M at hQ
  unfold m_X7_several_1 at hM
  refine lv_iconst (v := 0) hx hb dX7_several_0 (by decide) ?_
  refine lv_istore (lv' := [(4, .int 0), (0, .ref (am 0)), (1, .int (nI a)), (2, .int 1), (3, .int (nI k))]) hx hb dX7_several_1 hl (by decide) rfl (fun ls hl => ?_)
  refine lv_iconst (v := 0) hx hb dX7_several_3 (by decide) ?_
  refine lv_istore (lv' := [(5, .int 0), (4, .int 0), (0, .ref (am 0)), (1, .int (nI a)), (2, .int 1), (3, .int (nI k))]) hx hb dX7_several_4 hl (by decide) rfl (fun ls hl => ?_)
  refine lv_iload hx hb dX7_several_6 (lv_at hl 0 rfl) ?_
  refine lv_iload_n hx hb dX7_several_8 rfl (lv_at hl 4 rfl) ?_
  refine lv_icmp_ge (tgt := 36) hx hb dX7_several_9 (by decide) (fun h => absurd h (by decide)) (fun _ => ?_)
  refine lv_iload hx hb dX7_several_12 (lv_at hl 1 rfl) ?_
  refine lv_aload_n hx hb dX7_several_14 rfl (lv_at hl 2 rfl) ?_
  refine mg_st cx wo m_631 dX7_several_15 ?_
  refine lv_iload_n hx hb dX7_several_18 rfl (lv_at hl 3 rfl) ?_
  refine lv_iconst (v := 4) hx hb dX7_several_19 (by decide) ?_
  refine lv_iload hx hb dX7_several_20 (lv_at hl 0 rfl) ?_
  refine lv_imul hx hb dX7_several_22 ?_
  refine tope (y := 0) (by decide) ?_
  refine lv_iadd hx hb dX7_several_23 ?_
  refine tope (y := (nI a)) (ai (a := a) (b := 0) rfl rfl (by omega)) ?_
  refine lv_iload_n hx hb dX7_several_24 rfl (lv_at hl 5 rfl) ?_
  refine lv_iadd hx hb dX7_several_25 ?_
  refine tope (y := (nI (a + k))) (ai (a := a) (b := k) rfl rfl (by omega)) ?_
  refine ml_st (n := a + k) cx wo rfl (by omega) dX7_several_26 ?_
  refine lv_iadd hx hb dX7_several_27 ?_
  refine lv_istore (lv' := [(4, .int (0 + (g (a + k)))), (5, .int 0), (0, .ref (am 0)), (1, .int (nI a)), (2, .int 1), (3, .int (nI k))]) hx hb dX7_several_28 hl (by decide) rfl (fun ls hl => ?_)
  refine lv_iinc (v := 1) (lv' := [(5, .int 1), (4, .int (0 + (g (a + k)))), (0, .ref (am 0)), (1, .int (nI a)), (2, .int 1), (3, .int (nI k))]) hx hb dX7_several_30 hl (k := 1) rfl (by decide) (by decide) rfl (fun ls hl => ?_)
  refine lv_goto (tgt := 6) hx hb dX7_several_33 (by decide) ?_
  refine lv_iload hx hb dX7_several_6 (lv_at hl 0 rfl) ?_
  refine lv_iload_n hx hb dX7_several_8 rfl (lv_at hl 4 rfl) ?_
  refine lv_icmp_ge (tgt := 36) hx hb dX7_several_9 (by decide) (fun _ => ?_) (fun h => absurd (show ¬ _ from h) (by decide))
  refine lv_iload hx hb dX7_several_36 (lv_at hl 1 rfl) ?_
  exact r2_i cx hQ wo dX7_several_38 (by subst hM; exact ⟨rfl, rfl⟩)
abbrev rm_X7_several_3 : Room := { frames := 0, cells := 0, slots := 0, locals := 0 }
def m_X7_several_3 (g : St) (a : Nat) (k : Nat) : Int32 :=
  (((0 + (g (a + k))) + (g (4 + a + k))) + (g (8 + a + k)))
set_option maxHeartbeats 4000000 in
set_option maxRecDepth 100000 in
theorem c_X7_several_3 (l : Launch) (G : GG) (am : Nat → Nat) (g kf : St) (nk : Int32) {a : Nat} (ha : a < 40) {k : Nat} (hk : k < 4) : Ct l G yX7_several cX7_several 6 (some Jvm.ClassFile.FieldType.int) rm_X7_several_3 [.ref (am 0), .int (nI a), .int 3, .int (nI k)] (mw G am g kf nk) (fun rv W1 => rv = some (.int (m_X7_several_3 g a k)) ∧ W1 = mw G am g kf nk) := by
  refine Ct.mk2 (by decide) (Nat.le_of_ble_eq_true rfl) ?_
  intro p e s m args below meth c A H locs ls Q cx wo hl hQ
  obtain ⟨hx, hb, hml, hr, hlo, hown, hts, hnm, kn, hA⟩ := id cx
  have hl : lv_has ls 6 [(0, .ref (am 0)), (1, .int (nI a)), (2, .int 3), (3, .int (nI k))] := hl
  generalize hM : m_X7_several_3 g a k = M at hQ
  unfold m_X7_several_3 at hM
  refine lv_iconst (v := 0) hx hb dX7_several_0 (by decide) ?_
  refine lv_istore (lv' := [(4, .int 0), (0, .ref (am 0)), (1, .int (nI a)), (2, .int 3), (3, .int (nI k))]) hx hb dX7_several_1 hl (by decide) rfl (fun ls hl => ?_)
  refine lv_iconst (v := 0) hx hb dX7_several_3 (by decide) ?_
  refine lv_istore (lv' := [(5, .int 0), (4, .int 0), (0, .ref (am 0)), (1, .int (nI a)), (2, .int 3), (3, .int (nI k))]) hx hb dX7_several_4 hl (by decide) rfl (fun ls hl => ?_)
  refine lv_iload hx hb dX7_several_6 (lv_at hl 0 rfl) ?_
  refine lv_iload_n hx hb dX7_several_8 rfl (lv_at hl 4 rfl) ?_
  refine lv_icmp_ge (tgt := 36) hx hb dX7_several_9 (by decide) (fun h => absurd h (by decide)) (fun _ => ?_)
  refine lv_iload hx hb dX7_several_12 (lv_at hl 1 rfl) ?_
  refine lv_aload_n hx hb dX7_several_14 rfl (lv_at hl 2 rfl) ?_
  refine mg_st cx wo m_631 dX7_several_15 ?_
  refine lv_iload_n hx hb dX7_several_18 rfl (lv_at hl 3 rfl) ?_
  refine lv_iconst (v := 4) hx hb dX7_several_19 (by decide) ?_
  refine lv_iload hx hb dX7_several_20 (lv_at hl 0 rfl) ?_
  refine lv_imul hx hb dX7_several_22 ?_
  refine tope (y := 0) (by decide) ?_
  refine lv_iadd hx hb dX7_several_23 ?_
  refine tope (y := (nI a)) (ai (a := a) (b := 0) rfl rfl (by omega)) ?_
  refine lv_iload_n hx hb dX7_several_24 rfl (lv_at hl 5 rfl) ?_
  refine lv_iadd hx hb dX7_several_25 ?_
  refine tope (y := (nI (a + k))) (ai (a := a) (b := k) rfl rfl (by omega)) ?_
  refine ml_st (n := a + k) cx wo rfl (by omega) dX7_several_26 ?_
  refine lv_iadd hx hb dX7_several_27 ?_
  refine lv_istore (lv' := [(4, .int (0 + (g (a + k)))), (5, .int 0), (0, .ref (am 0)), (1, .int (nI a)), (2, .int 3), (3, .int (nI k))]) hx hb dX7_several_28 hl (by decide) rfl (fun ls hl => ?_)
  refine lv_iinc (v := 1) (lv' := [(5, .int 1), (4, .int (0 + (g (a + k)))), (0, .ref (am 0)), (1, .int (nI a)), (2, .int 3), (3, .int (nI k))]) hx hb dX7_several_30 hl (k := 1) rfl (by decide) (by decide) rfl (fun ls hl => ?_)
  refine lv_goto (tgt := 6) hx hb dX7_several_33 (by decide) ?_
  refine lv_iload hx hb dX7_several_6 (lv_at hl 0 rfl) ?_
  refine lv_iload_n hx hb dX7_several_8 rfl (lv_at hl 4 rfl) ?_
  refine lv_icmp_ge (tgt := 36) hx hb dX7_several_9 (by decide) (fun h => absurd h (by decide)) (fun _ => ?_)
  refine lv_iload hx hb dX7_several_12 (lv_at hl 1 rfl) ?_
  refine lv_aload_n hx hb dX7_several_14 rfl (lv_at hl 2 rfl) ?_
  refine mg_st cx wo m_631 dX7_several_15 ?_
  refine lv_iload_n hx hb dX7_several_18 rfl (lv_at hl 3 rfl) ?_
  refine lv_iconst (v := 4) hx hb dX7_several_19 (by decide) ?_
  refine lv_iload hx hb dX7_several_20 (lv_at hl 0 rfl) ?_
  refine lv_imul hx hb dX7_several_22 ?_
  refine tope (y := 4) (by decide) ?_
  refine lv_iadd hx hb dX7_several_23 ?_
  refine tope (y := (nI (4 + a))) (ai (a := a) (b := 4) rfl rfl (by omega)) ?_
  refine lv_iload_n hx hb dX7_several_24 rfl (lv_at hl 5 rfl) ?_
  refine lv_iadd hx hb dX7_several_25 ?_
  refine tope (y := (nI (4 + a + k))) (ai (a := 4 + a) (b := k) rfl rfl (by omega)) ?_
  refine ml_st (n := 4 + a + k) cx wo rfl (by omega) dX7_several_26 ?_
  refine lv_iadd hx hb dX7_several_27 ?_
  refine lv_istore (lv' := [(4, .int ((0 + (g (a + k))) + (g (4 + a + k)))), (5, .int 1), (0, .ref (am 0)), (1, .int (nI a)), (2, .int 3), (3, .int (nI k))]) hx hb dX7_several_28 hl (by decide) rfl (fun ls hl => ?_)
  refine lv_iinc (v := 2) (lv' := [(5, .int 2), (4, .int ((0 + (g (a + k))) + (g (4 + a + k)))), (0, .ref (am 0)), (1, .int (nI a)), (2, .int 3), (3, .int (nI k))]) hx hb dX7_several_30 hl (k := 1) rfl (by decide) (by decide) rfl (fun ls hl => ?_)
  refine lv_goto (tgt := 6) hx hb dX7_several_33 (by decide) ?_
  refine lv_iload hx hb dX7_several_6 (lv_at hl 0 rfl) ?_
  refine lv_iload_n hx hb dX7_several_8 rfl (lv_at hl 4 rfl) ?_
  refine lv_icmp_ge (tgt := 36) hx hb dX7_several_9 (by decide) (fun h => absurd h (by decide)) (fun _ => ?_)
  refine lv_iload hx hb dX7_several_12 (lv_at hl 1 rfl) ?_
  refine lv_aload_n hx hb dX7_several_14 rfl (lv_at hl 2 rfl) ?_
  refine mg_st cx wo m_631 dX7_several_15 ?_
  refine lv_iload_n hx hb dX7_several_18 rfl (lv_at hl 3 rfl) ?_
  refine lv_iconst (v := 4) hx hb dX7_several_19 (by decide) ?_
  refine lv_iload hx hb dX7_several_20 (lv_at hl 0 rfl) ?_
  refine lv_imul hx hb dX7_several_22 ?_
  refine tope (y := 8) (by decide) ?_
  refine lv_iadd hx hb dX7_several_23 ?_
  refine tope (y := (nI (8 + a))) (ai (a := a) (b := 8) rfl rfl (by omega)) ?_
  refine lv_iload_n hx hb dX7_several_24 rfl (lv_at hl 5 rfl) ?_
  refine lv_iadd hx hb dX7_several_25 ?_
  refine tope (y := (nI (8 + a + k))) (ai (a := 8 + a) (b := k) rfl rfl (by omega)) ?_
  refine ml_st (n := 8 + a + k) cx wo rfl (by omega) dX7_several_26 ?_
  refine lv_iadd hx hb dX7_several_27 ?_
  refine lv_istore (lv' := [(4, .int (((0 + (g (a + k))) + (g (4 + a + k))) + (g (8 + a + k)))), (5, .int 2), (0, .ref (am 0)), (1, .int (nI a)), (2, .int 3), (3, .int (nI k))]) hx hb dX7_several_28 hl (by decide) rfl (fun ls hl => ?_)
  refine lv_iinc (v := 3) (lv' := [(5, .int 3), (4, .int (((0 + (g (a + k))) + (g (4 + a + k))) + (g (8 + a + k)))), (0, .ref (am 0)), (1, .int (nI a)), (2, .int 3), (3, .int (nI k))]) hx hb dX7_several_30 hl (k := 1) rfl (by decide) (by decide) rfl (fun ls hl => ?_)
  refine lv_goto (tgt := 6) hx hb dX7_several_33 (by decide) ?_
  refine lv_iload hx hb dX7_several_6 (lv_at hl 0 rfl) ?_
  refine lv_iload_n hx hb dX7_several_8 rfl (lv_at hl 4 rfl) ?_
  refine lv_icmp_ge (tgt := 36) hx hb dX7_several_9 (by decide) (fun _ => ?_) (fun h => absurd (show ¬ _ from h) (by decide))
  refine lv_iload hx hb dX7_several_36 (lv_at hl 1 rfl) ?_
  exact r2_i cx hQ wo dX7_several_38 (by subst hM; exact ⟨rfl, rfl⟩)
abbrev rm_X7_several_4 : Room := { frames := 0, cells := 0, slots := 0, locals := 0 }
def m_X7_several_4 (g : St) (a : Nat) (k : Nat) : Int32 :=
  ((((0 + (g (a + k))) + (g (4 + a + k))) + (g (8 + a + k))) + (g (12 + a + k)))
set_option maxHeartbeats 4000000 in
set_option maxRecDepth 100000 in
theorem c_X7_several_4 (l : Launch) (G : GG) (am : Nat → Nat) (g kf : St) (nk : Int32) {a : Nat} (ha : a < 40) {k : Nat} (hk : k < 4) : Ct l G yX7_several cX7_several 6 (some Jvm.ClassFile.FieldType.int) rm_X7_several_4 [.ref (am 0), .int (nI a), .int 4, .int (nI k)] (mw G am g kf nk) (fun rv W1 => rv = some (.int (m_X7_several_4 g a k)) ∧ W1 = mw G am g kf nk) := by
  refine Ct.mk2 (by decide) (Nat.le_of_ble_eq_true rfl) ?_
  intro p e s m args below meth c A H locs ls Q cx wo hl hQ
  obtain ⟨hx, hb, hml, hr, hlo, hown, hts, hnm, kn, hA⟩ := id cx
  have hl : lv_has ls 6 [(0, .ref (am 0)), (1, .int (nI a)), (2, .int 4), (3, .int (nI k))] := hl
  generalize hM : m_X7_several_4 g a k = M at hQ
  unfold m_X7_several_4 at hM
  refine lv_iconst (v := 0) hx hb dX7_several_0 (by decide) ?_
  refine lv_istore (lv' := [(4, .int 0), (0, .ref (am 0)), (1, .int (nI a)), (2, .int 4), (3, .int (nI k))]) hx hb dX7_several_1 hl (by decide) rfl (fun ls hl => ?_)
  refine lv_iconst (v := 0) hx hb dX7_several_3 (by decide) ?_
  refine lv_istore (lv' := [(5, .int 0), (4, .int 0), (0, .ref (am 0)), (1, .int (nI a)), (2, .int 4), (3, .int (nI k))]) hx hb dX7_several_4 hl (by decide) rfl (fun ls hl => ?_)
  refine lv_iload hx hb dX7_several_6 (lv_at hl 0 rfl) ?_
  refine lv_iload_n hx hb dX7_several_8 rfl (lv_at hl 4 rfl) ?_
  refine lv_icmp_ge (tgt := 36) hx hb dX7_several_9 (by decide) (fun h => absurd h (by decide)) (fun _ => ?_)
  refine lv_iload hx hb dX7_several_12 (lv_at hl 1 rfl) ?_
  refine lv_aload_n hx hb dX7_several_14 rfl (lv_at hl 2 rfl) ?_
  refine mg_st cx wo m_631 dX7_several_15 ?_
  refine lv_iload_n hx hb dX7_several_18 rfl (lv_at hl 3 rfl) ?_
  refine lv_iconst (v := 4) hx hb dX7_several_19 (by decide) ?_
  refine lv_iload hx hb dX7_several_20 (lv_at hl 0 rfl) ?_
  refine lv_imul hx hb dX7_several_22 ?_
  refine tope (y := 0) (by decide) ?_
  refine lv_iadd hx hb dX7_several_23 ?_
  refine tope (y := (nI a)) (ai (a := a) (b := 0) rfl rfl (by omega)) ?_
  refine lv_iload_n hx hb dX7_several_24 rfl (lv_at hl 5 rfl) ?_
  refine lv_iadd hx hb dX7_several_25 ?_
  refine tope (y := (nI (a + k))) (ai (a := a) (b := k) rfl rfl (by omega)) ?_
  refine ml_st (n := a + k) cx wo rfl (by omega) dX7_several_26 ?_
  refine lv_iadd hx hb dX7_several_27 ?_
  refine lv_istore (lv' := [(4, .int (0 + (g (a + k)))), (5, .int 0), (0, .ref (am 0)), (1, .int (nI a)), (2, .int 4), (3, .int (nI k))]) hx hb dX7_several_28 hl (by decide) rfl (fun ls hl => ?_)
  refine lv_iinc (v := 1) (lv' := [(5, .int 1), (4, .int (0 + (g (a + k)))), (0, .ref (am 0)), (1, .int (nI a)), (2, .int 4), (3, .int (nI k))]) hx hb dX7_several_30 hl (k := 1) rfl (by decide) (by decide) rfl (fun ls hl => ?_)
  refine lv_goto (tgt := 6) hx hb dX7_several_33 (by decide) ?_
  refine lv_iload hx hb dX7_several_6 (lv_at hl 0 rfl) ?_
  refine lv_iload_n hx hb dX7_several_8 rfl (lv_at hl 4 rfl) ?_
  refine lv_icmp_ge (tgt := 36) hx hb dX7_several_9 (by decide) (fun h => absurd h (by decide)) (fun _ => ?_)
  refine lv_iload hx hb dX7_several_12 (lv_at hl 1 rfl) ?_
  refine lv_aload_n hx hb dX7_several_14 rfl (lv_at hl 2 rfl) ?_
  refine mg_st cx wo m_631 dX7_several_15 ?_
  refine lv_iload_n hx hb dX7_several_18 rfl (lv_at hl 3 rfl) ?_
  refine lv_iconst (v := 4) hx hb dX7_several_19 (by decide) ?_
  refine lv_iload hx hb dX7_several_20 (lv_at hl 0 rfl) ?_
  refine lv_imul hx hb dX7_several_22 ?_
  refine tope (y := 4) (by decide) ?_
  refine lv_iadd hx hb dX7_several_23 ?_
  refine tope (y := (nI (4 + a))) (ai (a := a) (b := 4) rfl rfl (by omega)) ?_
  refine lv_iload_n hx hb dX7_several_24 rfl (lv_at hl 5 rfl) ?_
  refine lv_iadd hx hb dX7_several_25 ?_
  refine tope (y := (nI (4 + a + k))) (ai (a := 4 + a) (b := k) rfl rfl (by omega)) ?_
  refine ml_st (n := 4 + a + k) cx wo rfl (by omega) dX7_several_26 ?_
  refine lv_iadd hx hb dX7_several_27 ?_
  refine lv_istore (lv' := [(4, .int ((0 + (g (a + k))) + (g (4 + a + k)))), (5, .int 1), (0, .ref (am 0)), (1, .int (nI a)), (2, .int 4), (3, .int (nI k))]) hx hb dX7_several_28 hl (by decide) rfl (fun ls hl => ?_)
  refine lv_iinc (v := 2) (lv' := [(5, .int 2), (4, .int ((0 + (g (a + k))) + (g (4 + a + k)))), (0, .ref (am 0)), (1, .int (nI a)), (2, .int 4), (3, .int (nI k))]) hx hb dX7_several_30 hl (k := 1) rfl (by decide) (by decide) rfl (fun ls hl => ?_)
  refine lv_goto (tgt := 6) hx hb dX7_several_33 (by decide) ?_
  refine lv_iload hx hb dX7_several_6 (lv_at hl 0 rfl) ?_
  refine lv_iload_n hx hb dX7_several_8 rfl (lv_at hl 4 rfl) ?_
  refine lv_icmp_ge (tgt := 36) hx hb dX7_several_9 (by decide) (fun h => absurd h (by decide)) (fun _ => ?_)
  refine lv_iload hx hb dX7_several_12 (lv_at hl 1 rfl) ?_
  refine lv_aload_n hx hb dX7_several_14 rfl (lv_at hl 2 rfl) ?_
  refine mg_st cx wo m_631 dX7_several_15 ?_
  refine lv_iload_n hx hb dX7_several_18 rfl (lv_at hl 3 rfl) ?_
  refine lv_iconst (v := 4) hx hb dX7_several_19 (by decide) ?_
  refine lv_iload hx hb dX7_several_20 (lv_at hl 0 rfl) ?_
  refine lv_imul hx hb dX7_several_22 ?_
  refine tope (y := 8) (by decide) ?_
  refine lv_iadd hx hb dX7_several_23 ?_
  refine tope (y := (nI (8 + a))) (ai (a := a) (b := 8) rfl rfl (by omega)) ?_
  refine lv_iload_n hx hb dX7_several_24 rfl (lv_at hl 5 rfl) ?_
  refine lv_iadd hx hb dX7_several_25 ?_
  refine tope (y := (nI (8 + a + k))) (ai (a := 8 + a) (b := k) rfl rfl (by omega)) ?_
  refine ml_st (n := 8 + a + k) cx wo rfl (by omega) dX7_several_26 ?_
  refine lv_iadd hx hb dX7_several_27 ?_
  refine lv_istore (lv' := [(4, .int (((0 + (g (a + k))) + (g (4 + a + k))) + (g (8 + a + k)))), (5, .int 2), (0, .ref (am 0)), (1, .int (nI a)), (2, .int 4), (3, .int (nI k))]) hx hb dX7_several_28 hl (by decide) rfl (fun ls hl => ?_)
  refine lv_iinc (v := 3) (lv' := [(5, .int 3), (4, .int (((0 + (g (a + k))) + (g (4 + a + k))) + (g (8 + a + k)))), (0, .ref (am 0)), (1, .int (nI a)), (2, .int 4), (3, .int (nI k))]) hx hb dX7_several_30 hl (k := 1) rfl (by decide) (by decide) rfl (fun ls hl => ?_)
  refine lv_goto (tgt := 6) hx hb dX7_several_33 (by decide) ?_
  refine lv_iload hx hb dX7_several_6 (lv_at hl 0 rfl) ?_
  refine lv_iload_n hx hb dX7_several_8 rfl (lv_at hl 4 rfl) ?_
  refine lv_icmp_ge (tgt := 36) hx hb dX7_several_9 (by decide) (fun h => absurd h (by decide)) (fun _ => ?_)
  refine lv_iload hx hb dX7_several_12 (lv_at hl 1 rfl) ?_
  refine lv_aload_n hx hb dX7_several_14 rfl (lv_at hl 2 rfl) ?_
  refine mg_st cx wo m_631 dX7_several_15 ?_
  refine lv_iload_n hx hb dX7_several_18 rfl (lv_at hl 3 rfl) ?_
  refine lv_iconst (v := 4) hx hb dX7_several_19 (by decide) ?_
  refine lv_iload hx hb dX7_several_20 (lv_at hl 0 rfl) ?_
  refine lv_imul hx hb dX7_several_22 ?_
  refine tope (y := 12) (by decide) ?_
  refine lv_iadd hx hb dX7_several_23 ?_
  refine tope (y := (nI (12 + a))) (ai (a := a) (b := 12) rfl rfl (by omega)) ?_
  refine lv_iload_n hx hb dX7_several_24 rfl (lv_at hl 5 rfl) ?_
  refine lv_iadd hx hb dX7_several_25 ?_
  refine tope (y := (nI (12 + a + k))) (ai (a := 12 + a) (b := k) rfl rfl (by omega)) ?_
  refine ml_st (n := 12 + a + k) cx wo rfl (by omega) dX7_several_26 ?_
  refine lv_iadd hx hb dX7_several_27 ?_
  refine lv_istore (lv' := [(4, .int ((((0 + (g (a + k))) + (g (4 + a + k))) + (g (8 + a + k))) + (g (12 + a + k)))), (5, .int 3), (0, .ref (am 0)), (1, .int (nI a)), (2, .int 4), (3, .int (nI k))]) hx hb dX7_several_28 hl (by decide) rfl (fun ls hl => ?_)
  refine lv_iinc (v := 4) (lv' := [(5, .int 4), (4, .int ((((0 + (g (a + k))) + (g (4 + a + k))) + (g (8 + a + k))) + (g (12 + a + k)))), (0, .ref (am 0)), (1, .int (nI a)), (2, .int 4), (3, .int (nI k))]) hx hb dX7_several_30 hl (k := 1) rfl (by decide) (by decide) rfl (fun ls hl => ?_)
  refine lv_goto (tgt := 6) hx hb dX7_several_33 (by decide) ?_
  refine lv_iload hx hb dX7_several_6 (lv_at hl 0 rfl) ?_
  refine lv_iload_n hx hb dX7_several_8 rfl (lv_at hl 4 rfl) ?_
  refine lv_icmp_ge (tgt := 36) hx hb dX7_several_9 (by decide) (fun _ => ?_) (fun h => absurd (show ¬ _ from h) (by decide))
  refine lv_iload hx hb dX7_several_36 (lv_at hl 1 rfl) ?_
  exact r2_i cx hQ wo dX7_several_38 (by subst hM; exact ⟨rfl, rfl⟩)
abbrev rm_X7_book : Room := { frames := 1, cells := 0, slots := 0, locals := 25 }
def m_X7_book (g : St) (x : Int32) (y : Int32) : Int32 :=
  if (m_X7_in x 0 10) = true then (if (m_X7_in y 1 4) = true then (if (nI (x.toNatClampNeg)) = 0 then (m_X7_several_1 g 0 ((y.toNatClampNeg - 1)))
      else if (nI (x.toNatClampNeg)) = 1 then (m_X7_several_3 g 4 ((y.toNatClampNeg - 1)))
      else if (nI (x.toNatClampNeg)) = 2 then (m_X7_several_4 g 16 ((y.toNatClampNeg - 1)))
      else if (nI (x.toNatClampNeg)) = 3 then (m_X7_several_4 g 32 ((y.toNatClampNeg - 1)))
      else (g (47 + 4 * (x.toNatClampNeg - 4) + y.toNatClampNeg)))
    else (-1))
  else (-1)
set_option maxHeartbeats 4000000 in
set_option maxRecDepth 100000 in
theorem c_X7_book (l : Launch) (G : GG) (am : Nat → Nat) (g kf : St) (nk : Int32) (x : Int32) (y : Int32) : Ct l G yX7_book cX7_book 3 (some Jvm.ClassFile.FieldType.int) rm_X7_book [.ref (am 0), .int x, .int y] (mw G am g kf nk) (fun rv W1 => rv = some (.int (m_X7_book g x y)) ∧ W1 = mw G am g kf nk) := by
  refine Ct.mk2 (by decide) (Nat.le_of_ble_eq_true rfl) ?_
  intro p e s m args below meth c A H locs ls Q cx wo hl hQ
  obtain ⟨hx, hb, hml, hr, hlo, hown, hts, hnm, kn, hA⟩ := id cx
  have hl : lv_has ls 3 [(0, .ref (am 0)), (1, .int x), (2, .int y)] := hl
  generalize hM : m_X7_book g x y = M at hQ
  unfold m_X7_book at hM
  refine lv_iload_n hx hb dX7_book_0 rfl (lv_at hl 1 rfl) ?_
  refine lv_iconst (v := 0) hx hb dX7_book_1 (by decide) ?_
  refine lv_bipush (v := 10) hx hb dX7_book_2 (by decide) ?_
  refine call_S (As := [.int x, .int 0, .int 10]) (rest := []) (fun X => X) Fr_id cx (c_X7_in l G _ x 0 10) fx_X7_in m_649 m_650 ⟨by decide, by decide⟩ wo rfl hl.1 rfl (Nat.le_of_ble_eq_true rfl) dX7_book_4 ⟨by decide, by decide⟩ (fun v W1 H locs hp wo => ?_)
  obtain ⟨rfl, rfl⟩ := hp
  refine nrm_i ?_
  refine if_eq_b (tgt := 19) hx hb dX7_book_7 (by decide) (fun c_1 => ?_) (fun c_1 => ?_)
  · skip
    rw [if_neg c_1] at hM
    refine lv_iconst (v := (-1)) hx hb dX7_book_19 (by decide) ?_
    exact r2_i cx hQ wo dX7_book_20 (by subst hM; exact ⟨rfl, rfl⟩)
  · skip
    rw [if_pos c_1] at hM
    have q_2 := inb (lo := 0) (hi := 10) c_1
    have q_2b := q_2.2
    refine lv_iload_n hx hb dX7_book_10 rfl (lv_at hl 2 rfl) ?_
    refine lv_iconst (v := 1) hx hb dX7_book_11 (by decide) ?_
    refine lv_iconst (v := 4) hx hb dX7_book_12 (by decide) ?_
    refine call_S (As := [.int y, .int 1, .int 4]) (rest := []) (fun X => X) Fr_id cx (c_X7_in l G _ y 1 4) fx_X7_in m_649 m_650 ⟨by decide, by decide⟩ wo rfl hl.1 rfl (Nat.le_of_ble_eq_true rfl) dX7_book_13 ⟨by decide, by decide⟩ (fun v W1 H locs hp wo => ?_)
    obtain ⟨rfl, rfl⟩ := hp
    refine nrm_i ?_
    refine if_ne_b (tgt := 21) hx hb dX7_book_16 (by decide) (fun c_3 => ?_) (fun c_3 => ?_)
    · skip
      rw [if_pos c_3] at hM
      have q_4 := inb (lo := 1) (hi := 4) c_3
      have q_4b := q_4.2
      refine lv_iload_n hx hb dX7_book_21 rfl (lv_at hl 1 rfl) ?_
      refine tope (y := (nI (x.toNatClampNeg))) q_2.1 ?_
      by_cases c_5 : (nI (x.toNatClampNeg)) = 0
      · skip
        rw [if_pos c_5] at hM
        refine lv_tableIn (off := 30) (tgt := 52) hx hb dX7_book_22 (by rw [c_5]; decide) (by rw [c_5]; decide) (by rw [c_5]; decide) (by decide) ?_
        refine lv_aload_n hx hb dX7_book_52 rfl (lv_at hl 0 rfl) ?_
        refine lv_iconst (v := 0) hx hb dX7_book_53 (by decide) ?_
        refine lv_iconst (v := 1) hx hb dX7_book_54 (by decide) ?_
        refine lv_iload_n hx hb dX7_book_55 rfl (lv_at hl 2 rfl) ?_
        refine tope (y := (nI (y.toNatClampNeg))) q_4.1 ?_
        refine lv_iconst (v := 1) hx hb dX7_book_56 (by decide) ?_
        refine lv_isub hx hb dX7_book_57 ?_
        refine tope (y := (nI ((y.toNatClampNeg - 1)))) (si (a := y.toNatClampNeg) (b := 1) rfl rfl (by omega) (by omega)) ?_
        refine call_V (As := [.int 0, .int 1, .int (nI ((y.toNatClampNeg - 1)))]) (rest := []) (fun X => X) Fr_id cx (c_X7_several_1 l G am _ _ _ (a := 0) (by omega) (k := (y.toNatClampNeg - 1)) (by omega)) fx_X7_several m_770 m_772 m_37 ⟨by decide, by decide⟩ wo (k := 0) rfl rfl rfl rfl hl.1 rfl (Nat.le_of_ble_eq_true rfl) dX7_book_58 ⟨by decide, by decide⟩ (fun v W1 H locs hp wo => ?_)
        obtain ⟨rfl, rfl⟩ := hp
        refine nrm_i ?_
        exact r2_i cx hQ wo dX7_book_61 (by subst hM; exact ⟨rfl, rfl⟩)
      rw [if_neg c_5] at hM
      have c_5n := ne_nI (k := 0) c_5
      by_cases c_6 : (nI (x.toNatClampNeg)) = 1
      · skip
        rw [if_pos c_6] at hM
        refine lv_tableIn (off := 40) (tgt := 62) hx hb dX7_book_22 (by rw [c_6]; decide) (by rw [c_6]; decide) (by rw [c_6]; decide) (by decide) ?_
        refine lv_aload_n hx hb dX7_book_62 rfl (lv_at hl 0 rfl) ?_
        refine lv_iconst (v := 4) hx hb dX7_book_63 (by decide) ?_
        refine lv_iconst (v := 3) hx hb dX7_book_64 (by decide) ?_
        refine lv_iload_n hx hb dX7_book_65 rfl (lv_at hl 2 rfl) ?_
        refine tope (y := (nI (y.toNatClampNeg))) q_4.1 ?_
        refine lv_iconst (v := 1) hx hb dX7_book_66 (by decide) ?_
        refine lv_isub hx hb dX7_book_67 ?_
        refine tope (y := (nI ((y.toNatClampNeg - 1)))) (si (a := y.toNatClampNeg) (b := 1) rfl rfl (by omega) (by omega)) ?_
        refine call_V (As := [.int 4, .int 3, .int (nI ((y.toNatClampNeg - 1)))]) (rest := []) (fun X => X) Fr_id cx (c_X7_several_3 l G am _ _ _ (a := 4) (by omega) (k := (y.toNatClampNeg - 1)) (by omega)) fx_X7_several m_770 m_772 m_37 ⟨by decide, by decide⟩ wo (k := 0) rfl rfl rfl rfl hl.1 rfl (Nat.le_of_ble_eq_true rfl) dX7_book_68 ⟨by decide, by decide⟩ (fun v W1 H locs hp wo => ?_)
        obtain ⟨rfl, rfl⟩ := hp
        refine nrm_i ?_
        exact r2_i cx hQ wo dX7_book_71 (by subst hM; exact ⟨rfl, rfl⟩)
      rw [if_neg c_6] at hM
      have c_6n := ne_nI (k := 1) c_6
      by_cases c_7 : (nI (x.toNatClampNeg)) = 2
      · skip
        rw [if_pos c_7] at hM
        refine lv_tableIn (off := 50) (tgt := 72) hx hb dX7_book_22 (by rw [c_7]; decide) (by rw [c_7]; decide) (by rw [c_7]; decide) (by decide) ?_
        refine lv_aload_n hx hb dX7_book_72 rfl (lv_at hl 0 rfl) ?_
        refine lv_bipush (v := 16) hx hb dX7_book_73 (by decide) ?_
        refine lv_iconst (v := 4) hx hb dX7_book_75 (by decide) ?_
        refine lv_iload_n hx hb dX7_book_76 rfl (lv_at hl 2 rfl) ?_
        refine tope (y := (nI (y.toNatClampNeg))) q_4.1 ?_
        refine lv_iconst (v := 1) hx hb dX7_book_77 (by decide) ?_
        refine lv_isub hx hb dX7_book_78 ?_
        refine tope (y := (nI ((y.toNatClampNeg - 1)))) (si (a := y.toNatClampNeg) (b := 1) rfl rfl (by omega) (by omega)) ?_
        refine call_V (As := [.int 16, .int 4, .int (nI ((y.toNatClampNeg - 1)))]) (rest := []) (fun X => X) Fr_id cx (c_X7_several_4 l G am _ _ _ (a := 16) (by omega) (k := (y.toNatClampNeg - 1)) (by omega)) fx_X7_several m_770 m_772 m_37 ⟨by decide, by decide⟩ wo (k := 0) rfl rfl rfl rfl hl.1 rfl (Nat.le_of_ble_eq_true rfl) dX7_book_79 ⟨by decide, by decide⟩ (fun v W1 H locs hp wo => ?_)
        obtain ⟨rfl, rfl⟩ := hp
        refine nrm_i ?_
        exact r2_i cx hQ wo dX7_book_82 (by subst hM; exact ⟨rfl, rfl⟩)
      rw [if_neg c_7] at hM
      have c_7n := ne_nI (k := 2) c_7
      by_cases c_8 : (nI (x.toNatClampNeg)) = 3
      · skip
        rw [if_pos c_8] at hM
        refine lv_tableIn (off := 61) (tgt := 83) hx hb dX7_book_22 (by rw [c_8]; decide) (by rw [c_8]; decide) (by rw [c_8]; decide) (by decide) ?_
        refine lv_aload_n hx hb dX7_book_83 rfl (lv_at hl 0 rfl) ?_
        refine lv_bipush (v := 32) hx hb dX7_book_84 (by decide) ?_
        refine lv_iconst (v := 4) hx hb dX7_book_86 (by decide) ?_
        refine lv_iload_n hx hb dX7_book_87 rfl (lv_at hl 2 rfl) ?_
        refine tope (y := (nI (y.toNatClampNeg))) q_4.1 ?_
        refine lv_iconst (v := 1) hx hb dX7_book_88 (by decide) ?_
        refine lv_isub hx hb dX7_book_89 ?_
        refine tope (y := (nI ((y.toNatClampNeg - 1)))) (si (a := y.toNatClampNeg) (b := 1) rfl rfl (by omega) (by omega)) ?_
        refine call_V (As := [.int 32, .int 4, .int (nI ((y.toNatClampNeg - 1)))]) (rest := []) (fun X => X) Fr_id cx (c_X7_several_4 l G am _ _ _ (a := 32) (by omega) (k := (y.toNatClampNeg - 1)) (by omega)) fx_X7_several m_770 m_772 m_37 ⟨by decide, by decide⟩ wo (k := 0) rfl rfl rfl rfl hl.1 rfl (Nat.le_of_ble_eq_true rfl) dX7_book_90 ⟨by decide, by decide⟩ (fun v W1 H locs hp wo => ?_)
        obtain ⟨rfl, rfl⟩ := hp
        refine nrm_i ?_
        exact r2_i cx hQ wo dX7_book_93 (by subst hM; exact ⟨rfl, rfl⟩)
      rw [if_neg c_8] at hM
      have c_8n := ne_nI (k := 3) c_8
      refine lv_tableOut (tgt := 94) hx hb dX7_book_22 (by have q0 := lv_neT c_5 (a := 0) rfl; have q1 := lv_neT c_6 (a := 1) rfl; have q2 := lv_neT c_7 (a := 2) rfl; have q3 := lv_neT c_8 (a := 3) rfl; omega) (by decide) ?_
      refine lv_aload_n hx hb dX7_book_94 rfl (lv_at hl 0 rfl) ?_
      refine mg_st cx wo m_631 dX7_book_95 ?_
      refine lv_bipush (v := 48) hx hb dX7_book_98 (by decide) ?_
      refine lv_iconst (v := 4) hx hb dX7_book_100 (by decide) ?_
      refine lv_iload_n hx hb dX7_book_101 rfl (lv_at hl 1 rfl) ?_
      refine tope (y := (nI (x.toNatClampNeg))) q_2.1 ?_
      refine lv_iconst (v := 4) hx hb dX7_book_102 (by decide) ?_
      refine lv_isub hx hb dX7_book_103 ?_
      refine tope (y := (nI ((x.toNatClampNeg - 4)))) (si (a := x.toNatClampNeg) (b := 4) rfl rfl (by omega) (by omega)) ?_
      refine lv_imul hx hb dX7_book_104 ?_
      refine tope (y := (nI (4 * (x.toNatClampNeg - 4)))) (mi (a := 4) (b := (x.toNatClampNeg - 4)) rfl rfl (by omega)) ?_
      refine lv_iadd hx hb dX7_book_105 ?_
      refine tope (y := (nI (48 + 4 * (x.toNatClampNeg - 4)))) (ai (a := 48) (b := 4 * (x.toNatClampNeg - 4)) rfl rfl (by omega)) ?_
      refine lv_iload_n hx hb dX7_book_106 rfl (lv_at hl 2 rfl) ?_
      refine tope (y := (nI (y.toNatClampNeg))) q_4.1 ?_
      refine lv_iadd hx hb dX7_book_107 ?_
      refine tope (y := (nI (48 + 4 * (x.toNatClampNeg - 4) + y.toNatClampNeg))) (ai (a := 48 + 4 * (x.toNatClampNeg - 4)) (b := y.toNatClampNeg) rfl rfl (by omega)) ?_
      refine lv_iconst (v := 1) hx hb dX7_book_108 (by decide) ?_
      refine lv_isub hx hb dX7_book_109 ?_
      refine tope (y := (nI (47 + 4 * (x.toNatClampNeg - 4) + y.toNatClampNeg))) (si (a := 48 + 4 * (x.toNatClampNeg - 4) + y.toNatClampNeg) (b := 1) rfl rfl (by omega) (by omega)) ?_
      refine ml_st (n := 47 + 4 * (x.toNatClampNeg - 4) + y.toNatClampNeg) cx wo rfl (by omega) dX7_book_110 ?_
      exact r2_i cx hQ wo dX7_book_111 (by subst hM; exact ⟨rfl, rfl⟩)
    · skip
      rw [if_neg c_3] at hM
      refine lv_iconst (v := (-1)) hx hb dX7_book_19 (by decide) ?_
      exact r2_i cx hQ wo dX7_book_20 (by subst hM; exact ⟨rfl, rfl⟩)
abbrev rm_X7_count : Room := { frames := 1, cells := 0, slots := 0, locals := 22 }
def m_X7_count (g : St) (nk : Int32) (x : Int32) : Int32 :=
  if (m_X7_in x 0 9) = true then (if (nI (x.toNatClampNeg)) = 7 then nk
    else (g (140 + x.toNatClampNeg)))
  else (-1)
set_option maxHeartbeats 4000000 in
set_option maxRecDepth 100000 in
theorem c_X7_count (l : Launch) (G : GG) (am : Nat → Nat) (g kf : St) (nk : Int32) (x : Int32) : Ct l G yX7_count cX7_count 2 (some Jvm.ClassFile.FieldType.int) rm_X7_count [.ref (am 0), .int x] (mw G am g kf nk) (fun rv W1 => rv = some (.int (m_X7_count g nk x)) ∧ W1 = mw G am g kf nk) := by
  refine Ct.mk2 (by decide) (Nat.le_of_ble_eq_true rfl) ?_
  intro p e s m args below meth c A H locs ls Q cx wo hl hQ
  obtain ⟨hx, hb, hml, hr, hlo, hown, hts, hnm, kn, hA⟩ := id cx
  have hl : lv_has ls 2 [(0, .ref (am 0)), (1, .int x)] := hl
  generalize hM : m_X7_count g nk x = M at hQ
  unfold m_X7_count at hM
  refine lv_iload_n hx hb dX7_count_0 rfl (lv_at hl 1 rfl) ?_
  refine lv_iconst (v := 0) hx hb dX7_count_1 (by decide) ?_
  refine lv_bipush (v := 9) hx hb dX7_count_2 (by decide) ?_
  refine call_S (As := [.int x, .int 0, .int 9]) (rest := []) (fun X => X) Fr_id cx (c_X7_in l G _ x 0 9) fx_X7_in m_649 m_650 ⟨by decide, by decide⟩ wo rfl hl.1 rfl (Nat.le_of_ble_eq_true rfl) dX7_count_4 ⟨by decide, by decide⟩ (fun v W1 H locs hp wo => ?_)
  obtain ⟨rfl, rfl⟩ := hp
  refine nrm_i ?_
  refine if_ne_b (tgt := 12) hx hb dX7_count_7 (by decide) (fun c_1 => ?_) (fun c_1 => ?_)
  · skip
    rw [if_pos c_1] at hM
    have q_2 := inb (lo := 0) (hi := 9) c_1
    have q_2b := q_2.2
    refine lv_iload_n hx hb dX7_count_12 rfl (lv_at hl 1 rfl) ?_
    refine tope (y := (nI (x.toNatClampNeg))) q_2.1 ?_
    refine lv_bipush (v := 7) hx hb dX7_count_13 (by decide) ?_
    refine lv_icmp_ne (tgt := 25) hx hb dX7_count_15 (by decide) (fun c_3 => ?_) (fun c_3 => ?_)
    · skip
      rw [if_neg c_3] at hM
      have c_3n := ne_nI (k := 7) c_3
      refine lv_aload_n hx hb dX7_count_25 rfl (lv_at hl 0 rfl) ?_
      refine mg_st cx wo m_631 dX7_count_26 ?_
      refine lv_sipush (v := 140) hx hb dX7_count_29 (by decide) ?_
      refine lv_iload_n hx hb dX7_count_32 rfl (lv_at hl 1 rfl) ?_
      refine tope (y := (nI (x.toNatClampNeg))) q_2.1 ?_
      refine lv_iadd hx hb dX7_count_33 ?_
      refine tope (y := (nI (140 + x.toNatClampNeg))) (ai (a := 140) (b := x.toNatClampNeg) rfl rfl (by omega)) ?_
      refine ml_st (n := 140 + x.toNatClampNeg) cx wo rfl (by omega) dX7_count_34 ?_
      exact r2_i cx hQ wo dX7_count_35 (by subst hM; exact ⟨rfl, rfl⟩)
    · skip
      rw [if_pos c_3] at hM
      refine lv_aload_n hx hb dX7_count_18 rfl (lv_at hl 0 rfl) ?_
      refine mg_many cx wo m_633 dX7_count_19 ?_
      refine lv_goto (tgt := 35) hx hb dX7_count_22 (by decide) ?_
      exact r2_i cx hQ wo dX7_count_35 (by subst hM; exact ⟨rfl, rfl⟩)
  · skip
    rw [if_neg c_1] at hM
    refine lv_iconst (v := (-1)) hx hb dX7_count_10 (by decide) ?_
    exact r2_i cx hQ wo dX7_count_11 (by subst hM; exact ⟨rfl, rfl⟩)
