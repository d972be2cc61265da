/-! printed walks: keep and back -/
def kw (G : GG) (ka : Nat → Nat → Nat) (gs : Nat → St) : va_W := (List.range 8).flatMap (fun i => aw G (ka i) (gs i))
def kr (G : GG) (ka : Nat → Nat → Nat) (gs : Nat → St) (n : Nat) : va_W := ((List.range 8).erase n).flatMap (fun i => aw G (ka i) (gs i))
theorem kw_perm (G : GG) (ka : Nat → Nat → Nat) (gs : Nat → St) {n : Nat} (hn : n < 8) : (kw G ka gs).Perm (aw G (ka n) (gs n) ++ kr G ka gs n) := by
  unfold kw kr
  have h := List.perm_cons_erase (List.mem_range.mpr hn)
  exact (h.flatMap_right _).trans (by rw [List.flatMap_cons])
theorem kr_upd (G : GG) (ka : Nat → Nat → Nat) (gs : Nat → St) (g : St) {n : Nat} (hn : n < 8) : kr G ka (va_up gs n g) n = kr G ka gs n := by
  unfold kr
  rw [List.flatMap_def, List.flatMap_def]
  refine congrArg List.flatten (List.map_congr_left fun i hi => ?_)
  have hne : i ≠ n := fun e => by
    subst e
    exact absurd hi (List.Nodup.not_mem_erase List.nodup_range)
  unfold va_up
  rw [if_neg hne]
theorem Wo_perm {G : GG} {A : Nat → Prop} {H0 H : Heap} {locs : List Loc} {ws ws' : va_W} (h : ws.Perm ws') (wo : Wo G A H0 H locs ws) : Wo G A H0 H locs ws' := ⟨vP_perm h wo.1, vD_perm h wo.2.1, wo.2.2⟩
theorem tfr_in {G : GG} {ah ak a0 : Nat} {nk : Int32} {f : Nat → Option Nat} (ka : Nat → Nat → Nat) (gs : Nat → St) (ad : Nat → Nat) (g : St) {n : Nat} (hn : n < 8) : (tfr G ah ak a0 nk f (kw G ka gs) (aw G ad g)).Perm (tfr G ah ak a0 nk f (kr G ka gs n) (aw G (ka n) (gs n) ++ aw G ad g)) := by
  unfold tfr
  refine List.Perm.cons _ (List.Perm.cons _ ?_)
  refine ((kw_perm G ka gs hn).append_left _).trans ?_
  rw [← List.append_assoc]
  exact List.perm_append_comm.append_right _
theorem tfr_in2 {G : GG} {ah ak a0 : Nat} {nk : Int32} {f : Nat → Option Nat} (ka : Nat → Nat → Nat) (gs : Nat → St) (ad : Nat → Nat) (g : St) {n : Nat} (hn : n < 8) : (tfr G ah ak a0 nk f (kw G ka gs) (aw G ad g)).Perm (tfr G ah ak a0 nk f (kr G ka gs n) (aw G ad g ++ aw G (ka n) (gs n))) := by
  unfold tfr
  refine List.Perm.cons _ (List.Perm.cons _ ?_)
  refine ((kw_perm G ka gs hn).append_left _).trans ?_
  rw [← List.append_assoc]
theorem va_up_s {α : Type} (f : Nat → α) (n : Nat) (x : α) : va_up f n x n = x := if_pos rfl
def keepf (g kf : St) (n k : Nat) : St := fun i => if 150 * n ≤ i ∧ i < 150 * n + k then g (i - 150 * n) else kf i
def backf (g kf : St) (n k : Nat) : St := fun i => if i < k then kf (150 * n + i) else g i
theorem keepf_s (g kf : St) (n k : Nat) : upd (keepf g kf n k) (150 * n + k) (g k) = keepf g kf n (1 + k) := by
  funext i; simp only [upd, keepf]
  by_cases h : i = 150 * n + k
  · rw [if_pos h, if_pos (by omega), h, Nat.add_sub_cancel_left]
  · rw [if_neg h]
    by_cases h2 : 150 * n ≤ i ∧ i < 150 * n + k
    · rw [if_pos h2, if_pos (by omega)]
    · rw [if_neg h2, if_neg (by omega)]
theorem backf_s (g kf : St) (n k : Nat) : upd (backf g kf n k) k (kf (150 * n + k)) = backf g kf n (1 + k) := by
  funext i; simp only [upd, backf]
  by_cases h : i = k
  · rw [if_pos h, if_pos (by omega), h]
  · rw [if_neg h]
    by_cases h2 : i < k
    · rw [if_pos h2, if_pos (by omega)]
    · rw [if_neg h2, if_neg (by omega)]
theorem keepf_0 (g kf : St) (n : Nat) : keepf g kf n 0 = kf := by funext i; unfold keepf; rw [if_neg (by omega)]
theorem backf_0 (g kf : St) (n : Nat) : backf g kf n 0 = g := by funext i; unfold backf; rw [if_neg (by omega)]
abbrev rm_X6_keep : Room := { frames := 4, cells := 0, slots := 0, locals := 85 }
set_option maxHeartbeats 4000000 in
set_option maxRecDepth 100000 in
theorem c_X6_keep (l : Launch) (G : GG) (ah ak : Nat) (ad : Nat → Nat) (g : St) {n : Nat} (hn : n ≤ 8) (ka : Nat → Nat → Nat) (gs : Nat → St) (hz : ∀ i, i = 79 ∨ i = 80 ∨ i = 81 ∨ i = 149 → g i = 0 ∨ g i = 1) : Ct l G yX6_keep cX6_keep 1 (some .int) rm_X6_keep [.ref ah] (tfr G ah ak (ad 12) (nI n) (fun i => some (ka i 12)) (kw G ka gs) (aw G ad g)) (fun rv W1 => (n = 8 ∧ rv = some (.int (-3)) ∧ W1 = tfr G ah ak (ad 12) (nI n) (fun i => some (ka i 12)) (kw G ka gs) (aw G ad g)) ∨ (n < 8 ∧ rv = some (.int (nI (1 + n))) ∧ W1 = tfr G ah ak (ad 12) (nI (1 + n)) (fun i => some (ka i 12)) (kw G ka (va_up gs n g)) (aw G ad g))) := by
  refine Ct.mk2 (by decide) (Nat.le_of_ble_eq_true rfl) ?_
  intro p e s m args below meth c A H locs ls Q cx wo hl hQ
  obtain ⟨hx, hb, hml, hr, hlo, hown, hts, hnm, kn, hA⟩ := id cx
  have hl : lv_has ls 1 [(0, .ref ah)] := hl
  refine lv_aload_n hx hb dX6_keep_0 rfl (lv_at hl 0 rfl) ?_
  refine gf_hot_states cx wo m_284 dX6_keep_1 ?_
  refine lv_if_lt (tgt := 19) hx hb dX6_keep_4 (by decide) (fun h => absurd h (nI_pos (by omega))) (fun _ => ?_)
  refine lv_aload_n hx hb dX6_keep_7 rfl (lv_at hl 0 rfl) ?_
  refine gf_hot_states cx wo m_284 dX6_keep_8 ?_
  refine lv_aload_n hx hb dX6_keep_11 rfl (lv_at hl 0 rfl) ?_
  refine gf_hot_kept cx wo m_283 dX6_keep_12 ?_
  refine alen (v := 8) (fun X => X) Fr_id cx wo (j := 1) rfl (t0 := 3) rfl rfl dX6_keep_15 ?_
  refine lv_icmp_lt (tgt := 22) hx hb dX6_keep_16 (by decide) (fun c_1 => ?_) (fun c_1 => ?_)
  · skip
    have c_1n := Iff.mp (nI_ltI (a := n) (b := 8) (by omega) (by decide)) c_1
    refine lv_aload_n hx hb dX6_keep_22 rfl (lv_at hl 0 rfl) ?_
    refine gf_hot_kept cx wo m_283 dX6_keep_23 ?_
    refine lv_aload_n hx hb dX6_keep_26 rfl (lv_at hl 0 rfl) ?_
    refine gf_hot_states cx wo m_284 dX6_keep_27 ?_
    refine ald_r (n := n) (fun X => X) Fr_id cx wo (j := 1) rfl (t0 := 3) rfl rfl (by omega) (by decide) dX6_keep_30 ?_
    refine topv (y := .ref (ka n 12)) rfl ?_
    refine lv_aload_n hx hb dX6_keep_31 rfl (lv_at hl 0 rfl) ?_
    refine gf_hot_now cx wo m_282 dX6_keep_32 ?_
    have wo := Wo_perm (tfr_in ka gs ad g (n := n) (by omega)) wo
    refine call_V (As := [.ref (ad 12)]) (rest := []) (tfr G ah ak (ad 12) (nI n) (fun i => some (ka i 12)) (kr G ka gs n)) Fr_t cx (c_X0_copyAll l G (ka n) ad (gs n) g hz) fx_X0_copyFrom m_589 m_590 m_591 ⟨by decide, by decide⟩ wo (at_app (at_aisle G _ _)) rfl rfl rfl hl.1 rfl (Nat.le_of_ble_eq_true rfl) dX6_keep_35 ⟨by decide, by decide⟩ (fun v W1 H locs hp wo => ?_)
    obtain ⟨rfl, rfl⟩ := hp
    refine nrm_v ?_
    rw [← kr_upd G ka gs g (n := n) (by omega), show aw G (ka n) g = aw G (ka n) (va_up gs n g n) from by rw [va_up_s]] at wo
    have wo := Wo_perm (tfr_in ka (va_up gs n g) ad g (n := n) (by omega)).symm wo
    refine lv_aload_n hx hb dX6_keep_38 rfl (lv_at hl 0 rfl) ?_
    refine lv_dup hx hb dX6_keep_39 rfl ?_
    refine gf_hot_states cx wo m_284 dX6_keep_40 ?_
    refine lv_iconst (v := 1) hx hb dX6_keep_43 (by decide) ?_
    refine lv_iadd hx hb dX6_keep_44 ?_
    refine tope (y := (nI (1 + n))) (ai (a := n) (b := 1) rfl rfl (by omega)) ?_
    refine pf_hot_states cx wo m_284 dX6_keep_45 (fun H locs wo => ?_)
    refine lv_aload_n hx hb dX6_keep_48 rfl (lv_at hl 0 rfl) ?_
    refine gf_hot_states cx wo m_284 dX6_keep_49 ?_
    exact r2_i cx hQ wo dX6_keep_52 (Or.inr ⟨by omega, rfl, rfl⟩)
  · skip
    have c_1n := mt (nI_ltI (a := n) (b := 8) (by omega) (by decide)).mpr c_1
    refine lv_bipush (v := (-3)) hx hb dX6_keep_19 (by decide) ?_
    exact r2_i cx hQ wo dX6_keep_21 (Or.inl ⟨by omega, rfl, rfl⟩)
abbrev rm_X6_back : Room := { frames := 4, cells := 0, slots := 0, locals := 85 }
set_option maxHeartbeats 4000000 in
set_option maxRecDepth 100000 in
theorem c_X6_back (l : Launch) (G : GG) (ah ak : Nat) (ad : Nat → Nat) (g : St) {n : Nat} (hn : n ≤ 8) (ka : Nat → Nat → Nat) (gs : Nat → St) (hz : ∀ k, k < 8 → ∀ i, i = 79 ∨ i = 80 ∨ i = 81 ∨ i = 149 → gs k i = 0 ∨ gs k i = 1) : Ct l G yX6_back cX6_back 1 (some .int) rm_X6_back [.ref ah] (tfr G ah ak (ad 12) (nI n) (fun i => some (ka i 12)) (kw G ka gs) (aw G ad g)) (fun rv W1 => (n = 0 ∧ rv = some (.int (-2)) ∧ W1 = tfr G ah ak (ad 12) (nI n) (fun i => some (ka i 12)) (kw G ka gs) (aw G ad g)) ∨ (1 ≤ n ∧ rv = some (.int (gs (n - 1) 140)) ∧ W1 = tfr G ah ak (ad 12) (nI (n - 1)) (fun i => some (ka i 12)) (kw G ka gs) (aw G ad (gs (n - 1))))) := by
  refine Ct.mk2 (by decide) (Nat.le_of_ble_eq_true rfl) ?_
  intro p e s m args below meth c A H locs ls Q cx wo hl hQ
  obtain ⟨hx, hb, hml, hr, hlo, hown, hts, hnm, kn, hA⟩ := id cx
  have hl : lv_has ls 1 [(0, .ref ah)] := hl
  refine lv_aload_n hx hb dX6_back_0 rfl (lv_at hl 0 rfl) ?_
  refine gf_hot_states cx wo m_284 dX6_back_1 ?_
  refine lv_iconst (v := 1) hx hb dX6_back_4 (by decide) ?_
  refine lv_icmp_lt (tgt := 20) hx hb dX6_back_5 (by decide) (fun c_1 => ?_) (fun c_1 => ?_)
  · skip
    have c_1n := Iff.mp (nI_ltI (a := n) (b := 1) (by omega) (by decide)) c_1
    refine lv_bipush (v := (-2)) hx hb dX6_back_20 (by decide) ?_
    exact r2_i cx hQ wo dX6_back_22 (Or.inl ⟨by omega, rfl, rfl⟩)
  · skip
    have c_1n := mt (nI_ltI (a := n) (b := 1) (by omega) (by decide)).mpr c_1
    refine lv_aload_n hx hb dX6_back_8 rfl (lv_at hl 0 rfl) ?_
    refine gf_hot_states cx wo m_284 dX6_back_9 ?_
    refine lv_aload_n hx hb dX6_back_12 rfl (lv_at hl 0 rfl) ?_
    refine gf_hot_kept cx wo m_283 dX6_back_13 ?_
    refine alen (v := 8) (fun X => X) Fr_id cx wo (j := 1) rfl (t0 := 3) rfl rfl dX6_back_16 ?_
    refine lv_icmp_le (tgt := 23) hx hb dX6_back_17 (by decide) (fun c_2 => ?_) (fun c_2 => ?_)
    · skip
      have c_2n := Iff.mp (nI_leI (a := n) (b := 8) (by omega) (by decide)) c_2
      refine lv_aload_n hx hb dX6_back_23 rfl (lv_at hl 0 rfl) ?_
      refine lv_dup hx hb dX6_back_24 rfl ?_
      refine gf_hot_states cx wo m_284 dX6_back_25 ?_
      refine lv_iconst (v := 1) hx hb dX6_back_28 (by decide) ?_
      refine lv_isub hx hb dX6_back_29 ?_
      refine tope (y := (nI ((n - 1)))) (si (a := n) (b := 1) rfl rfl (by omega) (by omega)) ?_
      refine pf_hot_states cx wo m_284 dX6_back_30 (fun H locs wo => ?_)
      refine lv_aload_n hx hb dX6_back_33 rfl (lv_at hl 0 rfl) ?_
      refine gf_hot_now cx wo m_282 dX6_back_34 ?_
      refine lv_aload_n hx hb dX6_back_37 rfl (lv_at hl 0 rfl) ?_
      refine gf_hot_kept cx wo m_283 dX6_back_38 ?_
      refine lv_aload_n hx hb dX6_back_41 rfl (lv_at hl 0 rfl) ?_
      refine gf_hot_states cx wo m_284 dX6_back_42 ?_
      refine ald_r (n := (n - 1)) (fun X => X) Fr_id cx wo (j := 1) rfl (t0 := 3) rfl rfl (by omega) (by decide) dX6_back_45 ?_
      refine topv (y := .ref (ka ((n - 1)) 12)) rfl ?_
      have wo := Wo_perm (tfr_in2 ka gs ad g (n := n - 1) (by omega)) wo
      refine call_V (As := [.ref (ka (n - 1) 12)]) (rest := []) (tfr G ah ak (ad 12) (nI ((n - 1))) (fun i => some (ka i 12)) (kr G ka gs (n - 1))) Fr_t cx (c_X0_copyAll l G ad (ka (n - 1)) g (gs (n - 1)) (hz _ (by omega))) fx_X0_copyFrom m_589 m_590 m_591 ⟨by decide, by decide⟩ wo (at_app (at_aisle G _ _)) rfl rfl rfl hl.1 rfl (Nat.le_of_ble_eq_true rfl) dX6_back_46 ⟨by decide, by decide⟩ (fun v W1 H locs hp wo => ?_)
      obtain ⟨rfl, rfl⟩ := hp
      refine nrm_v ?_
      have wo := Wo_perm (tfr_in2 ka gs ad (gs (n - 1)) (n := n - 1) (by omega)).symm wo
      refine lv_aload_n hx hb dX6_back_49 rfl (lv_at hl 0 rfl) ?_
      refine gf_hot_now cx wo m_282 dX6_back_50 ?_
      refine gf_aisle_books (tfr G ah ak (ad 12) (nI ((n - 1))) (fun i => some (ka i 12)) (kw G ka gs)) Fr_t cx wo  m_256 dX6_back_53 ?_
      refine gf_books_minutesPassed (tfr G ah ak (ad 12) (nI ((n - 1))) (fun i => some (ka i 12)) (kw G ka gs)) Fr_t cx wo  m_150 dX6_back_56 ?_
      exact r2_i cx hQ wo dX6_back_59 (Or.inr ⟨by omega, rfl, rfl⟩)
    · skip
      have c_2n := mt (nI_leI (a := n) (b := 8) (by omega) (by decide)).mpr c_2
      refine lv_bipush (v := (-2)) hx hb dX6_back_20 (by decide) ?_
      exact r2_i cx hQ wo dX6_back_22 (Or.inl ⟨by omega, rfl, rfl⟩)
abbrev rm_X7_keep : Room := { frames := 0, cells := 0, slots := 0, locals := 0 }
set_option maxHeartbeats 4000000 in
set_option maxRecDepth 100000 in
theorem c_X7_keep (l : Launch) (G : GG) (am : Nat → Nat) (g kf : St) {n : Nat} (hn : n ≤ 8) : Ct l G yX7_keep cX7_keep 2 (some .int) rm_X7_keep [.ref (am 0)] (mw G am g kf (nI n)) (fun rv W1 => (n = 8 ∧ rv = some (.int (-3)) ∧ W1 = mw G am g kf (nI n)) ∨ (n < 8 ∧ rv = some (.int (nI (1 + n))) ∧ W1 = mw G am g (keepf g kf n 150) (nI (1 + n)))) := by
  refine Ct.mk2 (by decide) (Nat.le_of_ble_eq_true rfl) ?_
  intro p e s m args below meth c A H locs ls Q cx wo hl hQ
  obtain ⟨hx, hb, hml, hr, hlo, hown, hts, hnm, kn, hA⟩ := id cx
  have hl : lv_has ls 2 [(0, .ref (am 0))] := hl
  have hloop : ∀ (j k : Nat) (H : Heap) (locs : List Loc) (ls : Array Slot), n < 8 → k + j = 150 → Wo G A s.heap H locs (mw G am g (keepf g kf n k) (nI n)) → lv_has ls 2 [(1, .int (nI k)), (0, .ref (am 0))] → W p l e rm_X7_keep s m args below meth c H locs 0 0 Q (F0 m 14 ls []) := by
    intro j
    induction j with
    | zero =>
      intro k H locs ls h1 hk wo hl
      refine lv_iload_n hx hb dX7_keep_14 rfl (lv_at hl 0 rfl) ?_
      refine lv_sipush (v := 150) hx hb dX7_keep_15 (by decide) ?_
      refine lv_icmp_ge (tgt := 48) hx hb dX7_keep_18 (by decide) (fun _ => ?_) (fun h => absurd (nI_le (a := 150) (b := k) (by omega) (by omega)) h)
      obtain rfl : k = 150 := by omega
      refine lv_aload_n hx hb dX7_keep_48 rfl (lv_at hl 1 rfl) ?_
      refine lv_dup hx hb dX7_keep_49 rfl ?_
      refine mg_many cx wo m_633 dX7_keep_50 ?_
      refine lv_iconst (v := 1) hx hb dX7_keep_53 (by decide) ?_
      refine lv_iadd hx hb dX7_keep_54 ?_
      refine tope (y := (nI (1 + n))) (ai (a := n) (b := 1) rfl rfl (by omega)) ?_
      refine mp_many cx wo m_633 dX7_keep_55 (fun H locs wo => ?_)
      refine lv_aload_n hx hb dX7_keep_58 rfl (lv_at hl 1 rfl) ?_
      refine mg_many cx wo m_633 dX7_keep_59 ?_
      exact r2_i cx hQ wo dX7_keep_62 (Or.inr ⟨by omega, rfl, rfl⟩)
    | succ j ih =>
      intro k H locs ls h1 hk wo hl
      refine lv_iload_n hx hb dX7_keep_14 rfl (lv_at hl 0 rfl) ?_
      refine lv_sipush (v := 150) hx hb dX7_keep_15 (by decide) ?_
      refine lv_icmp_ge (tgt := 48) hx hb dX7_keep_18 (by decide) (fun h => absurd h (nI_ge (a := k) (b := 150) (by omega) (by omega))) (fun _ => ?_)
      refine lv_aload_n hx hb dX7_keep_21 rfl (lv_at hl 1 rfl) ?_
      refine mg_kept cx wo m_632 dX7_keep_22 ?_
      refine lv_sipush (v := 150) hx hb dX7_keep_25 (by decide) ?_
      refine lv_aload_n hx hb dX7_keep_28 rfl (lv_at hl 1 rfl) ?_
      refine mg_many cx wo m_633 dX7_keep_29 ?_
      refine lv_imul hx hb dX7_keep_32 ?_
      refine tope (y := (nI (150 * n))) (mi (a := 150) (b := n) rfl rfl (by omega)) ?_
      refine lv_iload_n hx hb dX7_keep_33 rfl (lv_at hl 0 rfl) ?_
      refine lv_iadd hx hb dX7_keep_34 ?_
      refine tope (y := (nI (150 * n + k))) (ai (a := 150 * n) (b := k) rfl rfl (by omega)) ?_
      refine lv_aload_n hx hb dX7_keep_35 rfl (lv_at hl 1 rfl) ?_
      refine mg_st cx wo m_631 dX7_keep_36 ?_
      refine lv_iload_n hx hb dX7_keep_39 rfl (lv_at hl 0 rfl) ?_
      refine ml_st (n := k) cx wo rfl (by omega) dX7_keep_40 ?_
      refine ms_kept (n := 150 * n + k) cx wo rfl (by omega) dX7_keep_41 (fun H locs wo => ?_)
      refine lv_iinc (v := (nI (1 + k))) (lv' := [(1, .int (nI (1 + k))), (0, .ref (am 0))]) hx hb dX7_keep_42 hl (k := 0) rfl (ai (a := k) (b := 1) rfl rfl (by omega)) (by decide) rfl (fun ls hl => ?_)
      refine lv_goto (tgt := 14) hx hb dX7_keep_45 (by decide) ?_
      rw [keepf_s] at wo
      exact ih (1 + k) _ _ _ h1 (by omega) wo (lv_sub hl [0, 1] rfl)
  refine lv_aload_n hx hb dX7_keep_0 rfl (lv_at hl 0 rfl) ?_
  refine mg_many cx wo m_633 dX7_keep_1 ?_
  refine lv_bipush (v := 8) hx hb dX7_keep_4 (by decide) ?_
  refine lv_icmp_ne (tgt := 12) hx hb dX7_keep_6 (by decide) (fun c_1 => ?_) (fun c_1 => ?_)
  · skip
    have c_1n := ne_nI (k := 8) c_1
    refine lv_iconst (v := 0) hx hb dX7_keep_12 (by decide) ?_
    refine lv_istore_n (lv' := [(1, .int 0), (0, .ref (am 0))]) hx hb dX7_keep_13 rfl hl (by decide) rfl (fun ls hl => ?_)
    rw [← keepf_0 g kf n] at wo
    exact hloop 150 0 _ _ _ (by omega) (by omega) wo (lv_sub hl [0, 1] rfl)
  · skip
    have c_1n := (nI_eq (a := n) (b := 8) (by omega) (by decide)).mp c_1
    refine lv_bipush (v := (-3)) hx hb dX7_keep_9 (by decide) ?_
    exact r2_i cx hQ wo dX7_keep_11 (Or.inl ⟨by omega, rfl, rfl⟩)
abbrev rm_X7_back : Room := { frames := 0, cells := 0, slots := 0, locals := 0 }
set_option maxHeartbeats 4000000 in
set_option maxRecDepth 100000 in
theorem c_X7_back (l : Launch) (G : GG) (am : Nat → Nat) (g kf : St) {n : Nat} (hn : n ≤ 8) : Ct l G yX7_back cX7_back 2 (some .int) rm_X7_back [.ref (am 0)] (mw G am g kf (nI n)) (fun rv W1 => (n = 0 ∧ rv = some (.int (-2)) ∧ W1 = mw G am g kf (nI n)) ∨ (1 ≤ n ∧ rv = some (.int (backf g kf (n - 1) 150 140)) ∧ W1 = mw G am (backf g kf (n - 1) 150) kf (nI (n - 1)))) := by
  refine Ct.mk2 (by decide) (Nat.le_of_ble_eq_true rfl) ?_
  intro p e s m args below meth c A H locs ls Q cx wo hl hQ
  obtain ⟨hx, hb, hml, hr, hlo, hown, hts, hnm, kn, hA⟩ := id cx
  have hl : lv_has ls 2 [(0, .ref (am 0))] := hl
  have hloop : ∀ (j k : Nat) (H : Heap) (locs : List Loc) (ls : Array Slot), 1 ≤ n → k + j = 150 → Wo G A s.heap H locs (mw G am (backf g kf (n - 1) k) kf (nI (n - 1))) → lv_has ls 2 [(1, .int (nI k)), (0, .ref (am 0))] → W p l e rm_X7_back s m args below meth c H locs 0 0 Q (F0 m 22 ls []) := by
    intro j
    induction j with
    | zero =>
      intro k H locs ls h1 hk wo hl
      refine lv_iload_n hx hb dX7_back_22 rfl (lv_at hl 0 rfl) ?_
      refine lv_sipush (v := 150) hx hb dX7_back_23 (by decide) ?_
      refine lv_icmp_ge (tgt := 56) hx hb dX7_back_26 (by decide) (fun _ => ?_) (fun h => absurd (nI_le (a := 150) (b := k) (by omega) (by omega)) h)
      obtain rfl : k = 150 := by omega
      refine lv_aload_n hx hb dX7_back_56 rfl (lv_at hl 1 rfl) ?_
      refine mg_st cx wo m_631 dX7_back_57 ?_
      refine lv_sipush (v := 140) hx hb dX7_back_60 (by decide) ?_
      refine ml_st (n := 140) cx wo rfl (by omega) dX7_back_63 ?_
      exact r2_i cx hQ wo dX7_back_64 (Or.inr ⟨by omega, rfl, rfl⟩)
    | succ j ih =>
      intro k H locs ls h1 hk wo hl
      refine lv_iload_n hx hb dX7_back_22 rfl (lv_at hl 0 rfl) ?_
      refine lv_sipush (v := 150) hx hb dX7_back_23 (by decide) ?_
      refine lv_icmp_ge (tgt := 56) hx hb dX7_back_26 (by decide) (fun h => absurd h (nI_ge (a := k) (b := 150) (by omega) (by omega))) (fun _ => ?_)
      refine lv_aload_n hx hb dX7_back_29 rfl (lv_at hl 1 rfl) ?_
      refine mg_st cx wo m_631 dX7_back_30 ?_
      refine lv_iload_n hx hb dX7_back_33 rfl (lv_at hl 0 rfl) ?_
      refine lv_aload_n hx hb dX7_back_34 rfl (lv_at hl 1 rfl) ?_
      refine mg_kept cx wo m_632 dX7_back_35 ?_
      refine lv_sipush (v := 150) hx hb dX7_back_38 (by decide) ?_
      refine lv_aload_n hx hb dX7_back_41 rfl (lv_at hl 1 rfl) ?_
      refine mg_many cx wo m_633 dX7_back_42 ?_
      refine lv_imul hx hb dX7_back_45 ?_
      refine tope (y := (nI (150 * (n - 1)))) (mi (a := 150) (b := (n - 1)) rfl rfl (by omega)) ?_
      refine lv_iload_n hx hb dX7_back_46 rfl (lv_at hl 0 rfl) ?_
      refine lv_iadd hx hb dX7_back_47 ?_
      refine tope (y := (nI (150 * (n - 1) + k))) (ai (a := 150 * (n - 1)) (b := k) rfl rfl (by omega)) ?_
      refine ml_kept (n := 150 * (n - 1) + k) cx wo rfl (by omega) dX7_back_48 ?_
      refine ms_st (n := k) cx wo rfl (by omega) dX7_back_49 (fun H locs gz hgz wo => ?_)
      subst hgz
      refine lv_iinc (v := (nI (1 + k))) (lv' := [(1, .int (nI (1 + k))), (0, .ref (am 0))]) hx hb dX7_back_50 hl (k := 0) rfl (ai (a := k) (b := 1) rfl rfl (by omega)) (by decide) rfl (fun ls hl => ?_)
      refine lv_goto (tgt := 22) hx hb dX7_back_53 (by decide) ?_
      rw [backf_s] at wo
      exact ih (1 + k) _ _ _ h1 (by omega) wo (lv_sub hl [0, 1] rfl)
  refine lv_aload_n hx hb dX7_back_0 rfl (lv_at hl 0 rfl) ?_
  refine mg_many cx wo m_633 dX7_back_1 ?_
  refine lv_if_ne (tgt := 10) hx hb dX7_back_4 (by decide) (fun c_1 => ?_) (fun c_1 => ?_)
  · skip
    have c_1n := ne_nI (k := 0) c_1
    refine lv_aload_n hx hb dX7_back_10 rfl (lv_at hl 0 rfl) ?_
    refine lv_dup hx hb dX7_back_11 rfl ?_
    refine mg_many cx wo m_633 dX7_back_12 ?_
    refine lv_iconst (v := 1) hx hb dX7_back_15 (by decide) ?_
    refine lv_isub hx hb dX7_back_16 ?_
    refine tope (y := (nI ((n - 1)))) (si (a := n) (b := 1) rfl rfl (by omega) (by omega)) ?_
    refine mp_many cx wo m_633 dX7_back_17 (fun H locs wo => ?_)
    refine lv_iconst (v := 0) hx hb dX7_back_20 (by decide) ?_
    refine lv_istore_n (lv' := [(1, .int 0), (0, .ref (am 0))]) hx hb dX7_back_21 rfl hl (by decide) rfl (fun ls hl => ?_)
    rw [← backf_0 g kf (n - 1)] at wo
    exact hloop 150 0 _ _ _ (by omega) (by omega) wo (lv_sub hl [0, 1] rfl)
  · skip
    have c_1n := (nI_eq (a := n) (b := 0) (by omega) (by decide)).mp c_1
    refine lv_bipush (v := (-2)) hx hb dX7_back_7 (by decide) ?_
    exact r2_i cx hQ wo dX7_back_9 (Or.inl ⟨by omega, rfl, rfl⟩)
