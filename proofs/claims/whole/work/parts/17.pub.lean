/-! the class's own object, the row of kept aisles, the aisle, the kept ones (K) -/
def tfr (G : GG) (ah ak a0 : Nat) (n : Int32) (f : Nat → Option Nat) (K : va_W) (X : va_W) : va_W := (ah, .inr (6, [.ref a0, .ref ak, .int n])) :: (ak, .inl (G.2 3, 8, .inr (.inr (.inr (.inr f))))) :: (X ++ K)
theorem Fr_t {G : GG} {ah ak a0 : Nat} {n : Int32} {f : Nat → Option Nat} {K : va_W} : Fr (tfr G ah ak a0 n f K) := ⟨[_, _], K, fun X => rfl⟩
theorem Fr_l (B : va_W) : Fr (fun X => X ++ B) := ⟨[], B, fun X => rfl⟩
theorem Fr_r (B : va_W) : Fr (fun X => B ++ X) := ⟨B, [], fun X => by simp⟩
theorem at_app {X Y : va_W} {j : Nat} {x : Nat × va_E} (h : X[j]? = some x) : (X ++ Y)[j]? = some x := by rw [List.getElem?_append_left (List.getElem?_eq_some_iff.mp h).1, h]
theorem in_hot : ∀ w ∈ u_ws "HotAisle" TX6 3, w ∈ bw := List.forall_mem_cons.mpr ⟨m_285, List.forall_mem_cons.mpr ⟨m_287, List.forall_mem_cons.mpr ⟨m_289, fun _ h => absurd h List.not_mem_nil⟩⟩⟩
section HOT
variable {G : GG} {p : Program} {l : Launch} {e : Env} {R : Room} {s : State} {m : MethodId} {args : Array Value} {below : List Frame} {meth : Method} {c : Code} {H : Heap} {locs : List Loc} {cells slots : Nat} {own : String} {cc : ByteArray} {nL : Nat} {rt : Option FieldType} {nm : String} {A : Nat → Prop} {pc : Nat} {ls : Array Slot} {rest : List Value} {Q : State → Prop} {ah ak a0 : Nat} {f : Nat → Option Nat} {K X : va_W} {nk : Int32} {index : Nat} {x : Int32}
theorem gf_hot_now (cx : Cx G p R s m args meth c own cc nL rt nm A) (wo : Wo G A s.heap H locs (tfr G ah ak a0 nk f K X)) (hl : Cond.fieldLink own index "HotAisle" "now" "LHotAisle$Aisle;" ∈ bw) (hdg : decode cc pc = .ok (.getfield index, 3)) (kk : W p l e R s m args below meth c H locs cells slots Q (F0 m (pc + 3) ls (.ref a0 :: rest))) : W p l e R s m args below meth c H locs cells slots Q (F0 m pc ls (.ref ah :: rest)) :=
  gf (fun X => X) Fr_id cx wo (j := 0) rfl rfl (k := 0) (by decide) in_hot rfl hl rfl hdg kk
theorem gf_hot_kept (cx : Cx G p R s m args meth c own cc nL rt nm A) (wo : Wo G A s.heap H locs (tfr G ah ak a0 nk f K X)) (hl : Cond.fieldLink own index "HotAisle" "kept" "[LHotAisle$Aisle;" ∈ bw) (hdg : decode cc pc = .ok (.getfield index, 3)) (kk : W p l e R s m args below meth c H locs cells slots Q (F0 m (pc + 3) ls (.ref ak :: rest))) : W p l e R s m args below meth c H locs cells slots Q (F0 m pc ls (.ref ah :: rest)) :=
  gf (fun X => X) Fr_id cx wo (j := 0) rfl rfl (k := 1) (by decide) in_hot rfl hl rfl hdg kk
theorem gf_hot_states (cx : Cx G p R s m args meth c own cc nL rt nm A) (wo : Wo G A s.heap H locs (tfr G ah ak a0 nk f K X)) (hl : Cond.fieldLink own index "HotAisle" "states" "I" ∈ bw) (hdg : decode cc pc = .ok (.getfield index, 3)) (kk : W p l e R s m args below meth c H locs cells slots Q (F0 m (pc + 3) ls (.int nk :: rest))) : W p l e R s m args below meth c H locs cells slots Q (F0 m pc ls (.ref ah :: rest)) :=
  gf (fun X => X) Fr_id cx wo (j := 0) rfl rfl (k := 2) (by decide) in_hot rfl hl rfl hdg kk
theorem pf_hot_states (cx : Cx G p R s m args meth c own cc nL rt nm A) (wo : Wo G A s.heap H locs (tfr G ah ak a0 nk f K X)) (hl : Cond.fieldLink own index "HotAisle" "states" "I" ∈ bw) (hdg : decode cc pc = .ok (.putfield index, 3)) (kk : ∀ (H1 : Heap) (locs1 : List Loc), Wo G A s.heap H1 locs1 (tfr G ah ak a0 x f K X) → W p l e R s m args below meth c H1 locs1 cells slots Q (F0 m (pc + 3) ls rest)) : W p l e R s m args below meth c H locs cells slots Q (F0 m pc ls (.int x :: .ref ah :: rest)) :=
  va_put cx.1 cx.2.1 cx.2.2.2.2.2.2.1 in_hot tyX6 tyX6_ok nmX6 cx.2.2.2.2.2.1 cx.2.2.2.2.2.2.2.2.1.1 wo.1 wo.2.1 wo.2.2 0 rfl rfl 2 (by decide) (cx.2.2.2.2.2.2.1 _ hl) (fun _ h => h) rfl (ty := .int) (by decide +kernel) rfl rfl (Nat.le_of_ble_eq_true rfl) hdg (fun H1 locs1 hP hD hS => kk H1 locs1 ⟨hP, hD, hS⟩)
end HOT
theorem hz_nar {x : Int32} (h : x = 0 ∨ x = 1) : narrow .boolean (.int x) = .int x := by rcases h with rfl | rfl <;> rfl
theorem hz_fit {x : Int32} (h : x = 0 ∨ x = 1) : fits .boolean (.int x) = true := by rcases h with rfl | rfl <;> rfl

theorem xbB {x : Int32} {lo hi : Nat} (h : m_X6_isBetween (nI lo) x (nI hi) = true) (hk : hi + 1 < 2 ^ 31 := by decide) (hlo : lo ≤ hi := by decide) : x = nI x.toNatClampNeg ∧ lo ≤ x.toNatClampNeg ∧ x.toNatClampNeg ≤ hi := inb (show m_X7_in x (nI lo) (nI hi) = true from h) hk hlo
abbrev rm_X6_fed : Room := { frames := 1, cells := 0, slots := 0, locals := 20 }
def m_X6_fed (g : St) (x : Int32) : Int32 × St :=
  ((m_X6_oneIf (g 149)), (upd g 149 x))
set_option maxHeartbeats 4000000 in
set_option maxRecDepth 100000 in
theorem c_X6_fed (l : Launch) (G : GG) (ah ak : Nat) (ad : Nat → Nat) (g : St) (nk : Int32) (f : Nat → Option Nat) (K : va_W) (x : Int32) (hz : x = 0 ∨ x = 1) : Ct l G yX6_fed cX6_fed 3 (some Jvm.ClassFile.FieldType.int) rm_X6_fed [.ref (ah), .int x] (tfr G ah ak (ad 12) nk f K (aw G ad g)) (fun rv W1 => rv = some (.int (m_X6_fed g x).1) ∧ W1 = tfr G ah ak (ad 12) nk f K (aw G ad (m_X6_fed g x).2)) := by
  refine Ct.mk2 (by decide) (Nat.le_of_ble_eq_true rfl) ?_
  intro p e s m args below meth c A H locs ls Q cx wo hl hQ
  obtain ⟨hx, hb, hml, hr, hlo, hown, hts, hnm, kn, hA⟩ := id cx
  have hl : lv_has ls 3 [(0, .ref (ah)), (1, .int x)] := hl
  generalize hM : m_X6_fed g x = M at hQ
  unfold m_X6_fed at hM
  refine lv_aload_n hx hb dX6_fed_0 rfl (lv_at hl 0 rfl) ?_
  refine gf_hot_now cx wo m_282 dX6_fed_1 ?_
  refine gf_aisle_isFed (tfr G ah ak (ad 12) nk f K) Fr_t cx wo  m_260 dX6_fed_4 ?_
  refine call_S (As := [.int (g 149)]) (rest := []) (fun X => X) Fr_id cx (c_X6_oneIf l G _ (g 149)) fx_X6_oneIf m_296 m_297 ⟨by decide, by decide⟩ wo rfl hl.1 rfl (Nat.le_of_ble_eq_true rfl) dX6_fed_7 ⟨by decide, by decide⟩ (fun v W1 H locs hp wo => ?_)
  obtain ⟨rfl, rfl⟩ := hp
  refine nrm_i ?_
  refine lv_istore_n (lv' := [(2, .int (m_X6_oneIf (g 149))), (0, .ref (ah)), (1, .int x)]) hx hb dX6_fed_10 rfl hl (by decide) rfl (fun ls hl => ?_)
  refine lv_aload_n hx hb dX6_fed_11 rfl (lv_at hl 1 rfl) ?_
  refine gf_hot_now cx wo m_282 dX6_fed_12 ?_
  refine lv_iload_n hx hb dX6_fed_15 rfl (lv_at hl 2 rfl) ?_
  refine pf_aisle_isFed (tfr G ah ak (ad 12) nk f K) Fr_t cx wo  m_260 (hz_nar hz) (hz_fit hz) dX6_fed_16 (fun H locs gz hgz wo => ?_)
  subst hgz
  refine lv_iload_n hx hb dX6_fed_19 rfl (lv_at hl 0 rfl) ?_
  exact r2_i cx hQ wo dX6_fed_20 (by subst hM; exact ⟨rfl, rfl⟩)
abbrev rm_X6_limit : Room := { frames := 1, cells := 0, slots := 0, locals := 22 }
def m_X6_limit (g : St) (x : Int32) : Int32 × St :=
  if (m_X6_isBetween 0 x 30) = true then ((g 148), (upd g 148 x))
  else ((-1), g)
set_option maxHeartbeats 4000000 in
set_option maxRecDepth 100000 in
theorem c_X6_limit (l : Launch) (G : GG) (ah ak : Nat) (ad : Nat → Nat) (g : St) (nk : Int32) (f : Nat → Option Nat) (K : va_W) (x : Int32) : Ct l G yX6_limit cX6_limit 3 (some Jvm.ClassFile.FieldType.int) rm_X6_limit [.ref (ah), .int x] (tfr G ah ak (ad 12) nk f K (aw G ad g)) (fun rv W1 => rv = some (.int (m_X6_limit g x).1) ∧ W1 = tfr G ah ak (ad 12) nk f K (aw G ad (m_X6_limit g x).2)) := by
  refine Ct.mk2 (by decide) (Nat.le_of_ble_eq_true rfl) ?_
  intro p e s m args below meth c A H locs ls Q cx wo hl hQ
  obtain ⟨hx, hb, hml, hr, hlo, hown, hts, hnm, kn, hA⟩ := id cx
  have hl : lv_has ls 3 [(0, .ref (ah)), (1, .int x)] := hl
  generalize hM : m_X6_limit g x = M at hQ
  unfold m_X6_limit at hM
  refine lv_iconst (v := 0) hx hb dX6_limit_0 (by decide) ?_
  refine lv_iload_n hx hb dX6_limit_1 rfl (lv_at hl 1 rfl) ?_
  refine lv_bipush (v := 30) hx hb dX6_limit_2 (by decide) ?_
  refine call_S (As := [.int 0, .int x, .int 30]) (rest := []) (fun X => X) Fr_id cx (c_X6_isBetween l G _ 0 x 30) fx_X6_isBetween m_303 m_304 ⟨by decide, by decide⟩ wo rfl hl.1 rfl (Nat.le_of_ble_eq_true rfl) dX6_limit_4 ⟨by decide, by decide⟩ (fun v W1 H locs hp wo => ?_)
  obtain ⟨rfl, rfl⟩ := hp
  refine nrm_i ?_
  refine if_ne_b (tgt := 12) hx hb dX6_limit_7 (by decide) (fun c_1 => ?_) (fun c_1 => ?_)
  · skip
    rw [if_pos c_1] at hM
    refine lv_aload_n hx hb dX6_limit_12 rfl (lv_at hl 0 rfl) ?_
    refine gf_hot_now cx wo m_282 dX6_limit_13 ?_
    refine gf_aisle_gasLimit (tfr G ah ak (ad 12) nk f K) Fr_t cx wo  m_259 dX6_limit_16 ?_
    refine lv_istore_n (lv' := [(2, .int (g 148)), (0, .ref (ah)), (1, .int x)]) hx hb dX6_limit_19 rfl hl (by decide) rfl (fun ls hl => ?_)
    refine lv_aload_n hx hb dX6_limit_20 rfl (lv_at hl 1 rfl) ?_
    refine gf_hot_now cx wo m_282 dX6_limit_21 ?_
    refine lv_iload_n hx hb dX6_limit_24 rfl (lv_at hl 2 rfl) ?_
    refine pf_aisle_gasLimit (tfr G ah ak (ad 12) nk f K) Fr_t cx wo  m_259 dX6_limit_25 (fun H locs gz hgz wo => ?_)
    subst hgz
    refine lv_iload_n hx hb dX6_limit_28 rfl (lv_at hl 0 rfl) ?_
    exact r2_i cx hQ wo dX6_limit_29 (by subst hM; exact ⟨rfl, rfl⟩)
  · skip
    rw [if_neg c_1] at hM
    refine lv_iconst (v := (-1)) hx hb dX6_limit_10 (by decide) ?_
    exact r2_i cx hQ wo dX6_limit_11 (by subst hM; exact ⟨rfl, rfl⟩)
abbrev rm_X6_blow : Room := { frames := 2, cells := 0, slots := 0, locals := 43 }
def m_X6_blow (g : St) (x : Int32) (y : Int32) : Int32 × St :=
  if (m_X0_vesselNumbered g x).isSome = true then (if y = 0 then ((m_X6_oneIf (g (79 + ((m_X0_vesselNumbered g x).getD 0)))), (upd g (79 + ((m_X0_vesselNumbered g x).getD 0)) y))
    else if (m_X4_all g (1 + ((m_X0_vesselNumbered g x).getD 0))) = 0 then ((-2), g)
    else ((m_X6_oneIf (g (79 + ((m_X0_vesselNumbered g x).getD 0)))), (upd g (79 + ((m_X0_vesselNumbered g x).getD 0)) y)))
  else ((-1), g)
set_option maxHeartbeats 4000000 in
set_option maxRecDepth 100000 in
theorem c_X6_blow (l : Launch) (G : GG) (ah ak : Nat) (ad : Nat → Nat) (g : St) (nk : Int32) (f : Nat → Option Nat) (K : va_W) (x : Int32) (y : Int32) (hz : y = 0 ∨ y = 1) : Ct l G yX6_blow cX6_blow 5 (some Jvm.ClassFile.FieldType.int) rm_X6_blow [.ref (ah), .int x, .int y] (tfr G ah ak (ad 12) nk f K (aw G ad g)) (fun rv W1 => rv = some (.int (m_X6_blow g x y).1) ∧ W1 = tfr G ah ak (ad 12) nk f K (aw G ad (m_X6_blow g x y).2)) := by
  refine Ct.mk2 (by decide) (Nat.le_of_ble_eq_true rfl) ?_
  intro p e s m args below meth c A H locs ls Q cx wo hl hQ
  obtain ⟨hx, hb, hml, hr, hlo, hown, hts, hnm, kn, hA⟩ := id cx
  have hl : lv_has ls 5 [(0, .ref (ah)), (1, .int x), (2, .int y)] := hl
  generalize hM : m_X6_blow g x y = M at hQ
  unfold m_X6_blow at hM
  refine lv_aload_n hx hb dX6_blow_0 rfl (lv_at hl 0 rfl) ?_
  refine gf_hot_now cx wo m_282 dX6_blow_1 ?_
  refine lv_iload_n hx hb dX6_blow_4 rfl (lv_at hl 1 rfl) ?_
  refine call_V (As := [.int x]) (rest := []) (tfr G ah ak (ad 12) nk f K) Fr_t cx (c_X0_vesselNumbered l G ad _ x) fx_X0_vesselNumbered m_310 m_311 m_312 ⟨by decide, by decide⟩ wo (at_aisle G _ _ ) rfl rfl rfl hl.1 rfl (Nat.le_of_ble_eq_true rfl) dX6_blow_5 ⟨by decide, by decide⟩ (fun v W1 H locs hp wo => ?_)
  obtain ⟨rfl, rfl⟩ := hp
  refine nrm_a (fun o_1 => ?_) (fun o_1 => ?_)
  · skip
    rw [if_neg o_1] at hM
    refine lv_astore_nN (lv' := [(3, .null), (0, .ref (ah)), (1, .int x), (2, .int y)]) hx hb dX6_blow_8 rfl hl (by decide) rfl (fun ls hl => ?_)
    refine lv_aload_nN hx hb dX6_blow_9 rfl (lv_at hl 0 rfl) ?_
    refine lv_ifnonnullN hx hb dX6_blow_10 ?_
    refine lv_iconst (v := (-1)) hx hb dX6_blow_13 (by decide) ?_
    exact r2_i cx hQ wo dX6_blow_14 (by subst hM; exact ⟨rfl, rfl⟩)
  · skip
    rw [if_pos o_1] at hM
    have hq_2 : ((m_X0_vesselNumbered g x).getD 0) < 3 := m_X0_vesselNumbered_lt _ _
    refine topv (y := .ref (ad (19 + ((m_X0_vesselNumbered g x).getD 0)))) rfl ?_
    refine lv_astore_n (lv' := [(3, .ref (ad (19 + ((m_X0_vesselNumbered g x).getD 0)))), (0, .ref (ah)), (1, .int x), (2, .int y)]) hx hb dX6_blow_8 rfl hl (by decide) rfl (fun ls hl => ?_)
    refine lv_aload_n hx hb dX6_blow_9 rfl (lv_at hl 0 rfl) ?_
    refine lv_ifnonnull (tgt := 15) hx hb dX6_blow_10 (by decide) ?_
    refine lv_iload_n hx hb dX6_blow_15 rfl (lv_at hl 3 rfl) ?_
    refine lv_if_eq (tgt := 32) hx hb dX6_blow_16 (by decide) (fun c_3 => ?_) (fun c_3 => ?_)
    · skip
      rw [if_pos c_3] at hM
      refine lv_aload_n hx hb dX6_blow_32 rfl (lv_at hl 0 rfl) ?_
      refine gf_vessel_isBlown (v := ((m_X0_vesselNumbered g x).getD 0)) (tfr G ah ak (ad 12) nk f K) Fr_t cx wo (by omega) m_207 dX6_blow_33 ?_
      refine call_S (As := [.int (g (79 + ((m_X0_vesselNumbered g x).getD 0)))]) (rest := []) (fun X => X) Fr_id cx (c_X6_oneIf l G _ (g (79 + ((m_X0_vesselNumbered g x).getD 0)))) fx_X6_oneIf m_296 m_297 ⟨by decide, by decide⟩ wo rfl hl.1 rfl (Nat.le_of_ble_eq_true rfl) dX6_blow_36 ⟨by decide, by decide⟩ (fun v W1 H locs hp wo => ?_)
      obtain ⟨rfl, rfl⟩ := hp
      refine nrm_i ?_
      refine lv_istore (lv' := [(4, .int (m_X6_oneIf (g (79 + ((m_X0_vesselNumbered g x).getD 0))))), (3, .ref (ad (19 + ((m_X0_vesselNumbered g x).getD 0)))), (0, .ref (ah)), (1, .int x), (2, .int y)]) hx hb dX6_blow_39 hl (by decide) rfl (fun ls hl => ?_)
      refine lv_aload_n hx hb dX6_blow_41 rfl (lv_at hl 1 rfl) ?_
      refine lv_iload_n hx hb dX6_blow_42 rfl (lv_at hl 4 rfl) ?_
      refine pf_vessel_isBlown (v := ((m_X0_vesselNumbered g x).getD 0)) (tfr G ah ak (ad 12) nk f K) Fr_t cx wo (by omega) m_207 (hz_nar hz) (hz_fit hz) dX6_blow_43 (fun H locs gz hgz wo => ?_)
      subst hgz
      refine lv_iload hx hb dX6_blow_46 (lv_at hl 0 rfl) ?_
      exact r2_i cx hQ wo dX6_blow_48 (by subst hM; exact ⟨rfl, rfl⟩)
    · skip
      rw [if_neg c_3] at hM
      refine lv_aload_n hx hb dX6_blow_19 rfl (lv_at hl 0 rfl) ?_
      refine gf_vessel_stuff (v := ((m_X0_vesselNumbered g x).getD 0)) (tfr G ah ak (ad 12) nk f K) Fr_t cx wo (by omega) m_197 dX6_blow_20 ?_
      refine topv (y := .ref (ad (1 + ((m_X0_vesselNumbered g x).getD 0)))) (congrArg (fun z => Value.ref (ad z)) (by omega)) ?_
      refine call_V (As := []) (rest := []) (tfr G ah ak (ad 12) nk f K) Fr_t cx (c_X4_all l G ad _ (t := 1 + ((m_X0_vesselNumbered g x).getD 0)) (by omega) (by omega)) fx_X4_all m_315 m_316 m_317 ⟨by decide, by decide⟩ wo (at_stuff G _ _ (t := 1 + ((m_X0_vesselNumbered g x).getD 0)) (by omega) (by omega)) rfl rfl rfl hl.1 rfl (Nat.le_of_ble_eq_true rfl) dX6_blow_23 ⟨by decide, by decide⟩ (fun v W1 H locs hp wo => ?_)
      obtain ⟨rfl, rfl⟩ := hp
      refine nrm_i ?_
      refine lv_if_ne (tgt := 32) hx hb dX6_blow_26 (by decide) (fun c_4 => ?_) (fun c_4 => ?_)
      · skip
        rw [if_neg c_4] at hM
        refine lv_aload_n hx hb dX6_blow_32 rfl (lv_at hl 0 rfl) ?_
        refine gf_vessel_isBlown (v := ((m_X0_vesselNumbered g x).getD 0)) (tfr G ah ak (ad 12) nk f K) Fr_t cx wo (by omega) m_207 dX6_blow_33 ?_
        refine call_S (As := [.int (g (79 + ((m_X0_vesselNumbered g x).getD 0)))]) (rest := []) (fun X => X) Fr_id cx (c_X6_oneIf l G _ (g (79 + ((m_X0_vesselNumbered g x).getD 0)))) fx_X6_oneIf m_296 m_297 ⟨by decide, by decide⟩ wo rfl hl.1 rfl (Nat.le_of_ble_eq_true rfl) dX6_blow_36 ⟨by decide, by decide⟩ (fun v W1 H locs hp wo => ?_)
        obtain ⟨rfl, rfl⟩ := hp
        refine nrm_i ?_
        refine lv_istore (lv' := [(4, .int (m_X6_oneIf (g (79 + ((m_X0_vesselNumbered g x).getD 0))))), (3, .ref (ad (19 + ((m_X0_vesselNumbered g x).getD 0)))), (0, .ref (ah)), (1, .int x), (2, .int y)]) hx hb dX6_blow_39 hl (by decide) rfl (fun ls hl => ?_)
        refine lv_aload_n hx hb dX6_blow_41 rfl (lv_at hl 1 rfl) ?_
        refine lv_iload_n hx hb dX6_blow_42 rfl (lv_at hl 4 rfl) ?_
        refine pf_vessel_isBlown (v := ((m_X0_vesselNumbered g x).getD 0)) (tfr G ah ak (ad 12) nk f K) Fr_t cx wo (by omega) m_207 (hz_nar hz) (hz_fit hz) dX6_blow_43 (fun H locs gz hgz wo => ?_)
        subst hgz
        refine lv_iload hx hb dX6_blow_46 (lv_at hl 0 rfl) ?_
        exact r2_i cx hQ wo dX6_blow_48 (by subst hM; exact ⟨rfl, rfl⟩)
      · skip
        rw [if_pos c_4] at hM
        refine lv_bipush (v := (-2)) hx hb dX6_blow_29 (by decide) ?_
        exact r2_i cx hQ wo dX6_blow_31 (by subst hM; exact ⟨rfl, rfl⟩)
abbrev rm_X6_cold : Room := { frames := 2, cells := 0, slots := 0, locals := 44 }
def m_X6_cold (g : St) (x : Int32) (y : Int32) : Int32 × St :=
  if (m_X0_vesselNumbered g x).isSome = true then (if (m_X6_isBetween 1 y 50) = true then (if (m_X4_all g (1 + ((m_X0_vesselNumbered g x).getD 0))) = 0 then ((-2), g)
      else if ((m_X4_all g (1 + ((m_X0_vesselNumbered g x).getD 0))) + y) ≤ 300 then (((m_X5_mixHeat g (((m_X0_vesselNumbered g x).getD 0)) 0 y) (76 + ((m_X0_vesselNumbered g x).getD 0))), (upd (upd (m_X5_mixHeat g (((m_X0_vesselNumbered g x).getD 0)) 0 y) (4 + 4 * ((m_X0_vesselNumbered g x).getD 0)) (((m_X5_mixHeat g (((m_X0_vesselNumbered g x).getD 0)) 0 y) (4 + 4 * ((m_X0_vesselNumbered g x).getD 0))) + y)) 64 (((m_X5_mixHeat g (((m_X0_vesselNumbered g x).getD 0)) 0 y) 64) + y)))
      else ((-2), g))
    else ((-1), g))
  else ((-1), g)
set_option maxHeartbeats 4000000 in
set_option maxRecDepth 100000 in
theorem c_X6_cold (l : Launch) (G : GG) (ah ak : Nat) (ad : Nat → Nat) (g : St) (nk : Int32) (f : Nat → Option Nat) (K : va_W) (x : Int32) (y : Int32) : Ct l G yX6_cold cX6_cold 5 (some Jvm.ClassFile.FieldType.int) rm_X6_cold [.ref (ah), .int x, .int y] (tfr G ah ak (ad 12) nk f K (aw G ad g)) (fun rv W1 => rv = some (.int (m_X6_cold g x y).1) ∧ W1 = tfr G ah ak (ad 12) nk f K (aw G ad (m_X6_cold g x y).2)) := by
  refine Ct.mk2 (by decide) (Nat.le_of_ble_eq_true rfl) ?_
  intro p e s m args below meth c A H locs ls Q cx wo hl hQ
  obtain ⟨hx, hb, hml, hr, hlo, hown, hts, hnm, kn, hA⟩ := id cx
  have hl : lv_has ls 5 [(0, .ref (ah)), (1, .int x), (2, .int y)] := hl
  generalize hM : m_X6_cold g x y = M at hQ
  unfold m_X6_cold at hM
  refine lv_aload_n hx hb dX6_cold_0 rfl (lv_at hl 0 rfl) ?_
  refine gf_hot_now cx wo m_282 dX6_cold_1 ?_
  refine lv_iload_n hx hb dX6_cold_4 rfl (lv_at hl 1 rfl) ?_
  refine call_V (As := [.int x]) (rest := []) (tfr G ah ak (ad 12) nk f K) Fr_t cx (c_X0_vesselNumbered l G ad _ x) fx_X0_vesselNumbered m_310 m_311 m_312 ⟨by decide, by decide⟩ wo (at_aisle G _ _ ) rfl rfl rfl hl.1 rfl (Nat.le_of_ble_eq_true rfl) dX6_cold_5 ⟨by decide, by decide⟩ (fun v W1 H locs hp wo => ?_)
  obtain ⟨rfl, rfl⟩ := hp
  refine nrm_a (fun o_1 => ?_) (fun o_1 => ?_)
  · skip
    rw [if_neg o_1] at hM
    refine lv_astore_nN (lv' := [(3, .null), (0, .ref (ah)), (1, .int x), (2, .int y)]) hx hb dX6_cold_8 rfl hl (by decide) rfl (fun ls hl => ?_)
    refine lv_aload_nN hx hb dX6_cold_9 rfl (lv_at hl 0 rfl) ?_
    refine lv_ifnullN (tgt := 23) hx hb dX6_cold_10 (by decide) ?_
    refine lv_iconst (v := (-1)) hx hb dX6_cold_23 (by decide) ?_
    exact r2_i cx hQ wo dX6_cold_24 (by subst hM; exact ⟨rfl, rfl⟩)
  · skip
    rw [if_pos o_1] at hM
    have hq_2 : ((m_X0_vesselNumbered g x).getD 0) < 3 := m_X0_vesselNumbered_lt _ _
    refine topv (y := .ref (ad (19 + ((m_X0_vesselNumbered g x).getD 0)))) rfl ?_
    refine lv_astore_n (lv' := [(3, .ref (ad (19 + ((m_X0_vesselNumbered g x).getD 0)))), (0, .ref (ah)), (1, .int x), (2, .int y)]) hx hb dX6_cold_8 rfl hl (by decide) rfl (fun ls hl => ?_)
    refine lv_aload_n hx hb dX6_cold_9 rfl (lv_at hl 0 rfl) ?_
    refine lv_ifnull hx hb dX6_cold_10 ?_
    refine lv_iconst (v := 1) hx hb dX6_cold_13 (by decide) ?_
    refine lv_iload_n hx hb dX6_cold_14 rfl (lv_at hl 3 rfl) ?_
    refine lv_bipush (v := 50) hx hb dX6_cold_15 (by decide) ?_
    refine call_S (As := [.int 1, .int y, .int 50]) (rest := []) (fun X => X) Fr_id cx (c_X6_isBetween l G _ 1 y 50) fx_X6_isBetween m_303 m_304 ⟨by decide, by decide⟩ wo rfl hl.1 rfl (Nat.le_of_ble_eq_true rfl) dX6_cold_17 ⟨by decide, by decide⟩ (fun v W1 H locs hp wo => ?_)
    obtain ⟨rfl, rfl⟩ := hp
    refine nrm_i ?_
    refine if_ne_b (tgt := 25) hx hb dX6_cold_20 (by decide) (fun c_3 => ?_) (fun c_3 => ?_)
    · skip
      rw [if_pos c_3] at hM
      refine lv_aload_n hx hb dX6_cold_25 rfl (lv_at hl 0 rfl) ?_
      refine gf_vessel_stuff (v := ((m_X0_vesselNumbered g x).getD 0)) (tfr G ah ak (ad 12) nk f K) Fr_t cx wo (by omega) m_197 dX6_cold_26 ?_
      refine topv (y := .ref (ad (1 + ((m_X0_vesselNumbered g x).getD 0)))) (congrArg (fun z => Value.ref (ad z)) (by omega)) ?_
      refine call_V (As := []) (rest := []) (tfr G ah ak (ad 12) nk f K) Fr_t cx (c_X4_all l G ad _ (t := 1 + ((m_X0_vesselNumbered g x).getD 0)) (by omega) (by omega)) fx_X4_all m_315 m_316 m_317 ⟨by decide, by decide⟩ wo (at_stuff G _ _ (t := 1 + ((m_X0_vesselNumbered g x).getD 0)) (by omega) (by omega)) rfl rfl rfl hl.1 rfl (Nat.le_of_ble_eq_true rfl) dX6_cold_29 ⟨by decide, by decide⟩ (fun v W1 H locs hp wo => ?_)
      obtain ⟨rfl, rfl⟩ := hp
      refine nrm_i ?_
      refine lv_istore (lv' := [(4, .int (m_X4_all g (1 + ((m_X0_vesselNumbered g x).getD 0)))), (3, .ref (ad (19 + ((m_X0_vesselNumbered g x).getD 0)))), (0, .ref (ah)), (1, .int x), (2, .int y)]) hx hb dX6_cold_32 hl (by decide) rfl (fun ls hl => ?_)
      refine lv_iload hx hb dX6_cold_34 (lv_at hl 0 rfl) ?_
      refine lv_if_eq (tgt := 49) hx hb dX6_cold_36 (by decide) (fun c_4 => ?_) (fun c_4 => ?_)
      · skip
        rw [if_pos c_4] at hM
        refine lv_bipush (v := (-2)) hx hb dX6_cold_49 (by decide) ?_
        exact r2_i cx hQ wo dX6_cold_51 (by subst hM; exact ⟨rfl, rfl⟩)
      · skip
        rw [if_neg c_4] at hM
        refine lv_iload hx hb dX6_cold_39 (lv_at hl 0 rfl) ?_
        refine lv_iload_n hx hb dX6_cold_41 rfl (lv_at hl 4 rfl) ?_
        refine lv_iadd hx hb dX6_cold_42 ?_
        refine lv_sipush (v := 300) hx hb dX6_cold_43 (by decide) ?_
        refine lv_icmp_le (tgt := 52) hx hb dX6_cold_46 (by decide) (fun c_5 => ?_) (fun c_5 => ?_)
        · skip
          rw [if_pos c_5] at hM
          refine lv_aload_n hx hb dX6_cold_52 rfl (lv_at hl 1 rfl) ?_
          refine lv_iconst (v := 0) hx hb dX6_cold_53 (by decide) ?_
          refine lv_iload_n hx hb dX6_cold_54 rfl (lv_at hl 4 rfl) ?_
          refine call_V (As := [.int 0, .int y]) (rest := []) (tfr G ah ak (ad 12) nk f K) Fr_t cx (c_X5_mixHeat l G ad _ (v := ((m_X0_vesselNumbered g x).getD 0)) (by omega) 0 y) fx_X5_mixHeat m_323 m_324 m_325 ⟨by decide, by decide⟩ wo (at_vessel G _ _ (v := ((m_X0_vesselNumbered g x).getD 0)) (by omega)) rfl rfl rfl hl.1 rfl (Nat.le_of_ble_eq_true rfl) dX6_cold_55 ⟨by decide, by decide⟩ (fun v W1 H locs hp wo => ?_)
          obtain ⟨rfl, rfl⟩ := hp
          refine nrm_v ?_
          refine lv_aload_n hx hb dX6_cold_58 rfl (lv_at hl 1 rfl) ?_
          refine gf_vessel_stuff (v := ((m_X0_vesselNumbered g x).getD 0)) (tfr G ah ak (ad 12) nk f K) Fr_t cx wo (by omega) m_197 dX6_cold_59 ?_
          refine topv (y := .ref (ad (1 + ((m_X0_vesselNumbered g x).getD 0)))) (congrArg (fun z => Value.ref (ad z)) (by omega)) ?_
          refine lv_dup hx hb dX6_cold_62 rfl ?_
          refine gfi_stuff_copper (t := 1 + ((m_X0_vesselNumbered g x).getD 0)) (i := 4 + 4 * ((m_X0_vesselNumbered g x).getD 0)) (tfr G ah ak (ad 12) nk f K) Fr_t cx wo (by omega) (by omega) (by omega) m_70 dX6_cold_63 ?_
          refine lv_iload_n hx hb dX6_cold_66 rfl (lv_at hl 4 rfl) ?_
          refine lv_iadd hx hb dX6_cold_67 ?_
          refine pfi_stuff_copper (t := 1 + ((m_X0_vesselNumbered g x).getD 0)) (i := 4 + 4 * ((m_X0_vesselNumbered g x).getD 0)) (tfr G ah ak (ad 12) nk f K) Fr_t cx wo (by omega) (by omega) (by omega) m_70 dX6_cold_68 (fun H locs gz hgz wo => ?_)
          subst hgz
          refine lv_aload_n hx hb dX6_cold_71 rfl (lv_at hl 2 rfl) ?_
          refine gf_hot_now cx wo m_282 dX6_cold_72 ?_
          refine gf_aisle_books (tfr G ah ak (ad 12) nk f K) Fr_t cx wo  m_256 dX6_cold_75 ?_
          refine gf_books_cameIn (tfr G ah ak (ad 12) nk f K) Fr_t cx wo  m_142 dX6_cold_78 ?_
          refine lv_dup hx hb dX6_cold_81 rfl ?_
          refine gfi_stuff_copper (t := 16) (i := 64) (tfr G ah ak (ad 12) nk f K) Fr_t cx wo (by omega) (by omega) (by omega) m_70 dX6_cold_82 ?_
          refine tope (y := ((m_X5_mixHeat g (((m_X0_vesselNumbered g x).getD 0)) 0 y) 64)) (show (upd (m_X5_mixHeat g (((m_X0_vesselNumbered g x).getD 0)) 0 y) (4 + 4 * ((m_X0_vesselNumbered g x).getD 0)) (((m_X5_mixHeat g (((m_X0_vesselNumbered g x).getD 0)) 0 y) (4 + 4 * ((m_X0_vesselNumbered g x).getD 0))) + y)) 64 = ((m_X5_mixHeat g (((m_X0_vesselNumbered g x).getD 0)) 0 y) 64) from (rdN (by omega) rfl)) ?_
          refine lv_iload_n hx hb dX6_cold_85 rfl (lv_at hl 4 rfl) ?_
          refine lv_iadd hx hb dX6_cold_86 ?_
          refine pfi_stuff_copper (t := 16) (i := 64) (tfr G ah ak (ad 12) nk f K) Fr_t cx wo (by omega) (by omega) (by omega) m_70 dX6_cold_87 (fun H locs gz hgz wo => ?_)
          subst hgz
          refine lv_aload_n hx hb dX6_cold_90 rfl (lv_at hl 1 rfl) ?_
          refine gf_vessel_heat (v := ((m_X0_vesselNumbered g x).getD 0)) (tfr G ah ak (ad 12) nk f K) Fr_t cx wo (by omega) m_200 dX6_cold_91 ?_
          refine tope (y := ((m_X5_mixHeat g (((m_X0_vesselNumbered g x).getD 0)) 0 y) (76 + ((m_X0_vesselNumbered g x).getD 0)))) (show (upd (upd (m_X5_mixHeat g (((m_X0_vesselNumbered g x).getD 0)) 0 y) (4 + 4 * ((m_X0_vesselNumbered g x).getD 0)) (((m_X5_mixHeat g (((m_X0_vesselNumbered g x).getD 0)) 0 y) (4 + 4 * ((m_X0_vesselNumbered g x).getD 0))) + y)) 64 (((m_X5_mixHeat g (((m_X0_vesselNumbered g x).getD 0)) 0 y) 64) + y)) (76 + ((m_X0_vesselNumbered g x).getD 0)) = ((m_X5_mixHeat g (((m_X0_vesselNumbered g x).getD 0)) 0 y) (76 + ((m_X0_vesselNumbered g x).getD 0))) from (rdN (by omega) (rdN (by omega) rfl))) ?_
          exact r2_i cx hQ wo dX6_cold_94 (by subst hM; exact ⟨rfl, rfl⟩)
        · skip
          rw [if_neg c_5] at hM
          refine lv_bipush (v := (-2)) hx hb dX6_cold_49 (by decide) ?_
          exact r2_i cx hQ wo dX6_cold_51 (by subst hM; exact ⟨rfl, rfl⟩)
    · skip
      rw [if_neg c_3] at hM
      refine lv_iconst (v := (-1)) hx hb dX6_cold_23 (by decide) ?_
      exact r2_i cx hQ wo dX6_cold_24 (by subst hM; exact ⟨rfl, rfl⟩)
abbrev rm_X6_order : Room := { frames := 1, cells := 0, slots := 0, locals := 22 }
def m_X6_order (g : St) (x : Int32) (y : Int32) (z : Int32) : Int32 × St :=
  if (m_X0_craneNumbered g x).isSome = true then (if (m_X6_isBetween 0 y 7) = true then (if y = 0 then (if (m_X6_isBetween 0 z 15) = true then (if ((m_X2_addOrder g (((m_X0_craneNumbered g x).getD 0)) y z).1) = true then (((m_X2_addOrder g (((m_X0_craneNumbered g x).getD 0)) y z).2 (104 + ((m_X0_craneNumbered g x).getD 0))), (m_X2_addOrder g (((m_X0_craneNumbered g x).getD 0)) y z).2)
          else ((-3), (m_X2_addOrder g (((m_X0_craneNumbered g x).getD 0)) y z).2))
        else ((-1), g))
      else if ((m_X2_addOrder g (((m_X0_craneNumbered g x).getD 0)) y z).1) = true then (((m_X2_addOrder g (((m_X0_craneNumbered g x).getD 0)) y z).2 (104 + ((m_X0_craneNumbered g x).getD 0))), (m_X2_addOrder g (((m_X0_craneNumbered g x).getD 0)) y z).2)
      else ((-3), (m_X2_addOrder g (((m_X0_craneNumbered g x).getD 0)) y z).2))
    else ((-1), g))
  else ((-1), g)
set_option maxHeartbeats 4000000 in
set_option maxRecDepth 100000 in
theorem c_X6_order (l : Launch) (G : GG) (ah ak : Nat) (ad : Nat → Nat) (g : St) (nk : Int32) (f : Nat → Option Nat) (K : va_W) (x : Int32) (y : Int32) (z : Int32) : Ct l G yX6_order cX6_order 5 (some Jvm.ClassFile.FieldType.int) rm_X6_order [.ref (ah), .int x, .int y, .int z] (tfr G ah ak (ad 12) nk f K (aw G ad g)) (fun rv W1 => rv = some (.int (m_X6_order g x y z).1) ∧ W1 = tfr G ah ak (ad 12) nk f K (aw G ad (m_X6_order g x y z).2)) := by
  refine Ct.mk2 (by decide) (Nat.le_of_ble_eq_true rfl) ?_
  intro p e s m args below meth c A H locs ls Q cx wo hl hQ
  obtain ⟨hx, hb, hml, hr, hlo, hown, hts, hnm, kn, hA⟩ := id cx
  have hl : lv_has ls 5 [(0, .ref (ah)), (1, .int x), (2, .int y), (3, .int z)] := hl
  generalize hM : m_X6_order g x y z = M at hQ
  unfold m_X6_order at hM
  refine lv_aload_n hx hb dX6_order_0 rfl (lv_at hl 0 rfl) ?_
  refine gf_hot_now cx wo m_282 dX6_order_1 ?_
  refine lv_iload_n hx hb dX6_order_4 rfl (lv_at hl 1 rfl) ?_
  refine call_V (As := [.int x]) (rest := []) (tfr G ah ak (ad 12) nk f K) Fr_t cx (c_X0_craneNumbered l G ad _ x) fx_X0_craneNumbered m_332 m_333 m_334 ⟨by decide, by decide⟩ wo (at_aisle G _ _ ) rfl rfl rfl hl.1 rfl (Nat.le_of_ble_eq_true rfl) dX6_order_5 ⟨by decide, by decide⟩ (fun v W1 H locs hp wo => ?_)
  obtain ⟨rfl, rfl⟩ := hp
  refine nrm_a (fun o_1 => ?_) (fun o_1 => ?_)
  · skip
    rw [if_neg o_1] at hM
    refine lv_astoreN (lv' := [(4, .null), (0, .ref (ah)), (1, .int x), (2, .int y), (3, .int z)]) hx hb dX6_order_8 hl (by decide) rfl (fun ls hl => ?_)
    refine lv_aloadN hx hb dX6_order_10 (lv_at hl 0 rfl) ?_
    refine lv_ifnullN (tgt := 25) hx hb dX6_order_12 (by decide) ?_
    refine lv_iconst (v := (-1)) hx hb dX6_order_25 (by decide) ?_
    exact r2_i cx hQ wo dX6_order_26 (by subst hM; exact ⟨rfl, rfl⟩)
  · skip
    rw [if_pos o_1] at hM
    have hq_2 : ((m_X0_craneNumbered g x).getD 0) < 2 := m_X0_craneNumbered_lt _ _
    refine topv (y := .ref (ad (26 + ((m_X0_craneNumbered g x).getD 0)))) rfl ?_
    refine lv_astore (lv' := [(4, .ref (ad (26 + ((m_X0_craneNumbered g x).getD 0)))), (0, .ref (ah)), (1, .int x), (2, .int y), (3, .int z)]) hx hb dX6_order_8 hl (by decide) rfl (fun ls hl => ?_)
    refine lv_aload hx hb dX6_order_10 (lv_at hl 0 rfl) ?_
    refine lv_ifnull hx hb dX6_order_12 ?_
    refine lv_iconst (v := 0) hx hb dX6_order_15 (by decide) ?_
    refine lv_iload_n hx hb dX6_order_16 rfl (lv_at hl 3 rfl) ?_
    refine lv_bipush (v := 7) hx hb dX6_order_17 (by decide) ?_
    refine call_S (As := [.int 0, .int y, .int 7]) (rest := []) (fun X => X) Fr_id cx (c_X6_isBetween l G _ 0 y 7) fx_X6_isBetween m_303 m_304 ⟨by decide, by decide⟩ wo rfl hl.1 rfl (Nat.le_of_ble_eq_true rfl) dX6_order_19 ⟨by decide, by decide⟩ (fun v W1 H locs hp wo => ?_)
    obtain ⟨rfl, rfl⟩ := hp
    refine nrm_i ?_
    refine if_ne_b (tgt := 27) hx hb dX6_order_22 (by decide) (fun c_3 => ?_) (fun c_3 => ?_)
    · skip
      rw [if_pos c_3] at hM
      refine lv_iload_n hx hb dX6_order_27 rfl (lv_at hl 3 rfl) ?_
      refine lv_if_ne (tgt := 43) hx hb dX6_order_28 (by decide) (fun c_4 => ?_) (fun c_4 => ?_)
      · skip
        rw [if_neg c_4] at hM
        refine lv_aload hx hb dX6_order_43 (lv_at hl 0 rfl) ?_
        refine lv_iload_n hx hb dX6_order_45 rfl (lv_at hl 3 rfl) ?_
        refine lv_iload_n hx hb dX6_order_46 rfl (lv_at hl 4 rfl) ?_
        refine call_V (As := [.int y, .int z]) (rest := []) (tfr G ah ak (ad 12) nk f K) Fr_t cx (c_X2_addOrder l G ad _ (r := ((m_X0_craneNumbered g x).getD 0)) (by omega) y z) fx_X2_addOrder m_336 m_337 m_338 ⟨by decide, by decide⟩ wo (at_crane G _ _ (r := ((m_X0_craneNumbered g x).getD 0)) (by omega)) rfl rfl rfl hl.1 rfl (Nat.le_of_ble_eq_true rfl) dX6_order_47 ⟨by decide, by decide⟩ (fun v W1 H locs hp wo => ?_)
        obtain ⟨rfl, rfl⟩ := hp
        refine nrm_i ?_
        refine if_eq_b (tgt := 61) hx hb dX6_order_50 (by decide) (fun c_5 => ?_) (fun c_5 => ?_)
        · skip
          rw [if_neg c_5] at hM
          refine lv_bipush (v := (-3)) hx hb dX6_order_61 (by decide) ?_
          exact r2_i cx hQ wo dX6_order_63 (by subst hM; exact ⟨rfl, rfl⟩)
        · skip
          rw [if_pos c_5] at hM
          refine lv_aload hx hb dX6_order_53 (lv_at hl 0 rfl) ?_
          refine gf_crane_orders (r := ((m_X0_craneNumbered g x).getD 0)) (tfr G ah ak (ad 12) nk f K) Fr_t cx wo (by omega) m_109 dX6_order_55 ?_
          refine lv_goto (tgt := 63) hx hb dX6_order_58 (by decide) ?_
          exact r2_i cx hQ wo dX6_order_63 (by subst hM; exact ⟨rfl, rfl⟩)
      · skip
        rw [if_pos c_4] at hM
        refine lv_iconst (v := 0) hx hb dX6_order_31 (by decide) ?_
        refine lv_iload_n hx hb dX6_order_32 rfl (lv_at hl 4 rfl) ?_
        refine lv_bipush (v := 15) hx hb dX6_order_33 (by decide) ?_
        refine call_S (As := [.int 0, .int z, .int 15]) (rest := []) (fun X => X) Fr_id cx (c_X6_isBetween l G _ 0 z 15) fx_X6_isBetween m_303 m_304 ⟨by decide, by decide⟩ wo rfl hl.1 rfl (Nat.le_of_ble_eq_true rfl) dX6_order_35 ⟨by decide, by decide⟩ (fun v W1 H locs hp wo => ?_)
        obtain ⟨rfl, rfl⟩ := hp
        refine nrm_i ?_
        refine if_ne_b (tgt := 43) hx hb dX6_order_38 (by decide) (fun c_6 => ?_) (fun c_6 => ?_)
        · skip
          rw [if_pos c_6] at hM
          refine lv_aload hx hb dX6_order_43 (lv_at hl 0 rfl) ?_
          refine lv_iload_n hx hb dX6_order_45 rfl (lv_at hl 3 rfl) ?_
          refine lv_iload_n hx hb dX6_order_46 rfl (lv_at hl 4 rfl) ?_
          refine call_V (As := [.int y, .int z]) (rest := []) (tfr G ah ak (ad 12) nk f K) Fr_t cx (c_X2_addOrder l G ad _ (r := ((m_X0_craneNumbered g x).getD 0)) (by omega) y z) fx_X2_addOrder m_336 m_337 m_338 ⟨by decide, by decide⟩ wo (at_crane G _ _ (r := ((m_X0_craneNumbered g x).getD 0)) (by omega)) rfl rfl rfl hl.1 rfl (Nat.le_of_ble_eq_true rfl) dX6_order_47 ⟨by decide, by decide⟩ (fun v W1 H locs hp wo => ?_)
          obtain ⟨rfl, rfl⟩ := hp
          refine nrm_i ?_
          refine if_eq_b (tgt := 61) hx hb dX6_order_50 (by decide) (fun c_7 => ?_) (fun c_7 => ?_)
          · skip
            rw [if_neg c_7] at hM
            refine lv_bipush (v := (-3)) hx hb dX6_order_61 (by decide) ?_
            exact r2_i cx hQ wo dX6_order_63 (by subst hM; exact ⟨rfl, rfl⟩)
          · skip
            rw [if_pos c_7] at hM
            refine lv_aload hx hb dX6_order_53 (lv_at hl 0 rfl) ?_
            refine gf_crane_orders (r := ((m_X0_craneNumbered g x).getD 0)) (tfr G ah ak (ad 12) nk f K) Fr_t cx wo (by omega) m_109 dX6_order_55 ?_
            refine lv_goto (tgt := 63) hx hb dX6_order_58 (by decide) ?_
            exact r2_i cx hQ wo dX6_order_63 (by subst hM; exact ⟨rfl, rfl⟩)
        · skip
          rw [if_neg c_6] at hM
          refine lv_iconst (v := (-1)) hx hb dX6_order_41 (by decide) ?_
          exact r2_i cx hQ wo dX6_order_42 (by subst hM; exact ⟨rfl, rfl⟩)
    · skip
      rw [if_neg c_3] at hM
      refine lv_iconst (v := (-1)) hx hb dX6_order_25 (by decide) ?_
      exact r2_i cx hQ wo dX6_order_26 (by subst hM; exact ⟨rfl, rfl⟩)
abbrev rm_X6_drop : Room := { frames := 1, cells := 0, slots := 0, locals := 21 }
def m_X6_drop (g : St) (x : Int32) : Int32 × St :=
  if (m_X0_craneNumbered g x).isSome = true then ((g (104 + ((m_X0_craneNumbered g x).getD 0))), (upd g (104 + ((m_X0_craneNumbered g x).getD 0)) 0))
  else ((-1), g)
set_option maxHeartbeats 4000000 in
set_option maxRecDepth 100000 in
theorem c_X6_drop (l : Launch) (G : GG) (ah ak : Nat) (ad : Nat → Nat) (g : St) (nk : Int32) (f : Nat → Option Nat) (K : va_W) (x : Int32) : Ct l G yX6_drop cX6_drop 4 (some Jvm.ClassFile.FieldType.int) rm_X6_drop [.ref (ah), .int x] (tfr G ah ak (ad 12) nk f K (aw G ad g)) (fun rv W1 => rv = some (.int (m_X6_drop g x).1) ∧ W1 = tfr G ah ak (ad 12) nk f K (aw G ad (m_X6_drop g x).2)) := by
  refine Ct.mk2 (by decide) (Nat.le_of_ble_eq_true rfl) ?_
  intro p e s m args below meth c A H locs ls Q cx wo hl hQ
  obtain ⟨hx, hb, hml, hr, hlo, hown, hts, hnm, kn, hA⟩ := id cx
  have hl : lv_has ls 4 [(0, .ref (ah)), (1, .int x)] := hl
  generalize hM : m_X6_drop g x = M at hQ
  unfold m_X6_drop at hM
  refine lv_aload_n hx hb dX6_drop_0 rfl (lv_at hl 0 rfl) ?_
  refine gf_hot_now cx wo m_282 dX6_drop_1 ?_
  refine lv_iload_n hx hb dX6_drop_4 rfl (lv_at hl 1 rfl) ?_
  refine call_V (As := [.int x]) (rest := []) (tfr G ah ak (ad 12) nk f K) Fr_t cx (c_X0_craneNumbered l G ad _ x) fx_X0_craneNumbered m_332 m_333 m_334 ⟨by decide, by decide⟩ wo (at_aisle G _ _ ) rfl rfl rfl hl.1 rfl (Nat.le_of_ble_eq_true rfl) dX6_drop_5 ⟨by decide, by decide⟩ (fun v W1 H locs hp wo => ?_)
  obtain ⟨rfl, rfl⟩ := hp
  refine nrm_a (fun o_1 => ?_) (fun o_1 => ?_)
  · skip
    rw [if_neg o_1] at hM
    refine lv_astore_nN (lv' := [(2, .null), (0, .ref (ah)), (1, .int x)]) hx hb dX6_drop_8 rfl hl (by decide) rfl (fun ls hl => ?_)
    refine lv_aload_nN hx hb dX6_drop_9 rfl (lv_at hl 0 rfl) ?_
    refine lv_ifnonnullN hx hb dX6_drop_10 ?_
    refine lv_iconst (v := (-1)) hx hb dX6_drop_13 (by decide) ?_
    exact r2_i cx hQ wo dX6_drop_14 (by subst hM; exact ⟨rfl, rfl⟩)
  · skip
    rw [if_pos o_1] at hM
    have hq_2 : ((m_X0_craneNumbered g x).getD 0) < 2 := m_X0_craneNumbered_lt _ _
    refine topv (y := .ref (ad (26 + ((m_X0_craneNumbered g x).getD 0)))) rfl ?_
    refine lv_astore_n (lv' := [(2, .ref (ad (26 + ((m_X0_craneNumbered g x).getD 0)))), (0, .ref (ah)), (1, .int x)]) hx hb dX6_drop_8 rfl hl (by decide) rfl (fun ls hl => ?_)
    refine lv_aload_n hx hb dX6_drop_9 rfl (lv_at hl 0 rfl) ?_
    refine lv_ifnonnull (tgt := 15) hx hb dX6_drop_10 (by decide) ?_
    refine lv_aload_n hx hb dX6_drop_15 rfl (lv_at hl 0 rfl) ?_
    refine gf_crane_orders (r := ((m_X0_craneNumbered g x).getD 0)) (tfr G ah ak (ad 12) nk f K) Fr_t cx wo (by omega) m_109 dX6_drop_16 ?_
    refine lv_istore_n (lv' := [(3, .int (g (104 + ((m_X0_craneNumbered g x).getD 0)))), (2, .ref (ad (26 + ((m_X0_craneNumbered g x).getD 0)))), (0, .ref (ah)), (1, .int x)]) hx hb dX6_drop_19 rfl hl (by decide) rfl (fun ls hl => ?_)
    refine lv_aload_n hx hb dX6_drop_20 rfl (lv_at hl 1 rfl) ?_
    refine lv_iconst (v := 0) hx hb dX6_drop_21 (by decide) ?_
    refine pf_crane_orders (r := ((m_X0_craneNumbered g x).getD 0)) (tfr G ah ak (ad 12) nk f K) Fr_t cx wo (by omega) m_109 dX6_drop_22 (fun H locs gz hgz wo => ?_)
    subst hgz
    refine lv_iload_n hx hb dX6_drop_25 rfl (lv_at hl 0 rfl) ?_
    exact r2_i cx hQ wo dX6_drop_26 (by subst hM; exact ⟨rfl, rfl⟩)
abbrev rm_X6_crane : Room := { frames := 2, cells := 0, slots := 0, locals := 41 }
def m_X6_crane (g : St) (x : Int32) (y : Int32) : Int32 :=
  if (m_X0_craneNumbered g x).isSome = true then (if y = 1 then (m_X0_numberOfLadleOn g (((m_X0_craneNumbered g x).getD 0)))
    else (m_X2_answer g (((m_X0_craneNumbered g x).getD 0)) y))
  else (-1)
set_option maxHeartbeats 4000000 in
set_option maxRecDepth 100000 in
theorem c_X6_crane (l : Launch) (G : GG) (ah ak : Nat) (ad : Nat → Nat) (g : St) (nk : Int32) (f : Nat → Option Nat) (K : va_W) (x : Int32) (y : Int32) : Ct l G yX6_crane cX6_crane 4 (some Jvm.ClassFile.FieldType.int) rm_X6_crane [.ref (ah), .int x, .int y] (tfr G ah ak (ad 12) nk f K (aw G ad g)) (fun rv W1 => rv = some (.int (m_X6_crane g x y)) ∧ W1 = tfr G ah ak (ad 12) nk f K (aw G ad g)) := by
  refine Ct.mk2 (by decide) (Nat.le_of_ble_eq_true rfl) ?_
  intro p e s m args below meth c A H locs ls Q cx wo hl hQ
  obtain ⟨hx, hb, hml, hr, hlo, hown, hts, hnm, kn, hA⟩ := id cx
  have hl : lv_has ls 4 [(0, .ref (ah)), (1, .int x), (2, .int y)] := hl
  generalize hM : m_X6_crane g x y = M at hQ
  unfold m_X6_crane at hM
  refine lv_aload_n hx hb dX6_crane_0 rfl (lv_at hl 0 rfl) ?_
  refine gf_hot_now cx wo m_282 dX6_crane_1 ?_
  refine lv_iload_n hx hb dX6_crane_4 rfl (lv_at hl 1 rfl) ?_
  refine call_V (As := [.int x]) (rest := []) (tfr G ah ak (ad 12) nk f K) Fr_t cx (c_X0_craneNumbered l G ad _ x) fx_X0_craneNumbered m_332 m_333 m_334 ⟨by decide, by decide⟩ wo (at_aisle G _ _ ) rfl rfl rfl hl.1 rfl (Nat.le_of_ble_eq_true rfl) dX6_crane_5 ⟨by decide, by decide⟩ (fun v W1 H locs hp wo => ?_)
  obtain ⟨rfl, rfl⟩ := hp
  refine nrm_a (fun o_1 => ?_) (fun o_1 => ?_)
  · skip
    rw [if_neg o_1] at hM
    refine lv_astore_nN (lv' := [(3, .null), (0, .ref (ah)), (1, .int x), (2, .int y)]) hx hb dX6_crane_8 rfl hl (by decide) rfl (fun ls hl => ?_)
    refine lv_aload_nN hx hb dX6_crane_9 rfl (lv_at hl 0 rfl) ?_
    refine lv_ifnonnullN hx hb dX6_crane_10 ?_
    refine lv_iconst (v := (-1)) hx hb dX6_crane_13 (by decide) ?_
    exact r2_i cx hQ wo dX6_crane_14 (by subst hM; exact ⟨rfl, rfl⟩)
  · skip
    rw [if_pos o_1] at hM
    have hq_2 : ((m_X0_craneNumbered g x).getD 0) < 2 := m_X0_craneNumbered_lt _ _
    refine topv (y := .ref (ad (26 + ((m_X0_craneNumbered g x).getD 0)))) rfl ?_
    refine lv_astore_n (lv' := [(3, .ref (ad (26 + ((m_X0_craneNumbered g x).getD 0)))), (0, .ref (ah)), (1, .int x), (2, .int y)]) hx hb dX6_crane_8 rfl hl (by decide) rfl (fun ls hl => ?_)
    refine lv_aload_n hx hb dX6_crane_9 rfl (lv_at hl 0 rfl) ?_
    refine lv_ifnonnull (tgt := 15) hx hb dX6_crane_10 (by decide) ?_
    refine lv_iload_n hx hb dX6_crane_15 rfl (lv_at hl 3 rfl) ?_
    refine lv_iconst (v := 1) hx hb dX6_crane_16 (by decide) ?_
    refine lv_icmp_ne (tgt := 31) hx hb dX6_crane_17 (by decide) (fun c_3 => ?_) (fun c_3 => ?_)
    · skip
      rw [if_neg c_3] at hM
      refine lv_aload_n hx hb dX6_crane_31 rfl (lv_at hl 0 rfl) ?_
      refine lv_iload_n hx hb dX6_crane_32 rfl (lv_at hl 3 rfl) ?_
      refine call_V (As := [.int y]) (rest := []) (tfr G ah ak (ad 12) nk f K) Fr_t cx (c_X2_answer l G ad _ (r := ((m_X0_craneNumbered g x).getD 0)) (by omega) y) fx_X2_answer m_533 m_534 m_535 ⟨by decide, by decide⟩ wo (at_crane G _ _ (r := ((m_X0_craneNumbered g x).getD 0)) (by omega)) rfl rfl rfl hl.1 rfl (Nat.le_of_ble_eq_true rfl) dX6_crane_33 ⟨by decide, by decide⟩ (fun v W1 H locs hp wo => ?_)
      obtain ⟨rfl, rfl⟩ := hp
      refine nrm_i ?_
      exact r2_i cx hQ wo dX6_crane_36 (by subst hM; exact ⟨rfl, rfl⟩)
    · skip
      rw [if_pos c_3] at hM
      refine lv_aload_n hx hb dX6_crane_20 rfl (lv_at hl 1 rfl) ?_
      refine gf_hot_now cx wo m_282 dX6_crane_21 ?_
      refine lv_aload_n hx hb dX6_crane_24 rfl (lv_at hl 0 rfl) ?_
      refine call_V (As := [.ref (ad (26 + ((m_X0_craneNumbered g x).getD 0)))]) (rest := []) (tfr G ah ak (ad 12) nk f K) Fr_t cx (c_X0_numberOfLadleOn l G ad _ (r := ((m_X0_craneNumbered g x).getD 0)) (by omega)) fx_X0_numberOfLadleOn m_532 m_427 m_428 ⟨by decide, by decide⟩ wo (at_aisle G _ _ ) rfl rfl rfl hl.1 rfl (Nat.le_of_ble_eq_true rfl) dX6_crane_25 ⟨by decide, by decide⟩ (fun v W1 H locs hp wo => ?_)
      obtain ⟨rfl, rfl⟩ := hp
      refine nrm_i ?_
      refine lv_goto (tgt := 36) hx hb dX6_crane_28 (by decide) ?_
      exact r2_i cx hQ wo dX6_crane_36 (by subst hM; exact ⟨rfl, rfl⟩)
abbrev rm_X6_ladle : Room := { frames := 2, cells := 0, slots := 0, locals := 43 }
def m_X6_ladle (g : St) (x : Int32) (y : Int32) : Int32 :=
  if (m_X0_ladleNumbered g x).isSome = true then (m_X3_answer g (((m_X0_ladleNumbered g x).getD 0)) y)
  else (-1)
set_option maxHeartbeats 4000000 in
set_option maxRecDepth 100000 in
theorem c_X6_ladle (l : Launch) (G : GG) (ah ak : Nat) (ad : Nat → Nat) (g : St) (nk : Int32) (f : Nat → Option Nat) (K : va_W) (x : Int32) (y : Int32) : Ct l G yX6_ladle cX6_ladle 4 (some Jvm.ClassFile.FieldType.int) rm_X6_ladle [.ref (ah), .int x, .int y] (tfr G ah ak (ad 12) nk f K (aw G ad g)) (fun rv W1 => rv = some (.int (m_X6_ladle g x y)) ∧ W1 = tfr G ah ak (ad 12) nk f K (aw G ad g)) := by
  refine Ct.mk2 (by decide) (Nat.le_of_ble_eq_true rfl) ?_
  intro p e s m args below meth c A H locs ls Q cx wo hl hQ
  obtain ⟨hx, hb, hml, hr, hlo, hown, hts, hnm, kn, hA⟩ := id cx
  have hl : lv_has ls 4 [(0, .ref (ah)), (1, .int x), (2, .int y)] := hl
  generalize hM : m_X6_ladle g x y = M at hQ
  unfold m_X6_ladle at hM
  refine lv_aload_n hx hb dX6_ladle_0 rfl (lv_at hl 0 rfl) ?_
  refine gf_hot_now cx wo m_282 dX6_ladle_1 ?_
  refine lv_iload_n hx hb dX6_ladle_4 rfl (lv_at hl 1 rfl) ?_
  refine call_V (As := [.int x]) (rest := []) (tfr G ah ak (ad 12) nk f K) Fr_t cx (c_X0_ladleNumbered l G ad _ x) fx_X0_ladleNumbered m_541 m_431 m_432 ⟨by decide, by decide⟩ wo (at_aisle G _ _ ) rfl rfl rfl hl.1 rfl (Nat.le_of_ble_eq_true rfl) dX6_ladle_5 ⟨by decide, by decide⟩ (fun v W1 H locs hp wo => ?_)
  obtain ⟨rfl, rfl⟩ := hp
  refine nrm_a (fun o_1 => ?_) (fun o_1 => ?_)
  · skip
    rw [if_neg o_1] at hM
    refine lv_astore_nN (lv' := [(3, .null), (0, .ref (ah)), (1, .int x), (2, .int y)]) hx hb dX6_ladle_8 rfl hl (by decide) rfl (fun ls hl => ?_)
    refine lv_aload_nN hx hb dX6_ladle_9 rfl (lv_at hl 0 rfl) ?_
    refine lv_ifnonnullN hx hb dX6_ladle_10 ?_
    refine lv_iconst (v := (-1)) hx hb dX6_ladle_13 (by decide) ?_
    refine lv_goto (tgt := 22) hx hb dX6_ladle_14 (by decide) ?_
    exact r2_i cx hQ wo dX6_ladle_22 (by subst hM; exact ⟨rfl, rfl⟩)
  · skip
    rw [if_pos o_1] at hM
    have hq_2 : ((m_X0_ladleNumbered g x).getD 0) < 4 := m_X0_ladleNumbered_lt _ _
    refine topv (y := .ref (ad (22 + ((m_X0_ladleNumbered g x).getD 0)))) rfl ?_
    refine lv_astore_n (lv' := [(3, .ref (ad (22 + ((m_X0_ladleNumbered g x).getD 0)))), (0, .ref (ah)), (1, .int x), (2, .int y)]) hx hb dX6_ladle_8 rfl hl (by decide) rfl (fun ls hl => ?_)
    refine lv_aload_n hx hb dX6_ladle_9 rfl (lv_at hl 0 rfl) ?_
    refine lv_ifnonnull (tgt := 17) hx hb dX6_ladle_10 (by decide) ?_
    refine lv_aload_n hx hb dX6_ladle_17 rfl (lv_at hl 0 rfl) ?_
    refine lv_iload_n hx hb dX6_ladle_18 rfl (lv_at hl 3 rfl) ?_
    refine call_V (As := [.int y]) (rest := []) (tfr G ah ak (ad 12) nk f K) Fr_t cx (c_X3_answer l G ad _ (d := ((m_X0_ladleNumbered g x).getD 0)) (by omega) y) fx_X3_answer m_542 m_543 m_544 ⟨by decide, by decide⟩ wo (at_ladle G _ _ (d := ((m_X0_ladleNumbered g x).getD 0)) (by omega)) rfl rfl rfl hl.1 rfl (Nat.le_of_ble_eq_true rfl) dX6_ladle_19 ⟨by decide, by decide⟩ (fun v W1 H locs hp wo => ?_)
    obtain ⟨rfl, rfl⟩ := hp
    refine nrm_i ?_
    exact r2_i cx hQ wo dX6_ladle_22 (by subst hM; exact ⟨rfl, rfl⟩)
abbrev rm_X6_vessel : Room := { frames := 2, cells := 0, slots := 0, locals := 43 }
def m_X6_vessel (g : St) (x : Int32) (y : Int32) : Int32 :=
  if (m_X0_vesselNumbered g x).isSome = true then (m_X5_answer g (((m_X0_vesselNumbered g x).getD 0)) y)
  else (-1)
set_option maxHeartbeats 4000000 in
set_option maxRecDepth 100000 in
theorem c_X6_vessel (l : Launch) (G : GG) (ah ak : Nat) (ad : Nat → Nat) (g : St) (nk : Int32) (f : Nat → Option Nat) (K : va_W) (x : Int32) (y : Int32) : Ct l G yX6_vessel cX6_vessel 4 (some Jvm.ClassFile.FieldType.int) rm_X6_vessel [.ref (ah), .int x, .int y] (tfr G ah ak (ad 12) nk f K (aw G ad g)) (fun rv W1 => rv = some (.int (m_X6_vessel g x y)) ∧ W1 = tfr G ah ak (ad 12) nk f K (aw G ad g)) := by
  refine Ct.mk2 (by decide) (Nat.le_of_ble_eq_true rfl) ?_
  intro p e s m args below meth c A H locs ls Q cx wo hl hQ
  obtain ⟨hx, hb, hml, hr, hlo, hown, hts, hnm, kn, hA⟩ := id cx
  have hl : lv_has ls 4 [(0, .ref (ah)), (1, .int x), (2, .int y)] := hl
  generalize hM : m_X6_vessel g x y = M at hQ
  unfold m_X6_vessel at hM
  refine lv_aload_n hx hb dX6_vessel_0 rfl (lv_at hl 0 rfl) ?_
  refine gf_hot_now cx wo m_282 dX6_vessel_1 ?_
  refine lv_iload_n hx hb dX6_vessel_4 rfl (lv_at hl 1 rfl) ?_
  refine call_V (As := [.int x]) (rest := []) (tfr G ah ak (ad 12) nk f K) Fr_t cx (c_X0_vesselNumbered l G ad _ x) fx_X0_vesselNumbered m_310 m_311 m_312 ⟨by decide, by decide⟩ wo (at_aisle G _ _ ) rfl rfl rfl hl.1 rfl (Nat.le_of_ble_eq_true rfl) dX6_vessel_5 ⟨by decide, by decide⟩ (fun v W1 H locs hp wo => ?_)
  obtain ⟨rfl, rfl⟩ := hp
  refine nrm_a (fun o_1 => ?_) (fun o_1 => ?_)
  · skip
    rw [if_neg o_1] at hM
    refine lv_astore_nN (lv' := [(3, .null), (0, .ref (ah)), (1, .int x), (2, .int y)]) hx hb dX6_vessel_8 rfl hl (by decide) rfl (fun ls hl => ?_)
    refine lv_aload_nN hx hb dX6_vessel_9 rfl (lv_at hl 0 rfl) ?_
    refine lv_ifnonnullN hx hb dX6_vessel_10 ?_
    refine lv_iconst (v := (-1)) hx hb dX6_vessel_13 (by decide) ?_
    refine lv_goto (tgt := 22) hx hb dX6_vessel_14 (by decide) ?_
    exact r2_i cx hQ wo dX6_vessel_22 (by subst hM; exact ⟨rfl, rfl⟩)
  · skip
    rw [if_pos o_1] at hM
    have hq_2 : ((m_X0_vesselNumbered g x).getD 0) < 3 := m_X0_vesselNumbered_lt _ _
    refine topv (y := .ref (ad (19 + ((m_X0_vesselNumbered g x).getD 0)))) rfl ?_
    refine lv_astore_n (lv' := [(3, .ref (ad (19 + ((m_X0_vesselNumbered g x).getD 0)))), (0, .ref (ah)), (1, .int x), (2, .int y)]) hx hb dX6_vessel_8 rfl hl (by decide) rfl (fun ls hl => ?_)
    refine lv_aload_n hx hb dX6_vessel_9 rfl (lv_at hl 0 rfl) ?_
    refine lv_ifnonnull (tgt := 17) hx hb dX6_vessel_10 (by decide) ?_
    refine lv_aload_n hx hb dX6_vessel_17 rfl (lv_at hl 0 rfl) ?_
    refine lv_iload_n hx hb dX6_vessel_18 rfl (lv_at hl 3 rfl) ?_
    refine call_V (As := [.int y]) (rest := []) (tfr G ah ak (ad 12) nk f K) Fr_t cx (c_X5_answer l G ad _ (v := ((m_X0_vesselNumbered g x).getD 0)) (by omega) y) fx_X5_answer m_550 m_551 m_552 ⟨by decide, by decide⟩ wo (at_vessel G _ _ (v := ((m_X0_vesselNumbered g x).getD 0)) (by omega)) rfl rfl rfl hl.1 rfl (Nat.le_of_ble_eq_true rfl) dX6_vessel_19 ⟨by decide, by decide⟩ (fun v W1 H locs hp wo => ?_)
    obtain ⟨rfl, rfl⟩ := hp
    refine nrm_i ?_
    exact r2_i cx hQ wo dX6_vessel_22 (by subst hM; exact ⟨rfl, rfl⟩)
abbrev rm_X6_book : Room := { frames := 3, cells := 0, slots := 0, locals := 69 }
def m_X6_book (g : St) (x : Int32) (y : Int32) : Int32 :=
  if (m_X6_isBetween 1 y 4) = true then (m_X0_stuffAt g x y)
  else (-1)
set_option maxHeartbeats 4000000 in
set_option maxRecDepth 100000 in
theorem c_X6_book (l : Launch) (G : GG) (ah ak : Nat) (ad : Nat → Nat) (g : St) (nk : Int32) (f : Nat → Option Nat) (K : va_W) (x : Int32) (y : Int32) : Ct l G yX6_book cX6_book 3 (some Jvm.ClassFile.FieldType.int) rm_X6_book [.ref (ah), .int x, .int y] (tfr G ah ak (ad 12) nk f K (aw G ad g)) (fun rv W1 => rv = some (.int (m_X6_book g x y)) ∧ W1 = tfr G ah ak (ad 12) nk f K (aw G ad g)) := by
  refine Ct.mk2 (by decide) (Nat.le_of_ble_eq_true rfl) ?_
  intro p e s m args below meth c A H locs ls Q cx wo hl hQ
  obtain ⟨hx, hb, hml, hr, hlo, hown, hts, hnm, kn, hA⟩ := id cx
  have hl : lv_has ls 3 [(0, .ref (ah)), (1, .int x), (2, .int y)] := hl
  generalize hM : m_X6_book g x y = M at hQ
  unfold m_X6_book at hM
  refine lv_iconst (v := 1) hx hb dX6_book_0 (by decide) ?_
  refine lv_iload_n hx hb dX6_book_1 rfl (lv_at hl 2 rfl) ?_
  refine lv_iconst (v := 4) hx hb dX6_book_2 (by decide) ?_
  refine call_S (As := [.int 1, .int y, .int 4]) (rest := []) (fun X => X) Fr_id cx (c_X6_isBetween l G _ 1 y 4) fx_X6_isBetween m_303 m_304 ⟨by decide, by decide⟩ wo rfl hl.1 rfl (Nat.le_of_ble_eq_true rfl) dX6_book_3 ⟨by decide, by decide⟩ (fun v W1 H locs hp wo => ?_)
  obtain ⟨rfl, rfl⟩ := hp
  refine nrm_i ?_
  refine if_eq_b (tgt := 21) hx hb dX6_book_6 (by decide) (fun c_1 => ?_) (fun c_1 => ?_)
  · skip
    rw [if_neg c_1] at hM
    refine lv_iconst (v := (-1)) hx hb dX6_book_21 (by decide) ?_
    exact r2_i cx hQ wo dX6_book_22 (by subst hM; exact ⟨rfl, rfl⟩)
  · skip
    rw [if_pos c_1] at hM
    refine lv_aload_n hx hb dX6_book_9 rfl (lv_at hl 0 rfl) ?_
    refine gf_hot_now cx wo m_282 dX6_book_10 ?_
    refine lv_iload_n hx hb dX6_book_13 rfl (lv_at hl 1 rfl) ?_
    refine lv_iload_n hx hb dX6_book_14 rfl (lv_at hl 2 rfl) ?_
    refine call_V (As := [.int x, .int y]) (rest := []) (tfr G ah ak (ad 12) nk f K) Fr_t cx (c_X0_stuffAt l G ad _ x y) fx_X0_stuffAt m_560 m_561 m_562 ⟨by decide, by decide⟩ wo (at_aisle G _ _ ) rfl rfl rfl hl.1 rfl (Nat.le_of_ble_eq_true rfl) dX6_book_15 ⟨by decide, by decide⟩ (fun v W1 H locs hp wo => ?_)
    obtain ⟨rfl, rfl⟩ := hp
    refine nrm_i ?_
    refine lv_goto (tgt := 22) hx hb dX6_book_18 (by decide) ?_
    exact r2_i cx hQ wo dX6_book_22 (by subst hM; exact ⟨rfl, rfl⟩)
abbrev rm_X6_count : Room := { frames := 1, cells := 0, slots := 0, locals := 21 }
def m_X6_count (g : St) (nk : Int32) (x : Int32) : Int32 :=
  if x = 7 then nk
  else if x = 8 then (g 148)
  else if x = 9 then (m_X6_oneIf (g 149))
  else (m_X1_answer g x)
set_option maxHeartbeats 4000000 in
set_option maxRecDepth 100000 in
theorem c_X6_count (l : Launch) (G : GG) (ah ak : Nat) (ad : Nat → Nat) (g : St) (nk : Int32) (f : Nat → Option Nat) (K : va_W) (x : Int32) : Ct l G yX6_count cX6_count 2 (some Jvm.ClassFile.FieldType.int) rm_X6_count [.ref (ah), .int x] (tfr G ah ak (ad 12) nk f K (aw G ad g)) (fun rv W1 => rv = some (.int (m_X6_count g nk x)) ∧ W1 = tfr G ah ak (ad 12) nk f K (aw G ad g)) := by
  refine Ct.mk2 (by decide) (Nat.le_of_ble_eq_true rfl) ?_
  intro p e s m args below meth c A H locs ls Q cx wo hl hQ
  obtain ⟨hx, hb, hml, hr, hlo, hown, hts, hnm, kn, hA⟩ := id cx
  have hl : lv_has ls 2 [(0, .ref (ah)), (1, .int x)] := hl
  generalize hM : m_X6_count g nk x = M at hQ
  unfold m_X6_count at hM
  refine lv_iload_n hx hb dX6_count_0 rfl (lv_at hl 1 rfl) ?_
  by_cases c_1 : x = 7
  · skip
    rw [if_pos c_1] at hM
    refine lv_tableIn (off := 27) (tgt := 28) hx hb dX6_count_1 (by rw [c_1]; decide) (by rw [c_1]; decide) (by rw [c_1]; decide) (by decide) ?_
    refine lv_aload_n hx hb dX6_count_28 rfl (lv_at hl 0 rfl) ?_
    refine gf_hot_states cx wo m_284 dX6_count_29 ?_
    exact r2_i cx hQ wo dX6_count_32 (by subst hM; exact ⟨rfl, rfl⟩)
  rw [if_neg c_1] at hM
  by_cases c_2 : x = 8
  · skip
    rw [if_pos c_2] at hM
    refine lv_tableIn (off := 32) (tgt := 33) hx hb dX6_count_1 (by rw [c_2]; decide) (by rw [c_2]; decide) (by rw [c_2]; decide) (by decide) ?_
    refine lv_aload_n hx hb dX6_count_33 rfl (lv_at hl 0 rfl) ?_
    refine gf_hot_now cx wo m_282 dX6_count_34 ?_
    refine gf_aisle_gasLimit (tfr G ah ak (ad 12) nk f K) Fr_t cx wo  m_259 dX6_count_37 ?_
    exact r2_i cx hQ wo dX6_count_40 (by subst hM; exact ⟨rfl, rfl⟩)
  rw [if_neg c_2] at hM
  by_cases c_3 : x = 9
  · skip
    rw [if_pos c_3] at hM
    refine lv_tableIn (off := 40) (tgt := 41) hx hb dX6_count_1 (by rw [c_3]; decide) (by rw [c_3]; decide) (by rw [c_3]; decide) (by decide) ?_
    refine lv_aload_n hx hb dX6_count_41 rfl (lv_at hl 0 rfl) ?_
    refine gf_hot_now cx wo m_282 dX6_count_42 ?_
    refine gf_aisle_isFed (tfr G ah ak (ad 12) nk f K) Fr_t cx wo  m_260 dX6_count_45 ?_
    refine call_S (As := [.int (g 149)]) (rest := []) (fun X => X) Fr_id cx (c_X6_oneIf l G _ (g 149)) fx_X6_oneIf m_296 m_297 ⟨by decide, by decide⟩ wo rfl hl.1 rfl (Nat.le_of_ble_eq_true rfl) dX6_count_48 ⟨by decide, by decide⟩ (fun v W1 H locs hp wo => ?_)
    obtain ⟨rfl, rfl⟩ := hp
    refine nrm_i ?_
    exact r2_i cx hQ wo dX6_count_51 (by subst hM; exact ⟨rfl, rfl⟩)
  rw [if_neg c_3] at hM
  refine lv_tableOut (tgt := 52) hx hb dX6_count_1 (by have q0 := lv_neT c_1 (a := 7) rfl; have q1 := lv_neT c_2 (a := 8) rfl; have q2 := lv_neT c_3 (a := 9) rfl; omega) (by decide) ?_
  refine lv_aload_n hx hb dX6_count_52 rfl (lv_at hl 0 rfl) ?_
  refine gf_hot_now cx wo m_282 dX6_count_53 ?_
  refine gf_aisle_books (tfr G ah ak (ad 12) nk f K) Fr_t cx wo  m_256 dX6_count_56 ?_
  refine lv_iload_n hx hb dX6_count_59 rfl (lv_at hl 1 rfl) ?_
  refine call_V (As := [.int x]) (rest := []) (tfr G ah ak (ad 12) nk f K) Fr_t cx (c_X1_answer l G ad _ x) fx_X1_answer m_581 m_582 m_583 ⟨by decide, by decide⟩ wo (at_books G _ _ ) rfl rfl rfl hl.1 rfl (Nat.le_of_ble_eq_true rfl) dX6_count_60 ⟨by decide, by decide⟩ (fun v W1 H locs hp wo => ?_)
  obtain ⟨rfl, rfl⟩ := hp
  refine nrm_i ?_
  exact r2_i cx hQ wo dX6_count_63 (by subst hM; exact ⟨rfl, rfl⟩)
abbrev rm_X6_minutes : Room := { frames := 6, cells := 0, slots := 0, locals := 138 }
def m_X6_minutes_l : Nat → St → St
  | 0, g => g
  | n + 1, g => m_X6_minutes_l n (m_X0_passMinute g)
def m_X6_minutes (g : St) (x : Int32) : Int32 × St := if (m_X6_isBetween 1 x 60) = true then ((m_X6_minutes_l x.toNatClampNeg g) 146 - g 146, m_X6_minutes_l x.toNatClampNeg g) else ((-1), g)
theorem xb60 {x : Int32} (h : m_X6_isBetween 1 x 60 = true) : x = nI x.toNatClampNeg ∧ 1 ≤ x.toNatClampNeg ∧ x.toNatClampNeg ≤ 60 := xbB (lo := 1) (hi := 60) h
set_option maxHeartbeats 4000000 in
set_option maxRecDepth 100000 in
theorem c_X6_minutes (l : Launch) (G : GG) (ah ak : Nat) (ad : Nat → Nat) (g : St) (nk : Int32) (f : Nat → Option Nat) (K : va_W) (x : Int32) : Ct l G yX6_minutes cX6_minutes 4 (some Jvm.ClassFile.FieldType.int) rm_X6_minutes [.ref (ah), .int x] (tfr G ah ak (ad 12) nk f K (aw G ad g)) (fun rv W1 => rv = some (.int (m_X6_minutes g x).1) ∧ W1 = tfr G ah ak (ad 12) nk f K (aw G ad (m_X6_minutes g x).2)) := by
  refine Ct.mk2 (by decide) (Nat.le_of_ble_eq_true rfl) ?_
  intro p e s m args below meth c A H locs ls Q cx wo hl hQ
  obtain ⟨hx, hb, hml, hr, hlo, hown, hts, hnm, kn, hA⟩ := id cx
  have hl : lv_has ls 4 [(0, .ref (ah)), (1, .int x)] := hl
  generalize hM : m_X6_minutes g x = M at hQ
  unfold m_X6_minutes at hM
  have hloop : ∀ (N : Nat) (had : Int32) (j k : Nat) (gl : St) (H : Heap) (locs : List Loc) (ls : Array Slot), N ≤ 60 → k + j = N → Wo G A s.heap H locs (tfr G ah ak (ad 12) nk f K (aw G ad gl)) → lv_has ls 4 [(3, .int (nI k)), (2, .int had), (0, .ref (ah)), (1, .int (nI N))] → ((m_X6_minutes_l j gl) 146 - had, m_X6_minutes_l j gl) = M → W p l e rm_X6_minutes s m args below meth c H locs 0 0 Q (F0 m 25 ls []) := by
    intro N had j
    induction j with
    | zero =>
      intro k gl H locs ls hN hk wo hl hM
      have hM : (gl 146 - had, gl) = M := hM
      refine lv_iload_n hx hb dX6_minutes_25 rfl (lv_at hl 0 rfl) ?_
      refine lv_iload_n hx hb dX6_minutes_26 rfl (lv_at hl 3 rfl) ?_
      refine lv_icmp_ge (tgt := 43) hx hb dX6_minutes_27 (by decide) (fun _ => ?_) (fun h => absurd (nI_le (a := N) (b := k) (by omega) (by omega)) h)
      refine lv_aload_n hx hb dX6_minutes_43 rfl (lv_at hl 2 rfl) ?_
      refine gf_hot_now cx wo m_282 dX6_minutes_44 ?_
      refine gf_aisle_books (tfr G ah ak (ad 12) nk f K) Fr_t cx wo  m_256 dX6_minutes_47 ?_
      refine gf_books_ordersDone (tfr G ah ak (ad 12) nk f K) Fr_t cx wo  m_160 dX6_minutes_50 ?_
      refine lv_iload_n hx hb dX6_minutes_53 rfl (lv_at hl 1 rfl) ?_
      refine lv_isub hx hb dX6_minutes_54 ?_
      exact r2_i cx hQ wo dX6_minutes_55 (by subst hM; exact ⟨rfl, rfl⟩)
    | succ j ih =>
      intro k gl H locs ls hN hk wo hl hM
      have hM : ((m_X6_minutes_l j (m_X0_passMinute gl)) 146 - had, m_X6_minutes_l j (m_X0_passMinute gl)) = M := hM
      refine lv_iload_n hx hb dX6_minutes_25 rfl (lv_at hl 0 rfl) ?_
      refine lv_iload_n hx hb dX6_minutes_26 rfl (lv_at hl 3 rfl) ?_
      refine lv_icmp_ge (tgt := 43) hx hb dX6_minutes_27 (by decide) (fun h => absurd h (nI_ge (a := k) (b := N) (by omega) (by omega))) (fun _ => ?_)
      refine lv_aload_n hx hb dX6_minutes_30 rfl (lv_at hl 2 rfl) ?_
      refine gf_hot_now cx wo m_282 dX6_minutes_31 ?_
      refine call_V (As := []) (rest := []) (tfr G ah ak (ad 12) nk f K) Fr_t cx (c_X0_passMinute l G ad _) fx_X0_passMinute m_348 m_349 m_350 ⟨by decide, by decide⟩ wo (at_aisle G _ _ ) rfl rfl rfl hl.1 rfl (Nat.le_of_ble_eq_true rfl) dX6_minutes_34 ⟨by decide, by decide⟩ (fun v W1 H locs hp wo => ?_)
      obtain ⟨rfl, rfl⟩ := hp
      refine nrm_v ?_
      refine lv_iinc (v := (nI (1 + k))) (lv' := [(3, .int (nI (1 + k))), (2, .int had), (0, .ref (ah)), (1, .int (nI N))]) hx hb dX6_minutes_37 hl (k := 0) rfl (ai (a := k) (b := 1) rfl rfl (by omega)) (by decide) rfl (fun ls hl => ?_)
      refine lv_goto (tgt := 25) hx hb dX6_minutes_40 (by decide) ?_
      exact ih (1 + k) _ _ _ _ hN (by omega) wo (lv_sub hl [0, 1, 2, 3] rfl) hM
  refine lv_iconst (v := 1) hx hb dX6_minutes_0 (by decide) ?_
  refine lv_iload_n hx hb dX6_minutes_1 rfl (lv_at hl 1 rfl) ?_
  refine lv_bipush (v := 60) hx hb dX6_minutes_2 (by decide) ?_
  refine call_S (As := [.int 1, .int x, .int 60]) (rest := []) (fun X => X) Fr_id cx (c_X6_isBetween l G _ 1 x 60) fx_X6_isBetween m_303 m_304 ⟨by decide, by decide⟩ wo rfl hl.1 rfl (Nat.le_of_ble_eq_true rfl) dX6_minutes_4 ⟨by decide, by decide⟩ (fun v W1 H locs hp wo => ?_)
  obtain ⟨rfl, rfl⟩ := hp
  refine nrm_i ?_
  refine if_ne_b (tgt := 12) hx hb dX6_minutes_7 (by decide) (fun c_1 => ?_) (fun c_1 => ?_)
  · skip
    rw [if_pos c_1] at hM
    refine lv_aload_n hx hb dX6_minutes_12 rfl (lv_at hl 0 rfl) ?_
    refine gf_hot_now cx wo m_282 dX6_minutes_13 ?_
    refine gf_aisle_books (tfr G ah ak (ad 12) nk f K) Fr_t cx wo  m_256 dX6_minutes_16 ?_
    refine gf_books_ordersDone (tfr G ah ak (ad 12) nk f K) Fr_t cx wo  m_160 dX6_minutes_19 ?_
    refine lv_istore_n (lv' := [(2, .int (g 146)), (0, .ref (ah)), (1, .int x)]) hx hb dX6_minutes_22 rfl hl (by decide) rfl (fun ls hl => ?_)
    refine lv_iconst (v := 0) hx hb dX6_minutes_23 (by decide) ?_
    refine lv_istore_n (lv' := [(3, .int 0), (2, .int (g 146)), (0, .ref (ah)), (1, .int x)]) hx hb dX6_minutes_24 rfl hl (by decide) rfl (fun ls hl => ?_)
    have hM : ((m_X6_minutes_l x.toNatClampNeg g) 146 - g 146, m_X6_minutes_l x.toNatClampNeg g) = M := hM
    have hlx := lv_sub hl (l' := [(3, .int 0), (2, .int (g 146)), (0, .ref (ah)), (1, .int x)]) [0, 1, 2, 3] rfl
    have hq := xb60 c_1
    rw [hq.1] at hlx
    exact hloop _ (g 146) (x.toNatClampNeg) 0 _ _ _ _ (by omega) (by omega) wo hlx hM
  · skip
    rw [if_neg c_1] at hM
    refine lv_iconst (v := (-1)) hx hb dX6_minutes_10 (by decide) ?_
    exact r2_i cx hQ wo dX6_minutes_11 (by subst hM; exact ⟨rfl, rfl⟩)
abbrev rm_X6_until : Room := { frames := 6, cells := 0, slots := 0, locals := 138 }
def m_X6_until_l : Nat → Nat → St → Nat × St
  | 0, k, g => (k, g)
  | n + 1, k, g => if m_X0_hasOrders g = true then m_X6_until_l n (1 + k) (m_X0_passMinute g) else (k, g)
def m_X6_until (g : St) (x : Int32) : Int32 × St := if (m_X6_isBetween 1 x 200) = true then (nI (m_X6_until_l x.toNatClampNeg 0 g).1, (m_X6_until_l x.toNatClampNeg 0 g).2) else ((-1), g)
set_option maxHeartbeats 4000000 in
set_option maxRecDepth 100000 in
theorem c_X6_until (l : Launch) (G : GG) (ah ak : Nat) (ad : Nat → Nat) (g : St) (nk : Int32) (f : Nat → Option Nat) (K : va_W) (x : Int32) : Ct l G yX6_until cX6_until 3 (some Jvm.ClassFile.FieldType.int) rm_X6_until [.ref (ah), .int x] (tfr G ah ak (ad 12) nk f K (aw G ad g)) (fun rv W1 => rv = some (.int (m_X6_until g x).1) ∧ W1 = tfr G ah ak (ad 12) nk f K (aw G ad (m_X6_until g x).2)) := by
  refine Ct.mk2 (by decide) (Nat.le_of_ble_eq_true rfl) ?_
  intro p e s m args below meth c A H locs ls Q cx wo hl hQ
  obtain ⟨hx, hb, hml, hr, hlo, hown, hts, hnm, kn, hA⟩ := id cx
  have hl : lv_has ls 3 [(0, .ref (ah)), (1, .int x)] := hl
  generalize hM : m_X6_until g x = M at hQ
  unfold m_X6_until at hM
  have hloop : ∀ (N j k : Nat) (gl : St) (H : Heap) (locs : List Loc) (ls : Array Slot), N ≤ 200 → k + j = N → Wo G A s.heap H locs (tfr G ah ak (ad 12) nk f K (aw G ad gl)) → lv_has ls 3 [(2, .int (nI k)), (0, .ref (ah)), (1, .int (nI N))] → (nI (m_X6_until_l j k gl).1, (m_X6_until_l j k gl).2) = M → W p l e rm_X6_until s m args below meth c H locs 0 0 Q (F0 m 15 ls []) := by
    intro N j
    induction j with
    | zero =>
      intro k gl H locs ls hN hk wo hl hM
      have hM : (nI k, gl) = M := hM
      refine lv_iload_n hx hb dX6_until_15 rfl (lv_at hl 0 rfl) ?_
      refine lv_iload_n hx hb dX6_until_16 rfl (lv_at hl 2 rfl) ?_
      refine lv_icmp_ge (tgt := 43) hx hb dX6_until_17 (by decide) (fun _ => ?_) (fun h => absurd (nI_le (a := N) (b := k) (by omega) (by omega)) h)
      refine lv_iload_n hx hb dX6_until_43 rfl (lv_at hl 0 rfl) ?_
      exact r2_i cx hQ wo dX6_until_44 (by subst hM; exact ⟨rfl, rfl⟩)
    | succ j ih =>
      intro k gl H locs ls hN hk wo hl hM
      rw [m_X6_until_l] at hM
      refine lv_iload_n hx hb dX6_until_15 rfl (lv_at hl 0 rfl) ?_
      refine lv_iload_n hx hb dX6_until_16 rfl (lv_at hl 2 rfl) ?_
      refine lv_icmp_ge (tgt := 43) hx hb dX6_until_17 (by decide) (fun h => absurd h (nI_ge (a := k) (b := N) (by omega) (by omega))) (fun _ => ?_)
      refine lv_aload_n hx hb dX6_until_20 rfl (lv_at hl 1 rfl) ?_
      refine gf_hot_now cx wo m_282 dX6_until_21 ?_
      refine call_V (As := []) (rest := []) (tfr G ah ak (ad 12) nk f K) Fr_t cx (c_X0_hasOrders l G ad _) fx_X0_hasOrders m_524 m_525 m_526 ⟨by decide, by decide⟩ wo (at_aisle G _ _ ) rfl rfl rfl hl.1 rfl (Nat.le_of_ble_eq_true rfl) dX6_until_24 ⟨by decide, by decide⟩ (fun v W1 H locs hp wo => ?_)
      obtain ⟨rfl, rfl⟩ := hp
      refine nrm_i ?_
      refine if_eq_b (tgt := 43) hx hb dX6_until_27 (by decide) (fun c_501 => ?_) (fun c_501 => ?_)
      · skip
        rw [if_neg c_501] at hM
        refine lv_iload_n hx hb dX6_until_43 rfl (lv_at hl 0 rfl) ?_
        exact r2_i cx hQ wo dX6_until_44 (by subst hM; exact ⟨rfl, rfl⟩)
      · skip
        rw [if_pos c_501] at hM
        refine lv_aload_n hx hb dX6_until_30 rfl (lv_at hl 1 rfl) ?_
        refine gf_hot_now cx wo m_282 dX6_until_31 ?_
        refine call_V (As := []) (rest := []) (tfr G ah ak (ad 12) nk f K) Fr_t cx (c_X0_passMinute l G ad _) fx_X0_passMinute m_348 m_349 m_350 ⟨by decide, by decide⟩ wo (at_aisle G _ _ ) rfl rfl rfl hl.1 rfl (Nat.le_of_ble_eq_true rfl) dX6_until_34 ⟨by decide, by decide⟩ (fun v W1 H locs hp wo => ?_)
        obtain ⟨rfl, rfl⟩ := hp
        refine nrm_v ?_
        refine lv_iinc (v := (nI (1 + k))) (lv' := [(2, .int (nI (1 + k))), (0, .ref (ah)), (1, .int (nI N))]) hx hb dX6_until_37 hl (k := 0) rfl (ai (a := k) (b := 1) rfl rfl (by omega)) (by decide) rfl (fun ls hl => ?_)
        refine lv_goto (tgt := 15) hx hb dX6_until_40 (by decide) ?_
        exact ih (1 + k) _ _ _ _ hN (by omega) wo (lv_sub hl [0, 1, 2] rfl) hM
  refine lv_iconst (v := 1) hx hb dX6_until_0 (by decide) ?_
  refine lv_iload_n hx hb dX6_until_1 rfl (lv_at hl 1 rfl) ?_
  refine lv_sipush (v := 200) hx hb dX6_until_2 (by decide) ?_
  refine call_S (As := [.int 1, .int x, .int 200]) (rest := []) (fun X => X) Fr_id cx (c_X6_isBetween l G _ 1 x 200) fx_X6_isBetween m_303 m_304 ⟨by decide, by decide⟩ wo rfl hl.1 rfl (Nat.le_of_ble_eq_true rfl) dX6_until_5 ⟨by decide, by decide⟩ (fun v W1 H locs hp wo => ?_)
  obtain ⟨rfl, rfl⟩ := hp
  refine nrm_i ?_
  refine if_ne_b (tgt := 13) hx hb dX6_until_8 (by decide) (fun c_1 => ?_) (fun c_1 => ?_)
  · skip
    rw [if_pos c_1] at hM
    refine lv_iconst (v := 0) hx hb dX6_until_13 (by decide) ?_
    refine lv_istore_n (lv' := [(2, .int 0), (0, .ref (ah)), (1, .int x)]) hx hb dX6_until_14 rfl hl (by decide) rfl (fun ls hl => ?_)
    have hM : (nI (m_X6_until_l x.toNatClampNeg 0 g).1, (m_X6_until_l x.toNatClampNeg 0 g).2) = M := hM
    have hlx := lv_sub hl (l' := [(2, .int 0), (0, .ref (ah)), (1, .int x)]) [0, 1, 2] rfl
    have hq := xbB (lo := 1) (hi := 200) c_1
    rw [hq.1] at hlx
    exact hloop _ (x.toNatClampNeg) 0 _ _ _ _ (by omega) (by omega) wo hlx hM
  · skip
    rw [if_neg c_1] at hM
    refine lv_iconst (v := (-1)) hx hb dX6_until_11 (by decide) ?_
    exact r2_i cx hQ wo dX6_until_12 (by subst hM; exact ⟨rfl, rfl⟩)
abbrev rm_X7_minutes : Room := { frames := 6, cells := 0, slots := 0, locals := 146 }
def m_X7_minutes_l : Nat → St → St
  | 0, g => g
  | n + 1, g => m_X7_minutes_l n (m_X7_minute g)
def m_X7_minutes (g : St) (x : Int32) : Int32 × St := if (m_X7_in x 1 60) = true then ((m_X7_minutes_l x.toNatClampNeg g) 146 - g 146, m_X7_minutes_l x.toNatClampNeg g) else ((-1), g)
set_option maxHeartbeats 4000000 in
set_option maxRecDepth 100000 in
theorem c_X7_minutes (l : Launch) (G : GG) (am : Nat → Nat) (g kf : St) (nk : Int32) (x : Int32) (hP : ∀ j, N7 (m_X7_pre (m_X7_minutes_l j g)) ∧ N7 (m_X7_goes (m_X7_pre (m_X7_minutes_l j g)) 0)) : Ct l G yX7_minutes cX7_minutes 4 (some Jvm.ClassFile.FieldType.int) rm_X7_minutes [.ref (am 0), .int x] (mw G am g kf nk) (fun rv W1 => rv = some (.int (m_X7_minutes g x).1) ∧ W1 = mw G am (m_X7_minutes g x).2 kf nk) := by
  refine Ct.mk2 (by decide) (Nat.le_of_ble_eq_true rfl) ?_
  intro p e s m args below meth c A H locs ls Q cx wo hl hQ
  obtain ⟨hx, hb, hml, hr, hlo, hown, hts, hnm, kn, hA⟩ := id cx
  have hl : lv_has ls 4 [(0, .ref (am 0)), (1, .int x)] := hl
  generalize hM : m_X7_minutes g x = M at hQ
  unfold m_X7_minutes at hM
  have hloop : ∀ (N : Nat) (had : Int32) (j k : Nat) (gl : St) (H : Heap) (locs : List Loc) (ls : Array Slot), N ≤ 60 → k + j = N → (∀ j, N7 (m_X7_pre (m_X7_minutes_l j gl)) ∧ N7 (m_X7_goes (m_X7_pre (m_X7_minutes_l j gl)) 0)) → Wo G A s.heap H locs (mw G am gl kf nk) → lv_has ls 4 [(3, .int (nI k)), (2, .int had), (0, .ref (am 0)), (1, .int (nI N))] → ((m_X7_minutes_l j gl) 146 - had, m_X7_minutes_l j gl) = M → W p l e rm_X7_minutes s m args below meth c H locs 0 0 Q (F0 m 23 ls []) := by
    intro N had j
    induction j with
    | zero =>
      intro k gl H locs ls hN hk hP wo hl hM
      have hM : (gl 146 - had, gl) = M := hM
      refine lv_iload_n hx hb dX7_minutes_23 rfl (lv_at hl 0 rfl) ?_
      refine lv_iload_n hx hb dX7_minutes_24 rfl (lv_at hl 3 rfl) ?_
      refine lv_icmp_ge (tgt := 38) hx hb dX7_minutes_25 (by decide) (fun _ => ?_) (fun h => absurd (nI_le (a := N) (b := k) (by omega) (by omega)) h)
      refine lv_aload_n hx hb dX7_minutes_38 rfl (lv_at hl 2 rfl) ?_
      refine mg_st cx wo m_631 dX7_minutes_39 ?_
      refine lv_sipush (v := 146) hx hb dX7_minutes_42 (by decide) ?_
      refine ml_st (n := 146) cx wo rfl (by omega) dX7_minutes_45 ?_
      refine lv_iload_n hx hb dX7_minutes_46 rfl (lv_at hl 1 rfl) ?_
      refine lv_isub hx hb dX7_minutes_47 ?_
      exact r2_i cx hQ wo dX7_minutes_48 (by subst hM; exact ⟨rfl, rfl⟩)
    | succ j ih =>
      intro k gl H locs ls hN hk hP wo hl hM
      have hM : ((m_X7_minutes_l j (m_X7_minute gl)) 146 - had, m_X7_minutes_l j (m_X7_minute gl)) = M := hM
      have h0 := (hP 0).1
      have h1 := (hP 0).2
      refine lv_iload_n hx hb dX7_minutes_23 rfl (lv_at hl 0 rfl) ?_
      refine lv_iload_n hx hb dX7_minutes_24 rfl (lv_at hl 3 rfl) ?_
      refine lv_icmp_ge (tgt := 38) hx hb dX7_minutes_25 (by decide) (fun h => absurd h (nI_ge (a := k) (b := N) (by omega) (by omega))) (fun _ => ?_)
      refine lv_aload_n hx hb dX7_minutes_28 rfl (lv_at hl 2 rfl) ?_
      refine call_V (As := []) (rest := []) (fun X => X) Fr_id cx (c_X7_minute l G am _ _ _ h0 h1) fx_X7_minute m_676 m_678 m_20 ⟨by decide, by decide⟩ wo (k := 0) rfl rfl rfl rfl hl.1 rfl (Nat.le_of_ble_eq_true rfl) dX7_minutes_29 ⟨by decide, by decide⟩ (fun v W1 H locs hp wo => ?_)
      obtain ⟨rfl, rfl⟩ := hp
      refine nrm_v ?_
      refine lv_iinc (v := (nI (1 + k))) (lv' := [(3, .int (nI (1 + k))), (2, .int had), (0, .ref (am 0)), (1, .int (nI N))]) hx hb dX7_minutes_32 hl (k := 0) rfl (ai (a := k) (b := 1) rfl rfl (by omega)) (by decide) rfl (fun ls hl => ?_)
      refine lv_goto (tgt := 23) hx hb dX7_minutes_35 (by decide) ?_
      exact ih (1 + k) _ _ _ _ hN (by omega) (fun j => hP (j + 1)) wo (lv_sub hl [0, 1, 2, 3] rfl) hM
  refine lv_iload_n hx hb dX7_minutes_0 rfl (lv_at hl 1 rfl) ?_
  refine lv_iconst (v := 1) hx hb dX7_minutes_1 (by decide) ?_
  refine lv_bipush (v := 60) hx hb dX7_minutes_2 (by decide) ?_
  refine call_S (As := [.int x, .int 1, .int 60]) (rest := []) (fun X => X) Fr_id cx (c_X7_in l G _ x 1 60) fx_X7_in m_649 m_650 ⟨by decide, by decide⟩ wo rfl hl.1 rfl (Nat.le_of_ble_eq_true rfl) dX7_minutes_4 ⟨by decide, by decide⟩ (fun v W1 H locs hp wo => ?_)
  obtain ⟨rfl, rfl⟩ := hp
  refine nrm_i ?_
  refine if_ne_b (tgt := 12) hx hb dX7_minutes_7 (by decide) (fun c_1 => ?_) (fun c_1 => ?_)
  · skip
    rw [if_pos c_1] at hM
    have q_2 := inb (lo := 1) (hi := 60) c_1
    have q_2b := q_2.2
    refine lv_aload_n hx hb dX7_minutes_12 rfl (lv_at hl 0 rfl) ?_
    refine mg_st cx wo m_631 dX7_minutes_13 ?_
    refine lv_sipush (v := 146) hx hb dX7_minutes_16 (by decide) ?_
    refine ml_st (n := 146) cx wo rfl (by omega) dX7_minutes_19 ?_
    refine lv_istore_n (lv' := [(2, .int (g 146)), (0, .ref (am 0)), (1, .int x)]) hx hb dX7_minutes_20 rfl hl (by decide) rfl (fun ls hl => ?_)
    refine lv_iconst (v := 0) hx hb dX7_minutes_21 (by decide) ?_
    refine lv_istore_n (lv' := [(3, .int 0), (2, .int (g 146)), (0, .ref (am 0)), (1, .int x)]) hx hb dX7_minutes_22 rfl hl (by decide) rfl (fun ls hl => ?_)
    have hM : ((m_X7_minutes_l x.toNatClampNeg g) 146 - g 146, m_X7_minutes_l x.toNatClampNeg g) = M := hM
    have hlx := lv_sub hl (l' := [(3, .int 0), (2, .int (g 146)), (0, .ref (am 0)), (1, .int x)]) [0, 1, 2, 3] rfl
    have hq := q_2
    rw [hq.1] at hlx
    exact hloop _ (g 146) (x.toNatClampNeg) 0 _ _ _ _ (by omega) (by omega) hP wo hlx hM
  · skip
    rw [if_neg c_1] at hM
    refine lv_iconst (v := (-1)) hx hb dX7_minutes_10 (by decide) ?_
    exact r2_i cx hQ wo dX7_minutes_11 (by subst hM; exact ⟨rfl, rfl⟩)
abbrev rm_X7_until : Room := { frames := 6, cells := 0, slots := 0, locals := 146 }
def m_X7_until_l : Nat → Nat → St → Nat × St
  | 0, k, g => (k, g)
  | n + 1, k, g => if g 104 + g 105 ≤ 0 then (k, g) else m_X7_until_l n (1 + k) (m_X7_minute g)
def m_X7_until (g : St) (x : Int32) : Int32 × St := if (m_X7_in x 1 200) = true then (nI (m_X7_until_l x.toNatClampNeg 0 g).1, (m_X7_until_l x.toNatClampNeg 0 g).2) else ((-1), g)
set_option maxHeartbeats 4000000 in
set_option maxRecDepth 100000 in
theorem c_X7_until (l : Launch) (G : GG) (am : Nat → Nat) (g kf : St) (nk : Int32) (x : Int32) (hP : ∀ j, N7 (m_X7_pre (m_X7_minutes_l j g)) ∧ N7 (m_X7_goes (m_X7_pre (m_X7_minutes_l j g)) 0)) : Ct l G yX7_until cX7_until 3 (some Jvm.ClassFile.FieldType.int) rm_X7_until [.ref (am 0), .int x] (mw G am g kf nk) (fun rv W1 => rv = some (.int (m_X7_until g x).1) ∧ W1 = mw G am (m_X7_until g x).2 kf nk) := by
  refine Ct.mk2 (by decide) (Nat.le_of_ble_eq_true rfl) ?_
  intro p e s m args below meth c A H locs ls Q cx wo hl hQ
  obtain ⟨hx, hb, hml, hr, hlo, hown, hts, hnm, kn, hA⟩ := id cx
  have hl : lv_has ls 3 [(0, .ref (am 0)), (1, .int x)] := hl
  generalize hM : m_X7_until g x = M at hQ
  unfold m_X7_until at hM
  have hloop : ∀ (N j k : Nat) (gl : St) (H : Heap) (locs : List Loc) (ls : Array Slot), N ≤ 200 → k + j = N → (∀ j, N7 (m_X7_pre (m_X7_minutes_l j gl)) ∧ N7 (m_X7_goes (m_X7_pre (m_X7_minutes_l j gl)) 0)) → Wo G A s.heap H locs (mw G am gl kf nk) → lv_has ls 3 [(2, .int (nI k)), (0, .ref (am 0)), (1, .int (nI N))] → (nI (m_X7_until_l j k gl).1, (m_X7_until_l j k gl).2) = M → W p l e rm_X7_until s m args below meth c H locs 0 0 Q (F0 m 15 ls []) := by
    intro N j
    induction j with
    | zero =>
      intro k gl H locs ls hN hk hP wo hl hM
      have hM : (nI k, gl) = M := hM
      refine lv_iload_n hx hb dX7_until_15 rfl (lv_at hl 0 rfl) ?_
      refine lv_iload_n hx hb dX7_until_16 rfl (lv_at hl 2 rfl) ?_
      refine lv_icmp_ge (tgt := 48) hx hb dX7_until_17 (by decide) (fun _ => ?_) (fun h => absurd (nI_le (a := N) (b := k) (by omega) (by omega)) h)
      refine lv_iload_n hx hb dX7_until_48 rfl (lv_at hl 0 rfl) ?_
      exact r2_i cx hQ wo dX7_until_49 (by subst hM; exact ⟨rfl, rfl⟩)
    | succ j ih =>
      intro k gl H locs ls hN hk hP wo hl hM
      rw [m_X7_until_l] at hM
      have h0 := (hP 0).1
      have h1 := (hP 0).2
      refine lv_iload_n hx hb dX7_until_15 rfl (lv_at hl 0 rfl) ?_
      refine lv_iload_n hx hb dX7_until_16 rfl (lv_at hl 2 rfl) ?_
      refine lv_icmp_ge (tgt := 48) hx hb dX7_until_17 (by decide) (fun h => absurd h (nI_ge (a := k) (b := N) (by omega) (by omega))) (fun _ => ?_)
      refine lv_aload_n hx hb dX7_until_20 rfl (lv_at hl 1 rfl) ?_
      refine mg_st cx wo m_631 dX7_until_21 ?_
      refine lv_bipush (v := 104) hx hb dX7_until_24 (by decide) ?_
      refine ml_st (n := 104) cx wo rfl (by omega) dX7_until_26 ?_
      refine lv_aload_n hx hb dX7_until_27 rfl (lv_at hl 1 rfl) ?_
      refine mg_st cx wo m_631 dX7_until_28 ?_
      refine lv_bipush (v := 105) hx hb dX7_until_31 (by decide) ?_
      refine ml_st (n := 105) cx wo rfl (by omega) dX7_until_33 ?_
      refine lv_iadd hx hb dX7_until_34 ?_
      refine lv_if_le (tgt := 48) hx hb dX7_until_35 (by decide) (fun c_501 => ?_) (fun c_501 => ?_)
      · skip
        rw [if_pos c_501] at hM
        refine lv_iload_n hx hb dX7_until_48 rfl (lv_at hl 0 rfl) ?_
        exact r2_i cx hQ wo dX7_until_49 (by subst hM; exact ⟨rfl, rfl⟩)
      · skip
        rw [if_neg c_501] at hM
        refine lv_aload_n hx hb dX7_until_38 rfl (lv_at hl 1 rfl) ?_
        refine call_V (As := []) (rest := []) (fun X => X) Fr_id cx (c_X7_minute l G am _ _ _ h0 h1) fx_X7_minute m_676 m_678 m_20 ⟨by decide, by decide⟩ wo (k := 0) rfl rfl rfl rfl hl.1 rfl (Nat.le_of_ble_eq_true rfl) dX7_until_39 ⟨by decide, by decide⟩ (fun v W1 H locs hp wo => ?_)
        obtain ⟨rfl, rfl⟩ := hp
        refine nrm_v ?_
        refine lv_iinc (v := (nI (1 + k))) (lv' := [(2, .int (nI (1 + k))), (0, .ref (am 0)), (1, .int (nI N))]) hx hb dX7_until_42 hl (k := 0) rfl (ai (a := k) (b := 1) rfl rfl (by omega)) (by decide) rfl (fun ls hl => ?_)
        refine lv_goto (tgt := 15) hx hb dX7_until_45 (by decide) ?_
        exact ih (1 + k) _ _ _ _ hN (by omega) (fun j => hP (j + 1)) wo (lv_sub hl [0, 1, 2] rfl) hM
  refine lv_iload_n hx hb dX7_until_0 rfl (lv_at hl 1 rfl) ?_
  refine lv_iconst (v := 1) hx hb dX7_until_1 (by decide) ?_
  refine lv_sipush (v := 200) hx hb dX7_until_2 (by decide) ?_
  refine call_S (As := [.int x, .int 1, .int 200]) (rest := []) (fun X => X) Fr_id cx (c_X7_in l G _ x 1 200) fx_X7_in m_649 m_650 ⟨by decide, by decide⟩ wo rfl hl.1 rfl (Nat.le_of_ble_eq_true rfl) dX7_until_5 ⟨by decide, by decide⟩ (fun v W1 H locs hp wo => ?_)
  obtain ⟨rfl, rfl⟩ := hp
  refine nrm_i ?_
  refine if_ne_b (tgt := 13) hx hb dX7_until_8 (by decide) (fun c_1 => ?_) (fun c_1 => ?_)
  · skip
    rw [if_pos c_1] at hM
    have q_2 := inb (lo := 1) (hi := 200) c_1
    have q_2b := q_2.2
    refine lv_iconst (v := 0) hx hb dX7_until_13 (by decide) ?_
    refine lv_istore_n (lv' := [(2, .int 0), (0, .ref (am 0)), (1, .int x)]) hx hb dX7_until_14 rfl hl (by decide) rfl (fun ls hl => ?_)
    have hM : (nI (m_X7_until_l x.toNatClampNeg 0 g).1, (m_X7_until_l x.toNatClampNeg 0 g).2) = M := hM
    have hlx := lv_sub hl (l' := [(2, .int 0), (0, .ref (am 0)), (1, .int x)]) [0, 1, 2] rfl
    have hq := q_2
    rw [hq.1] at hlx
    exact hloop _ (x.toNatClampNeg) 0 _ _ _ _ (by omega) (by omega) hP wo hlx hM
  · skip
    rw [if_neg c_1] at hM
    refine lv_iconst (v := (-1)) hx hb dX7_until_11 (by decide) ?_
    exact r2_i cx hQ wo dX7_until_12 (by subst hM; exact ⟨rfl, rfl⟩)
