/-! THE CLAIM OUT OF ONE WALK OF THE LAW'S BODY. Your part is whole_start (and what it stands on); all else here is the same for every law, but numbers. -/
def R_law : String := "HotAisleLaw"
def lw_P (b : Addr) (xs : List Int32) (args : Array Value) (s : State) : Prop := args = #[.ref b] ∧ s.IntsAt b xs ∧ xs.length ≤ 2048 ∧ (Jvm.Cond.and given_1 narrow_1).before args s = true
def lw_Q (_ : Array Value) (s : State) (o : Outcome) (t : State) : Prop := o = .returned (some (.int 1)) ∧ Framed s o t [] 600000 7302250
def lw_Z (below : List Frame) (a : Array Value) (s : State) : State → Prop := fun t => ∃ o, t.status = .running ∧ Ended t below o ∧ lw_Q a s o t
/-- the law's own end, with 1 on the stack, nothing written that was there before, its room as the claim has it -/
theorem lw_ret {p : Program} {l : Launch} {e : Env} {s : State} {m : MethodId} {below : List Frame} {meth : Method} {c : Code} {b : Nat} (hx : p.tables.exec = Jvm.exec) (hb : c.code = code) (hr : meth.sig.returnType = ret) (hlocks : meth.locks = false) {pc : Nat} {H : Heap} {ls : Array Slot} (hdg : decode code pc = .ok (.ireturn, 1)) : W p l e room_1 s m #[Value.ref b] below meth c H [] 600000 7302250 (lw_Z below #[Value.ref b] s) (F0 m pc ls [.int 1]) := by
  intro T hT X
  obtain ⟨fs, hret, hrun, hended, hW, hframe⟩ := X.leave (v := some (.int 1)) (hlocks := hlocks) (fun h => by rw [hr] at h; cases h)
  have hmeth' : T.vm.method? m = some meth := X.method'
  refine ⟨T.setFrames fs, ?_, .returned (some (.int 1)), hrun, hended, rfl, ⟨_, rfl⟩, hW, hframe⟩
  jvm_step X.here [X.here.top, hx, hb, hdg, hmeth', hr, ret, narrow_b1]
  (try refine ⟨rfl, ?_⟩); (try refine ⟨rfl, ?_⟩)
  first | (intro acts; rw [hret _ acts rfl rfl rfl]) | rw [hret _ _ rfl rfl rfl]
  exact Steps.refl _
/-- what holds at the law's entry: the machine, the code, the tables' words (any of lw_tbl by 'hts w (by decide +kernel)'), the script of L ints xs at the cell b, what the Statement gives of the start (any of its parts by flat_of_before) -/
def lw_At (p : Program) (s : State) (m : MethodId) (meth : Method) (c : Code) (b L : Nat) (xs : Nat → Int32) : Prop :=
  p.tables.exec = Jvm.exec ∧ c.code = code ∧ meth.sig.returnType = ret ∧ c.maxLocals = 4 ∧ s.vm.findClass R_law = some m.cls ∧ (∀ w ∈ lw_tbl, w.before #[Value.ref b] s = true) ∧ va_X b L xs s s.heap ∧ b < s.heap.size ∧ meth.locks = false ∧ (Jvm.Cond.and given_1 narrow_1).before #[Value.ref b] s = true
/-! the law's loop -/
theorem le4 {L i : Nat} (hL : L ≤ 2048) (hi : i ≤ L) (c : ¬ nI L - 4 < nI i) : i + 4 ≤ L := by
  rw [Int32.lt_iff_toInt_lt, Int32.toInt_sub, nI_toInt (by omega), nI_toInt (by omega), show (4 : Int32).toInt = 4 from rfl, Int.bmod_eq_of_le (by omega) (by omega)] at c
  omega
theorem keep_hks {f g kf : St} {gs : Nat → St} {n : Nat} (hR : RQ f g) (hn : n < 8) (h : ∀ k, k < n → RQ (fun i => kf (150 * k + i)) (gs k)) : ∀ k, k < 1 + n → RQ (fun i => keepf f kf n 150 (150 * k + i)) (va_up gs n g k) := by
  intro k hk
  by_cases e : k = n
  · subst e
    rw [va_up_s]
    refine Q_cong (fun i hi => ?_) hR
    unfold keepf
    rw [if_pos (by omega), Nat.add_sub_cancel_left]
  · have e2 : va_up gs n g k = gs k := if_neg e
    rw [e2]
    refine Q_cong (fun i hi => ?_) (h k (by omega))
    unfold keepf
    rw [if_neg (by omega)]
theorem keep_hbs {f g : St} {gs : Nat → St} {n : Nat} (hR : RQ f g) (h : ∀ k, k < 8 → ∀ i, i = 79 ∨ i = 80 ∨ i = 81 ∨ i = 149 → gs k i = 0 ∨ gs k i = 1) : ∀ k, k < 8 → ∀ i, i = 79 ∨ i = 80 ∨ i = 81 ∨ i = 149 → va_up gs n g k i = 0 ∨ va_up gs n g k i = 1 := by
  intro k hk
  by_cases e : k = n
  · subst e; rw [va_up_s]; exact Q_bool hR
  · have e2 : va_up gs n g k = gs k := if_neg e
    rw [e2]; exact h k hk
theorem back_RI {f kf : St} {gs : Nat → St} {n : Nat} (hn : 1 ≤ n) (hn8 : n ≤ 8) (h : ∀ k, k < n → RQ (fun i => kf (150 * k + i)) (gs k)) : RQ (backf f kf (n - 1) 150) (gs (n - 1)) := by
  refine Q_cong (fun i hi => ?_) (h (n - 1) (by omega))
  unfold backf
  rw [if_pos hi]
set_option maxHeartbeats 8000000 in
set_option maxRecDepth 100000 in
theorem law_loop {G : GG} {p : Program} {e : Env} {s : State} {m : MethodId} {below : List Frame} {meth : Method} {c : Code} (l : Launch) {b L : Nat} {xs : Nat → Int32} (hL : L ≤ 2048) {A : Nat → Prop} {nm : String} (hAe : A = fun q => s.heap.size ≤ q) (cx : Cx G p room_1 s m #[Value.ref b] meth c "HotAisleLaw" code 4 ret nm A) (hX : va_X b L xs s s.heap) (hbl : b < s.heap.size) (ah ak : Nat) (ad : Nat → Nat) (ka : Nat → Nat → Nat) (am : Nat → Nat) :
    ∀ (fuel i : Nat) (n : Nat) (g f : St) (gs : Nat → St) (kf : St) (H : Heap) (locs : List Loc) (ls : Array Slot), L < i + 4 * fuel → i ≤ L → n ≤ 8 → RQ f g → (∀ k, k < n → RQ (fun i => kf (150 * k + i)) (gs k)) → (∀ k, k < 8 → ∀ i, i = 79 ∨ i = 80 ∨ i = 81 ∨ i = 149 → gs k i = 0 ∨ gs k i = 1) → Wo G A s.heap H locs (tfr G ah ak (ad 12) (nI n) (fun i => some (ka i 12)) (kw G ka gs) (aw G ad g) ++ mw G am f kf (nI n)) → lv_has ls 4 [(3, .int (nI i)), (0, .ref b), (1, .ref ah), (2, .ref (am 0))] → W p l e room_1 s m #[Value.ref b] below meth c H locs 600000 7302250 (lw_Z below #[Value.ref b] s) (F0 m 18 ls []) := by
  obtain ⟨hx, hb, hml, hr, hlo, hown, hts, hnm, kn, hA⟩ := id cx
  have hbA : ¬ A b := by rw [hAe]; exact Nat.not_le.mpr hbl
  intro fuel
  induction fuel with
  | zero =>
    intro i n g f gs kf H locs ls h1 h2
    omega
  | succ fuel ih =>
    intro i n g f gs kf H locs ls h1 h2 hn8 hR hks hbs wo hl
    refine lv_iload_n hx hb dL_law_18 rfl (lv_at hl 0 rfl) ?_
    refine lv_aload_n hx hb dL_law_19 rfl (lv_at hl 1 rfl) ?_
    refine va_slen hx hb hX hbl hbA wo.2.2 dL_law_20 ?_
    refine tope (y := nI L) rfl ?_
    refine lv_iconst (v := 4) hx hb dL_law_21 (by decide) ?_
    refine lv_isub hx hb dL_law_22 ?_
    refine lv_icmp_gt (tgt := 551) hx hb dL_law_23 (by decide) (fun _ => ?_) (fun hc => ?_)
    · skip
      refine lv_iconst (v := 1) hx hb dL_law_551 (by decide) ?_
      refine va_forget (fun q hq => by have := wo.2.2.2.2 q hq; rw [hAe] at this; exact this) ?_
      exact lw_ret hx hb hr hlo dL_law_552
    · skip
      have h4 : i + 4 ≤ L := le4 hL h2 hc
      have tail : ∀ (n : Nat) (g f : St) (gs : Nat → St) (kf : St) (H : Heap) (locs : List Loc) (ls : Array Slot), n ≤ 8 → RQ f g → (∀ k, k < n → RQ (fun i => kf (150 * k + i)) (gs k)) → (∀ k, k < 8 → ∀ i, i = 79 ∨ i = 80 ∨ i = 81 ∨ i = 149 → gs k i = 0 ∨ gs k i = 1) → Wo G A s.heap H locs (tfr G ah ak (ad 12) (nI n) (fun i => some (ka i 12)) (kw G ka gs) (aw G ad g) ++ mw G am f kf (nI n)) → lv_has ls 4 [(3, .int (nI i)), (0, .ref b), (1, .ref ah), (2, .ref (am 0))] → W p l e room_1 s m #[Value.ref b] below meth c H locs 600000 7302250 (lw_Z below #[Value.ref b] s) (F0 m 545 ls []) := by
        intro n g f gs kf H locs ls hn8 hR hks hbs wo hl
        refine lv_iinc (v := nI (i + 4)) (lv' := [(3, .int (nI (i + 4))), (0, .ref b), (1, .ref ah), (2, .ref (am 0))]) hx hb dL_law_545 hl (k := 0) rfl (ai (a := i) (b := 4) rfl rfl rfl) (by decide) rfl (fun ls hl => ?_)
        refine lv_goto (tgt := 18) hx hb dL_law_548 (by decide) ?_
        exact ih (i + 4) n g f gs kf _ _ _ (by omega) (by omega) hn8 hR hks hbs wo hl
      refine lv_aload_n hx hb dL_law_26 rfl (lv_at hl 1 rfl) ?_
      refine lv_iload_n hx hb dL_law_27 rfl (lv_at hl 0 rfl) ?_
      refine va_sld hx hb hX hbl hbA wo.2.2 (vp_in_nI (by omega) (by omega)) dL_law_28 ?_
      refine tope (y := xs i) (by rw [nI_clamp (by omega)]) ?_
      refine lv_bipush (v := 15) hx hb dL_law_29 (by decide) ?_
      refine lv_iand hx hb dL_law_31 ?_
      by_cases c0 : xs i &&& 15 = 0
      · skip
        refine lv_tableIn (off := 76) (tgt := 108) hx hb dL_law_32 (by rw [c0]; decide) (by rw [c0]; decide) (by rw [c0]; decide) (by decide) ?_
        by_cases hzb : xs (i + 1) = 0
        · skip
          refine lv_aload_n hx hb dL_law_108 rfl (lv_at hl 2 rfl) ?_
          refine lv_aload_n hx hb dL_law_109 rfl (lv_at hl 1 rfl) ?_
          refine lv_iload_n hx hb dL_law_110 rfl (lv_at hl 0 rfl) ?_
          refine lv_iconst (v := 1) hx hb dL_law_111 (by decide) ?_
          refine lv_iadd hx hb dL_law_112 ?_
          refine tope (y := nI (i + 1)) (ai (a := i) (b := 1) rfl rfl (by omega)) ?_
          refine va_sld hx hb hX hbl hbA wo.2.2 (vp_in_nI (by omega) (by omega)) dL_law_113 ?_
          refine tope (y := xs (i + 1)) (by rw [nI_clamp (by omega)]) ?_
          refine lv_if_eq (tgt := 121) hx hb dL_law_114 (by decide) (fun _ => ?_) (fun h => absurd hzb h)
          refine lv_iconst (v := 0) hx hb dL_law_121 (by decide) ?_
          refine call_V (k := 0) (As := [.int 0]) (rest := []) (fun X => X ++ mw G am f kf (nI n)) (Fr_l _) cx (c_X6_fed l G ah ak ad g (nI n) (fun i => some (ka i 12)) (kw G ka gs) 0 (Or.inl rfl)) fx_X6_fed m_292 m_293 m_294 ⟨by decide, by decide⟩ wo rfl rfl rfl rfl hl.1 rfl (Nat.le_of_ble_eq_true rfl) dL_law_122 ⟨Nat.le_of_ble_eq_true rfl, Nat.le_of_ble_eq_true rfl⟩ (fun v W1 H locs hp wo => ?_)
          obtain ⟨rfl, rfl⟩ := hp
          refine nrm_i ?_
          refine W.cs (cells' := 600000) (slots' := 7302250) rfl rfl ?_
          refine lv_aload_n hx hb dL_law_125 rfl (lv_at hl 3 rfl) ?_
          refine lv_aload_n hx hb dL_law_126 rfl (lv_at hl 1 rfl) ?_
          refine lv_iload_n hx hb dL_law_127 rfl (lv_at hl 0 rfl) ?_
          refine lv_iconst (v := 1) hx hb dL_law_128 (by decide) ?_
          refine lv_iadd hx hb dL_law_129 ?_
          refine tope (y := nI (i + 1)) (ai (a := i) (b := 1) rfl rfl (by omega)) ?_
          refine va_sld hx hb hX hbl hbA wo.2.2 (vp_in_nI (by omega) (by omega)) dL_law_130 ?_
          refine tope (y := xs (i + 1)) (by rw [nI_clamp (by omega)]) ?_
          refine lv_if_eq (tgt := 138) hx hb dL_law_131 (by decide) (fun _ => ?_) (fun h => absurd hzb h)
          refine lv_iconst (v := 0) hx hb dL_law_138 (by decide) ?_
          refine call_V (k := 0) (As := [.int 0]) (rest := [.int ((m_X6_fed g 0).1)]) (fun X => tfr G ah ak (ad 12) (nI n) (fun i => some (ka i 12)) (kw G ka gs) (aw G ad ((m_X6_fed g 0).2)) ++ X) (Fr_r _) cx (c_X7_fed l G am f kf (nI n) 0) fx_X7_fed m_641 m_642 m_643 ⟨by decide, by decide⟩ wo rfl rfl rfl rfl hl.1 rfl (Nat.le_of_ble_eq_true rfl) dL_law_139 ⟨Nat.le_of_ble_eq_true rfl, Nat.le_of_ble_eq_true rfl⟩ (fun v W1 H locs hp wo => ?_)
          obtain ⟨rfl, rfl⟩ := hp
          refine nrm_i ?_
          refine W.cs (cells' := 600000) (slots' := 7302250) rfl rfl ?_
          refine lv_icmp_eq (tgt := 545) hx hb dL_law_142 (by decide) (fun _ => ?_) (fun h => absurd (Q_fed hR (x := 0) (Or.inl rfl)).1 h)
          exact tail n _ _ gs kf _ _ _ hn8 (Q_fed hR (x := 0) (Or.inl rfl)).2 hks hbs wo hl
        · skip
          refine lv_aload_n hx hb dL_law_108 rfl (lv_at hl 2 rfl) ?_
          refine lv_aload_n hx hb dL_law_109 rfl (lv_at hl 1 rfl) ?_
          refine lv_iload_n hx hb dL_law_110 rfl (lv_at hl 0 rfl) ?_
          refine lv_iconst (v := 1) hx hb dL_law_111 (by decide) ?_
          refine lv_iadd hx hb dL_law_112 ?_
          refine tope (y := nI (i + 1)) (ai (a := i) (b := 1) rfl rfl (by omega)) ?_
          refine va_sld hx hb hX hbl hbA wo.2.2 (vp_in_nI (by omega) (by omega)) dL_law_113 ?_
          refine tope (y := xs (i + 1)) (by rw [nI_clamp (by omega)]) ?_
          refine lv_if_eq (tgt := 121) hx hb dL_law_114 (by decide) (fun h => absurd h hzb) (fun _ => ?_)
          refine lv_iconst (v := 1) hx hb dL_law_117 (by decide) ?_
          refine lv_goto (tgt := 122) hx hb dL_law_118 (by decide) ?_
          refine call_V (k := 0) (As := [.int 1]) (rest := []) (fun X => X ++ mw G am f kf (nI n)) (Fr_l _) cx (c_X6_fed l G ah ak ad g (nI n) (fun i => some (ka i 12)) (kw G ka gs) 1 (Or.inr rfl)) fx_X6_fed m_292 m_293 m_294 ⟨by decide, by decide⟩ wo rfl rfl rfl rfl hl.1 rfl (Nat.le_of_ble_eq_true rfl) dL_law_122 ⟨Nat.le_of_ble_eq_true rfl, Nat.le_of_ble_eq_true rfl⟩ (fun v W1 H locs hp wo => ?_)
          obtain ⟨rfl, rfl⟩ := hp
          refine nrm_i ?_
          refine W.cs (cells' := 600000) (slots' := 7302250) rfl rfl ?_
          refine lv_aload_n hx hb dL_law_125 rfl (lv_at hl 3 rfl) ?_
          refine lv_aload_n hx hb dL_law_126 rfl (lv_at hl 1 rfl) ?_
          refine lv_iload_n hx hb dL_law_127 rfl (lv_at hl 0 rfl) ?_
          refine lv_iconst (v := 1) hx hb dL_law_128 (by decide) ?_
          refine lv_iadd hx hb dL_law_129 ?_
          refine tope (y := nI (i + 1)) (ai (a := i) (b := 1) rfl rfl (by omega)) ?_
          refine va_sld hx hb hX hbl hbA wo.2.2 (vp_in_nI (by omega) (by omega)) dL_law_130 ?_
          refine tope (y := xs (i + 1)) (by rw [nI_clamp (by omega)]) ?_
          refine lv_if_eq (tgt := 138) hx hb dL_law_131 (by decide) (fun h => absurd h hzb) (fun _ => ?_)
          refine lv_iconst (v := 1) hx hb dL_law_134 (by decide) ?_
          refine lv_goto (tgt := 139) hx hb dL_law_135 (by decide) ?_
          refine call_V (k := 0) (As := [.int 1]) (rest := [.int ((m_X6_fed g 1).1)]) (fun X => tfr G ah ak (ad 12) (nI n) (fun i => some (ka i 12)) (kw G ka gs) (aw G ad ((m_X6_fed g 1).2)) ++ X) (Fr_r _) cx (c_X7_fed l G am f kf (nI n) 1) fx_X7_fed m_641 m_642 m_643 ⟨by decide, by decide⟩ wo rfl rfl rfl rfl hl.1 rfl (Nat.le_of_ble_eq_true rfl) dL_law_139 ⟨Nat.le_of_ble_eq_true rfl, Nat.le_of_ble_eq_true rfl⟩ (fun v W1 H locs hp wo => ?_)
          obtain ⟨rfl, rfl⟩ := hp
          refine nrm_i ?_
          refine W.cs (cells' := 600000) (slots' := 7302250) rfl rfl ?_
          refine lv_icmp_eq (tgt := 545) hx hb dL_law_142 (by decide) (fun _ => ?_) (fun h => absurd (Q_fed hR (x := 1) (Or.inr rfl)).1 h)
          exact tail n _ _ gs kf _ _ _ hn8 (Q_fed hR (x := 1) (Or.inr rfl)).2 hks hbs wo hl
      by_cases c1 : xs i &&& 15 = 1
      · skip
        refine lv_tableIn (off := 115) (tgt := 147) hx hb dL_law_32 (by rw [c1]; decide) (by rw [c1]; decide) (by rw [c1]; decide) (by decide) ?_
        refine lv_aload_n hx hb dL_law_147 rfl (lv_at hl 2 rfl) ?_
        refine lv_aload_n hx hb dL_law_148 rfl (lv_at hl 1 rfl) ?_
        refine lv_iload_n hx hb dL_law_149 rfl (lv_at hl 0 rfl) ?_
        refine lv_iconst (v := 1) hx hb dL_law_150 (by decide) ?_
        refine lv_iadd hx hb dL_law_151 ?_
        refine tope (y := nI (i + 1)) (ai (a := i) (b := 1) rfl rfl (by omega)) ?_
        refine va_sld hx hb hX hbl hbA wo.2.2 (vp_in_nI (by omega) (by omega)) dL_law_152 ?_
        refine tope (y := xs (i + 1)) (by rw [nI_clamp (by omega)]) ?_
        refine call_V (k := 0) (As := [.int (xs (i + 1))]) (rest := []) (fun X => X ++ mw G am f kf (nI n)) (Fr_l _) cx (c_X6_limit l G ah ak ad g (nI n) (fun i => some (ka i 12)) (kw G ka gs) (xs (i + 1))) fx_X6_limit m_299 m_300 m_301 ⟨by decide, by decide⟩ wo rfl rfl rfl rfl hl.1 rfl (Nat.le_of_ble_eq_true rfl) dL_law_153 ⟨Nat.le_of_ble_eq_true rfl, Nat.le_of_ble_eq_true rfl⟩ (fun v W1 H locs hp wo => ?_)
        obtain ⟨rfl, rfl⟩ := hp
        refine nrm_i ?_
        refine W.cs (cells' := 600000) (slots' := 7302250) rfl rfl ?_
        refine lv_aload_n hx hb dL_law_156 rfl (lv_at hl 3 rfl) ?_
        refine lv_aload_n hx hb dL_law_157 rfl (lv_at hl 1 rfl) ?_
        refine lv_iload_n hx hb dL_law_158 rfl (lv_at hl 0 rfl) ?_
        refine lv_iconst (v := 1) hx hb dL_law_159 (by decide) ?_
        refine lv_iadd hx hb dL_law_160 ?_
        refine tope (y := nI (i + 1)) (ai (a := i) (b := 1) rfl rfl (by omega)) ?_
        refine va_sld hx hb hX hbl hbA wo.2.2 (vp_in_nI (by omega) (by omega)) dL_law_161 ?_
        refine tope (y := xs (i + 1)) (by rw [nI_clamp (by omega)]) ?_
        refine call_V (k := 0) (As := [.int (xs (i + 1))]) (rest := [.int ((m_X6_limit g (xs (i + 1))).1)]) (fun X => tfr G ah ak (ad 12) (nI n) (fun i => some (ka i 12)) (kw G ka gs) (aw G ad ((m_X6_limit g (xs (i + 1))).2)) ++ X) (Fr_r _) cx (c_X7_limit l G am f kf (nI n) (xs (i + 1))) fx_X7_limit m_645 m_646 m_647 ⟨by decide, by decide⟩ wo rfl rfl rfl rfl hl.1 rfl (Nat.le_of_ble_eq_true rfl) dL_law_162 ⟨Nat.le_of_ble_eq_true rfl, Nat.le_of_ble_eq_true rfl⟩ (fun v W1 H locs hp wo => ?_)
        obtain ⟨rfl, rfl⟩ := hp
        refine nrm_i ?_
        refine W.cs (cells' := 600000) (slots' := 7302250) rfl rfl ?_
        refine lv_icmp_eq (tgt := 545) hx hb dL_law_165 (by decide) (fun _ => ?_) (fun h => absurd (Q_limit hR (xs (i + 1))).1 h)
        exact tail n _ _ gs kf _ _ _ hn8 (Q_limit hR (xs (i + 1))).2 hks hbs wo hl
      by_cases c2 : xs i &&& 15 = 2
      · skip
        refine lv_tableIn (off := 138) (tgt := 170) hx hb dL_law_32 (by rw [c2]; decide) (by rw [c2]; decide) (by rw [c2]; decide) (by decide) ?_
        by_cases hzb : xs (i + 2) = 0
        · skip
          refine lv_aload_n hx hb dL_law_170 rfl (lv_at hl 2 rfl) ?_
          refine lv_aload_n hx hb dL_law_171 rfl (lv_at hl 1 rfl) ?_
          refine lv_iload_n hx hb dL_law_172 rfl (lv_at hl 0 rfl) ?_
          refine lv_iconst (v := 1) hx hb dL_law_173 (by decide) ?_
          refine lv_iadd hx hb dL_law_174 ?_
          refine tope (y := nI (i + 1)) (ai (a := i) (b := 1) rfl rfl (by omega)) ?_
          refine va_sld hx hb hX hbl hbA wo.2.2 (vp_in_nI (by omega) (by omega)) dL_law_175 ?_
          refine tope (y := xs (i + 1)) (by rw [nI_clamp (by omega)]) ?_
          refine lv_aload_n hx hb dL_law_176 rfl (lv_at hl 1 rfl) ?_
          refine lv_iload_n hx hb dL_law_177 rfl (lv_at hl 0 rfl) ?_
          refine lv_iconst (v := 2) hx hb dL_law_178 (by decide) ?_
          refine lv_iadd hx hb dL_law_179 ?_
          refine tope (y := nI (i + 2)) (ai (a := i) (b := 2) rfl rfl (by omega)) ?_
          refine va_sld hx hb hX hbl hbA wo.2.2 (vp_in_nI (by omega) (by omega)) dL_law_180 ?_
          refine tope (y := xs (i + 2)) (by rw [nI_clamp (by omega)]) ?_
          refine lv_if_eq (tgt := 188) hx hb dL_law_181 (by decide) (fun _ => ?_) (fun h => absurd hzb h)
          refine lv_iconst (v := 0) hx hb dL_law_188 (by decide) ?_
          refine call_V (k := 0) (As := [.int (xs (i + 1)), .int 0]) (rest := []) (fun X => X ++ mw G am f kf (nI n)) (Fr_l _) cx (c_X6_blow l G ah ak ad g (nI n) (fun i => some (ka i 12)) (kw G ka gs) (xs (i + 1)) 0 (Or.inl rfl)) fx_X6_blow m_306 m_307 m_308 ⟨by decide, by decide⟩ wo rfl rfl rfl rfl hl.1 rfl (Nat.le_of_ble_eq_true rfl) dL_law_189 ⟨Nat.le_of_ble_eq_true rfl, Nat.le_of_ble_eq_true rfl⟩ (fun v W1 H locs hp wo => ?_)
          obtain ⟨rfl, rfl⟩ := hp
          refine nrm_i ?_
          refine W.cs (cells' := 600000) (slots' := 7302250) rfl rfl ?_
          refine lv_aload_n hx hb dL_law_192 rfl (lv_at hl 3 rfl) ?_
          refine lv_aload_n hx hb dL_law_193 rfl (lv_at hl 1 rfl) ?_
          refine lv_iload_n hx hb dL_law_194 rfl (lv_at hl 0 rfl) ?_
          refine lv_iconst (v := 1) hx hb dL_law_195 (by decide) ?_
          refine lv_iadd hx hb dL_law_196 ?_
          refine tope (y := nI (i + 1)) (ai (a := i) (b := 1) rfl rfl (by omega)) ?_
          refine va_sld hx hb hX hbl hbA wo.2.2 (vp_in_nI (by omega) (by omega)) dL_law_197 ?_
          refine tope (y := xs (i + 1)) (by rw [nI_clamp (by omega)]) ?_
          refine lv_aload_n hx hb dL_law_198 rfl (lv_at hl 1 rfl) ?_
          refine lv_iload_n hx hb dL_law_199 rfl (lv_at hl 0 rfl) ?_
          refine lv_iconst (v := 2) hx hb dL_law_200 (by decide) ?_
          refine lv_iadd hx hb dL_law_201 ?_
          refine tope (y := nI (i + 2)) (ai (a := i) (b := 2) rfl rfl (by omega)) ?_
          refine va_sld hx hb hX hbl hbA wo.2.2 (vp_in_nI (by omega) (by omega)) dL_law_202 ?_
          refine tope (y := xs (i + 2)) (by rw [nI_clamp (by omega)]) ?_
          refine lv_if_eq (tgt := 210) hx hb dL_law_203 (by decide) (fun _ => ?_) (fun h => absurd hzb h)
          refine lv_iconst (v := 0) hx hb dL_law_210 (by decide) ?_
          refine call_V (k := 0) (As := [.int (xs (i + 1)), .int 0]) (rest := [.int ((m_X6_blow g (xs (i + 1)) 0).1)]) (fun X => tfr G ah ak (ad 12) (nI n) (fun i => some (ka i 12)) (kw G ka gs) (aw G ad ((m_X6_blow g (xs (i + 1)) 0).2)) ++ X) (Fr_r _) cx (c_X7_blow l G am f kf (nI n) (xs (i + 1)) 0) fx_X7_blow m_652 m_653 m_654 ⟨by decide, by decide⟩ wo rfl rfl rfl rfl hl.1 rfl (Nat.le_of_ble_eq_true rfl) dL_law_211 ⟨Nat.le_of_ble_eq_true rfl, Nat.le_of_ble_eq_true rfl⟩ (fun v W1 H locs hp wo => ?_)
          obtain ⟨rfl, rfl⟩ := hp
          refine nrm_i ?_
          refine W.cs (cells' := 600000) (slots' := 7302250) rfl rfl ?_
          refine lv_icmp_eq (tgt := 545) hx hb dL_law_214 (by decide) (fun _ => ?_) (fun h => absurd (Q_blow hR (xs (i + 1)) (y := 0) (Or.inl rfl)).1 h)
          exact tail n _ _ gs kf _ _ _ hn8 (Q_blow hR (xs (i + 1)) (y := 0) (Or.inl rfl)).2 hks hbs wo hl
        · skip
          refine lv_aload_n hx hb dL_law_170 rfl (lv_at hl 2 rfl) ?_
          refine lv_aload_n hx hb dL_law_171 rfl (lv_at hl 1 rfl) ?_
          refine lv_iload_n hx hb dL_law_172 rfl (lv_at hl 0 rfl) ?_
          refine lv_iconst (v := 1) hx hb dL_law_173 (by decide) ?_
          refine lv_iadd hx hb dL_law_174 ?_
          refine tope (y := nI (i + 1)) (ai (a := i) (b := 1) rfl rfl (by omega)) ?_
          refine va_sld hx hb hX hbl hbA wo.2.2 (vp_in_nI (by omega) (by omega)) dL_law_175 ?_
          refine tope (y := xs (i + 1)) (by rw [nI_clamp (by omega)]) ?_
          refine lv_aload_n hx hb dL_law_176 rfl (lv_at hl 1 rfl) ?_
          refine lv_iload_n hx hb dL_law_177 rfl (lv_at hl 0 rfl) ?_
          refine lv_iconst (v := 2) hx hb dL_law_178 (by decide) ?_
          refine lv_iadd hx hb dL_law_179 ?_
          refine tope (y := nI (i + 2)) (ai (a := i) (b := 2) rfl rfl (by omega)) ?_
          refine va_sld hx hb hX hbl hbA wo.2.2 (vp_in_nI (by omega) (by omega)) dL_law_180 ?_
          refine tope (y := xs (i + 2)) (by rw [nI_clamp (by omega)]) ?_
          refine lv_if_eq (tgt := 188) hx hb dL_law_181 (by decide) (fun h => absurd h hzb) (fun _ => ?_)
          refine lv_iconst (v := 1) hx hb dL_law_184 (by decide) ?_
          refine lv_goto (tgt := 189) hx hb dL_law_185 (by decide) ?_
          refine call_V (k := 0) (As := [.int (xs (i + 1)), .int 1]) (rest := []) (fun X => X ++ mw G am f kf (nI n)) (Fr_l _) cx (c_X6_blow l G ah ak ad g (nI n) (fun i => some (ka i 12)) (kw G ka gs) (xs (i + 1)) 1 (Or.inr rfl)) fx_X6_blow m_306 m_307 m_308 ⟨by decide, by decide⟩ wo rfl rfl rfl rfl hl.1 rfl (Nat.le_of_ble_eq_true rfl) dL_law_189 ⟨Nat.le_of_ble_eq_true rfl, Nat.le_of_ble_eq_true rfl⟩ (fun v W1 H locs hp wo => ?_)
          obtain ⟨rfl, rfl⟩ := hp
          refine nrm_i ?_
          refine W.cs (cells' := 600000) (slots' := 7302250) rfl rfl ?_
          refine lv_aload_n hx hb dL_law_192 rfl (lv_at hl 3 rfl) ?_
          refine lv_aload_n hx hb dL_law_193 rfl (lv_at hl 1 rfl) ?_
          refine lv_iload_n hx hb dL_law_194 rfl (lv_at hl 0 rfl) ?_
          refine lv_iconst (v := 1) hx hb dL_law_195 (by decide) ?_
          refine lv_iadd hx hb dL_law_196 ?_
          refine tope (y := nI (i + 1)) (ai (a := i) (b := 1) rfl rfl (by omega)) ?_
          refine va_sld hx hb hX hbl hbA wo.2.2 (vp_in_nI (by omega) (by omega)) dL_law_197 ?_
          refine tope (y := xs (i + 1)) (by rw [nI_clamp (by omega)]) ?_
          refine lv_aload_n hx hb dL_law_198 rfl (lv_at hl 1 rfl) ?_
          refine lv_iload_n hx hb dL_law_199 rfl (lv_at hl 0 rfl) ?_
          refine lv_iconst (v := 2) hx hb dL_law_200 (by decide) ?_
          refine lv_iadd hx hb dL_law_201 ?_
          refine tope (y := nI (i + 2)) (ai (a := i) (b := 2) rfl rfl (by omega)) ?_
          refine va_sld hx hb hX hbl hbA wo.2.2 (vp_in_nI (by omega) (by omega)) dL_law_202 ?_
          refine tope (y := xs (i + 2)) (by rw [nI_clamp (by omega)]) ?_
          refine lv_if_eq (tgt := 210) hx hb dL_law_203 (by decide) (fun h => absurd h hzb) (fun _ => ?_)
          refine lv_iconst (v := 1) hx hb dL_law_206 (by decide) ?_
          refine lv_goto (tgt := 211) hx hb dL_law_207 (by decide) ?_
          refine call_V (k := 0) (As := [.int (xs (i + 1)), .int 1]) (rest := [.int ((m_X6_blow g (xs (i + 1)) 1).1)]) (fun X => tfr G ah ak (ad 12) (nI n) (fun i => some (ka i 12)) (kw G ka gs) (aw G ad ((m_X6_blow g (xs (i + 1)) 1).2)) ++ X) (Fr_r _) cx (c_X7_blow l G am f kf (nI n) (xs (i + 1)) 1) fx_X7_blow m_652 m_653 m_654 ⟨by decide, by decide⟩ wo rfl rfl rfl rfl hl.1 rfl (Nat.le_of_ble_eq_true rfl) dL_law_211 ⟨Nat.le_of_ble_eq_true rfl, Nat.le_of_ble_eq_true rfl⟩ (fun v W1 H locs hp wo => ?_)
          obtain ⟨rfl, rfl⟩ := hp
          refine nrm_i ?_
          refine W.cs (cells' := 600000) (slots' := 7302250) rfl rfl ?_
          refine lv_icmp_eq (tgt := 545) hx hb dL_law_214 (by decide) (fun _ => ?_) (fun h => absurd (Q_blow hR (xs (i + 1)) (y := 1) (Or.inr rfl)).1 h)
          exact tail n _ _ gs kf _ _ _ hn8 (Q_blow hR (xs (i + 1)) (y := 1) (Or.inr rfl)).2 hks hbs wo hl
      by_cases c3 : xs i &&& 15 = 3
      · skip
        refine lv_tableIn (off := 187) (tgt := 219) hx hb dL_law_32 (by rw [c3]; decide) (by rw [c3]; decide) (by rw [c3]; decide) (by decide) ?_
        refine lv_aload_n hx hb dL_law_219 rfl (lv_at hl 2 rfl) ?_
        refine lv_aload_n hx hb dL_law_220 rfl (lv_at hl 1 rfl) ?_
        refine lv_iload_n hx hb dL_law_221 rfl (lv_at hl 0 rfl) ?_
        refine lv_iconst (v := 1) hx hb dL_law_222 (by decide) ?_
        refine lv_iadd hx hb dL_law_223 ?_
        refine tope (y := nI (i + 1)) (ai (a := i) (b := 1) rfl rfl (by omega)) ?_
        refine va_sld hx hb hX hbl hbA wo.2.2 (vp_in_nI (by omega) (by omega)) dL_law_224 ?_
        refine tope (y := xs (i + 1)) (by rw [nI_clamp (by omega)]) ?_
        refine lv_aload_n hx hb dL_law_225 rfl (lv_at hl 1 rfl) ?_
        refine lv_iload_n hx hb dL_law_226 rfl (lv_at hl 0 rfl) ?_
        refine lv_iconst (v := 2) hx hb dL_law_227 (by decide) ?_
        refine lv_iadd hx hb dL_law_228 ?_
        refine tope (y := nI (i + 2)) (ai (a := i) (b := 2) rfl rfl (by omega)) ?_
        refine va_sld hx hb hX hbl hbA wo.2.2 (vp_in_nI (by omega) (by omega)) dL_law_229 ?_
        refine tope (y := xs (i + 2)) (by rw [nI_clamp (by omega)]) ?_
        refine call_V (k := 0) (As := [.int (xs (i + 1)), .int (xs (i + 2))]) (rest := []) (fun X => X ++ mw G am f kf (nI n)) (Fr_l _) cx (c_X6_cold l G ah ak ad g (nI n) (fun i => some (ka i 12)) (kw G ka gs) (xs (i + 1)) (xs (i + 2))) fx_X6_cold m_319 m_320 m_321 ⟨by decide, by decide⟩ wo rfl rfl rfl rfl hl.1 rfl (Nat.le_of_ble_eq_true rfl) dL_law_230 ⟨Nat.le_of_ble_eq_true rfl, Nat.le_of_ble_eq_true rfl⟩ (fun v W1 H locs hp wo => ?_)
        obtain ⟨rfl, rfl⟩ := hp
        refine nrm_i ?_
        refine W.cs (cells' := 600000) (slots' := 7302250) rfl rfl ?_
        refine lv_aload_n hx hb dL_law_233 rfl (lv_at hl 3 rfl) ?_
        refine lv_aload_n hx hb dL_law_234 rfl (lv_at hl 1 rfl) ?_
        refine lv_iload_n hx hb dL_law_235 rfl (lv_at hl 0 rfl) ?_
        refine lv_iconst (v := 1) hx hb dL_law_236 (by decide) ?_
        refine lv_iadd hx hb dL_law_237 ?_
        refine tope (y := nI (i + 1)) (ai (a := i) (b := 1) rfl rfl (by omega)) ?_
        refine va_sld hx hb hX hbl hbA wo.2.2 (vp_in_nI (by omega) (by omega)) dL_law_238 ?_
        refine tope (y := xs (i + 1)) (by rw [nI_clamp (by omega)]) ?_
        refine lv_aload_n hx hb dL_law_239 rfl (lv_at hl 1 rfl) ?_
        refine lv_iload_n hx hb dL_law_240 rfl (lv_at hl 0 rfl) ?_
        refine lv_iconst (v := 2) hx hb dL_law_241 (by decide) ?_
        refine lv_iadd hx hb dL_law_242 ?_
        refine tope (y := nI (i + 2)) (ai (a := i) (b := 2) rfl rfl (by omega)) ?_
        refine va_sld hx hb hX hbl hbA wo.2.2 (vp_in_nI (by omega) (by omega)) dL_law_243 ?_
        refine tope (y := xs (i + 2)) (by rw [nI_clamp (by omega)]) ?_
        refine call_V (k := 0) (As := [.int (xs (i + 1)), .int (xs (i + 2))]) (rest := [.int ((m_X6_cold g (xs (i + 1)) (xs (i + 2))).1)]) (fun X => tfr G ah ak (ad 12) (nI n) (fun i => some (ka i 12)) (kw G ka gs) (aw G ad ((m_X6_cold g (xs (i + 1)) (xs (i + 2))).2)) ++ X) (Fr_r _) cx (c_X7_cold l G am f kf (nI n) (xs (i + 1)) (xs (i + 2)) (Q_coldz hR)) fx_X7_cold m_660 m_661 m_662 ⟨by decide, by decide⟩ wo rfl rfl rfl rfl hl.1 rfl (Nat.le_of_ble_eq_true rfl) dL_law_244 ⟨Nat.le_of_ble_eq_true rfl, Nat.le_of_ble_eq_true rfl⟩ (fun v W1 H locs hp wo => ?_)
        obtain ⟨rfl, rfl⟩ := hp
        refine nrm_i ?_
        refine W.cs (cells' := 600000) (slots' := 7302250) rfl rfl ?_
        refine lv_icmp_eq (tgt := 545) hx hb dL_law_247 (by decide) (fun _ => ?_) (fun h => absurd (Q_cold hR (xs (i + 1)) (xs (i + 2))).1 h)
        exact tail n _ _ gs kf _ _ _ hn8 (Q_cold hR (xs (i + 1)) (xs (i + 2))).2 hks hbs wo hl
      by_cases c4 : xs i &&& 15 = 4
      · skip
        refine lv_tableIn (off := 220) (tgt := 252) hx hb dL_law_32 (by rw [c4]; decide) (by rw [c4]; decide) (by rw [c4]; decide) (by decide) ?_
        refine lv_aload_n hx hb dL_law_252 rfl (lv_at hl 2 rfl) ?_
        refine lv_aload_n hx hb dL_law_253 rfl (lv_at hl 1 rfl) ?_
        refine lv_iload_n hx hb dL_law_254 rfl (lv_at hl 0 rfl) ?_
        refine lv_iconst (v := 1) hx hb dL_law_255 (by decide) ?_
        refine lv_iadd hx hb dL_law_256 ?_
        refine tope (y := nI (i + 1)) (ai (a := i) (b := 1) rfl rfl (by omega)) ?_
        refine va_sld hx hb hX hbl hbA wo.2.2 (vp_in_nI (by omega) (by omega)) dL_law_257 ?_
        refine tope (y := xs (i + 1)) (by rw [nI_clamp (by omega)]) ?_
        refine lv_aload_n hx hb dL_law_258 rfl (lv_at hl 1 rfl) ?_
        refine lv_iload_n hx hb dL_law_259 rfl (lv_at hl 0 rfl) ?_
        refine lv_iconst (v := 2) hx hb dL_law_260 (by decide) ?_
        refine lv_iadd hx hb dL_law_261 ?_
        refine tope (y := nI (i + 2)) (ai (a := i) (b := 2) rfl rfl (by omega)) ?_
        refine va_sld hx hb hX hbl hbA wo.2.2 (vp_in_nI (by omega) (by omega)) dL_law_262 ?_
        refine tope (y := xs (i + 2)) (by rw [nI_clamp (by omega)]) ?_
        refine lv_aload_n hx hb dL_law_263 rfl (lv_at hl 1 rfl) ?_
        refine lv_iload_n hx hb dL_law_264 rfl (lv_at hl 0 rfl) ?_
        refine lv_iconst (v := 3) hx hb dL_law_265 (by decide) ?_
        refine lv_iadd hx hb dL_law_266 ?_
        refine tope (y := nI (i + 3)) (ai (a := i) (b := 3) rfl rfl (by omega)) ?_
        refine va_sld hx hb hX hbl hbA wo.2.2 (vp_in_nI (by omega) (by omega)) dL_law_267 ?_
        refine tope (y := xs (i + 3)) (by rw [nI_clamp (by omega)]) ?_
        refine call_V (k := 0) (As := [.int (xs (i + 1)), .int (xs (i + 2)), .int (xs (i + 3))]) (rest := []) (fun X => X ++ mw G am f kf (nI n)) (Fr_l _) cx (c_X6_order l G ah ak ad g (nI n) (fun i => some (ka i 12)) (kw G ka gs) (xs (i + 1)) (xs (i + 2)) (xs (i + 3))) fx_X6_order m_328 m_329 m_330 ⟨by decide, by decide⟩ wo rfl rfl rfl rfl hl.1 rfl (Nat.le_of_ble_eq_true rfl) dL_law_268 ⟨Nat.le_of_ble_eq_true rfl, Nat.le_of_ble_eq_true rfl⟩ (fun v W1 H locs hp wo => ?_)
        obtain ⟨rfl, rfl⟩ := hp
        refine nrm_i ?_
        refine W.cs (cells' := 600000) (slots' := 7302250) rfl rfl ?_
        refine lv_aload_n hx hb dL_law_271 rfl (lv_at hl 3 rfl) ?_
        refine lv_aload_n hx hb dL_law_272 rfl (lv_at hl 1 rfl) ?_
        refine lv_iload_n hx hb dL_law_273 rfl (lv_at hl 0 rfl) ?_
        refine lv_iconst (v := 1) hx hb dL_law_274 (by decide) ?_
        refine lv_iadd hx hb dL_law_275 ?_
        refine tope (y := nI (i + 1)) (ai (a := i) (b := 1) rfl rfl (by omega)) ?_
        refine va_sld hx hb hX hbl hbA wo.2.2 (vp_in_nI (by omega) (by omega)) dL_law_276 ?_
        refine tope (y := xs (i + 1)) (by rw [nI_clamp (by omega)]) ?_
        refine lv_aload_n hx hb dL_law_277 rfl (lv_at hl 1 rfl) ?_
        refine lv_iload_n hx hb dL_law_278 rfl (lv_at hl 0 rfl) ?_
        refine lv_iconst (v := 2) hx hb dL_law_279 (by decide) ?_
        refine lv_iadd hx hb dL_law_280 ?_
        refine tope (y := nI (i + 2)) (ai (a := i) (b := 2) rfl rfl (by omega)) ?_
        refine va_sld hx hb hX hbl hbA wo.2.2 (vp_in_nI (by omega) (by omega)) dL_law_281 ?_
        refine tope (y := xs (i + 2)) (by rw [nI_clamp (by omega)]) ?_
        refine lv_aload_n hx hb dL_law_282 rfl (lv_at hl 1 rfl) ?_
        refine lv_iload_n hx hb dL_law_283 rfl (lv_at hl 0 rfl) ?_
        refine lv_iconst (v := 3) hx hb dL_law_284 (by decide) ?_
        refine lv_iadd hx hb dL_law_285 ?_
        refine tope (y := nI (i + 3)) (ai (a := i) (b := 3) rfl rfl (by omega)) ?_
        refine va_sld hx hb hX hbl hbA wo.2.2 (vp_in_nI (by omega) (by omega)) dL_law_286 ?_
        refine tope (y := xs (i + 3)) (by rw [nI_clamp (by omega)]) ?_
        refine call_V (k := 0) (As := [.int (xs (i + 1)), .int (xs (i + 2)), .int (xs (i + 3))]) (rest := [.int ((m_X6_order g (xs (i + 1)) (xs (i + 2)) (xs (i + 3))).1)]) (fun X => tfr G ah ak (ad 12) (nI n) (fun i => some (ka i 12)) (kw G ka gs) (aw G ad ((m_X6_order g (xs (i + 1)) (xs (i + 2)) (xs (i + 3))).2)) ++ X) (Fr_r _) cx (c_X7_order l G am f kf (nI n) (xs (i + 1)) (xs (i + 2)) (xs (i + 3)) (Q_ordq hR)) fx_X7_order m_664 m_665 m_666 ⟨by decide, by decide⟩ wo rfl rfl rfl rfl hl.1 rfl (Nat.le_of_ble_eq_true rfl) dL_law_287 ⟨Nat.le_of_ble_eq_true rfl, Nat.le_of_ble_eq_true rfl⟩ (fun v W1 H locs hp wo => ?_)
        obtain ⟨rfl, rfl⟩ := hp
        refine nrm_i ?_
        refine W.cs (cells' := 600000) (slots' := 7302250) rfl rfl ?_
        refine lv_icmp_eq (tgt := 545) hx hb dL_law_290 (by decide) (fun _ => ?_) (fun h => absurd (Q_order hR (xs (i + 1)) (xs (i + 2)) (xs (i + 3))).1 h)
        exact tail n _ _ gs kf _ _ _ hn8 (Q_order hR (xs (i + 1)) (xs (i + 2)) (xs (i + 3))).2 hks hbs wo hl
      by_cases c5 : xs i &&& 15 = 5
      · skip
        refine lv_tableIn (off := 263) (tgt := 295) hx hb dL_law_32 (by rw [c5]; decide) (by rw [c5]; decide) (by rw [c5]; decide) (by decide) ?_
        refine lv_aload_n hx hb dL_law_295 rfl (lv_at hl 2 rfl) ?_
        refine lv_aload_n hx hb dL_law_296 rfl (lv_at hl 1 rfl) ?_
        refine lv_iload_n hx hb dL_law_297 rfl (lv_at hl 0 rfl) ?_
        refine lv_iconst (v := 1) hx hb dL_law_298 (by decide) ?_
        refine lv_iadd hx hb dL_law_299 ?_
        refine tope (y := nI (i + 1)) (ai (a := i) (b := 1) rfl rfl (by omega)) ?_
        refine va_sld hx hb hX hbl hbA wo.2.2 (vp_in_nI (by omega) (by omega)) dL_law_300 ?_
        refine tope (y := xs (i + 1)) (by rw [nI_clamp (by omega)]) ?_
        refine call_V (k := 0) (As := [.int (xs (i + 1))]) (rest := []) (fun X => X ++ mw G am f kf (nI n)) (Fr_l _) cx (c_X6_drop l G ah ak ad g (nI n) (fun i => some (ka i 12)) (kw G ka gs) (xs (i + 1))) fx_X6_drop m_340 m_341 m_342 ⟨by decide, by decide⟩ wo rfl rfl rfl rfl hl.1 rfl (Nat.le_of_ble_eq_true rfl) dL_law_301 ⟨Nat.le_of_ble_eq_true rfl, Nat.le_of_ble_eq_true rfl⟩ (fun v W1 H locs hp wo => ?_)
        obtain ⟨rfl, rfl⟩ := hp
        refine nrm_i ?_
        refine W.cs (cells' := 600000) (slots' := 7302250) rfl rfl ?_
        refine lv_aload_n hx hb dL_law_304 rfl (lv_at hl 3 rfl) ?_
        refine lv_aload_n hx hb dL_law_305 rfl (lv_at hl 1 rfl) ?_
        refine lv_iload_n hx hb dL_law_306 rfl (lv_at hl 0 rfl) ?_
        refine lv_iconst (v := 1) hx hb dL_law_307 (by decide) ?_
        refine lv_iadd hx hb dL_law_308 ?_
        refine tope (y := nI (i + 1)) (ai (a := i) (b := 1) rfl rfl (by omega)) ?_
        refine va_sld hx hb hX hbl hbA wo.2.2 (vp_in_nI (by omega) (by omega)) dL_law_309 ?_
        refine tope (y := xs (i + 1)) (by rw [nI_clamp (by omega)]) ?_
        refine call_V (k := 0) (As := [.int (xs (i + 1))]) (rest := [.int ((m_X6_drop g (xs (i + 1))).1)]) (fun X => tfr G ah ak (ad 12) (nI n) (fun i => some (ka i 12)) (kw G ka gs) (aw G ad ((m_X6_drop g (xs (i + 1))).2)) ++ X) (Fr_r _) cx (c_X7_drop l G am f kf (nI n) (xs (i + 1))) fx_X7_drop m_668 m_669 m_670 ⟨by decide, by decide⟩ wo rfl rfl rfl rfl hl.1 rfl (Nat.le_of_ble_eq_true rfl) dL_law_310 ⟨Nat.le_of_ble_eq_true rfl, Nat.le_of_ble_eq_true rfl⟩ (fun v W1 H locs hp wo => ?_)
        obtain ⟨rfl, rfl⟩ := hp
        refine nrm_i ?_
        refine W.cs (cells' := 600000) (slots' := 7302250) rfl rfl ?_
        refine lv_icmp_eq (tgt := 545) hx hb dL_law_313 (by decide) (fun _ => ?_) (fun h => absurd (Q_drop hR (xs (i + 1))).1 h)
        exact tail n _ _ gs kf _ _ _ hn8 (Q_drop hR (xs (i + 1))).2 hks hbs wo hl
      by_cases c6 : xs i &&& 15 = 6
      · skip
        refine lv_tableIn (off := 286) (tgt := 318) hx hb dL_law_32 (by rw [c6]; decide) (by rw [c6]; decide) (by rw [c6]; decide) (by decide) ?_
        refine lv_aload_n hx hb dL_law_318 rfl (lv_at hl 2 rfl) ?_
        refine lv_aload_n hx hb dL_law_319 rfl (lv_at hl 1 rfl) ?_
        refine lv_iload_n hx hb dL_law_320 rfl (lv_at hl 0 rfl) ?_
        refine lv_iconst (v := 1) hx hb dL_law_321 (by decide) ?_
        refine lv_iadd hx hb dL_law_322 ?_
        refine tope (y := nI (i + 1)) (ai (a := i) (b := 1) rfl rfl (by omega)) ?_
        refine va_sld hx hb hX hbl hbA wo.2.2 (vp_in_nI (by omega) (by omega)) dL_law_323 ?_
        refine tope (y := xs (i + 1)) (by rw [nI_clamp (by omega)]) ?_
        refine call_V (k := 0) (As := [.int (xs (i + 1))]) (rest := []) (fun X => X ++ mw G am f kf (nI n)) (Fr_l _) cx (c_X6_minutes l G ah ak ad g (nI n) (fun i => some (ka i 12)) (kw G ka gs) (xs (i + 1))) fx_X6_minutes m_344 m_345 m_346 ⟨by decide, by decide⟩ wo rfl rfl rfl rfl hl.1 rfl (Nat.le_of_ble_eq_true rfl) dL_law_324 ⟨Nat.le_of_ble_eq_true rfl, Nat.le_of_ble_eq_true rfl⟩ (fun v W1 H locs hp wo => ?_)
        obtain ⟨rfl, rfl⟩ := hp
        refine nrm_i ?_
        refine W.cs (cells' := 600000) (slots' := 7302250) rfl rfl ?_
        refine lv_aload_n hx hb dL_law_327 rfl (lv_at hl 3 rfl) ?_
        refine lv_aload_n hx hb dL_law_328 rfl (lv_at hl 1 rfl) ?_
        refine lv_iload_n hx hb dL_law_329 rfl (lv_at hl 0 rfl) ?_
        refine lv_iconst (v := 1) hx hb dL_law_330 (by decide) ?_
        refine lv_iadd hx hb dL_law_331 ?_
        refine tope (y := nI (i + 1)) (ai (a := i) (b := 1) rfl rfl (by omega)) ?_
        refine va_sld hx hb hX hbl hbA wo.2.2 (vp_in_nI (by omega) (by omega)) dL_law_332 ?_
        refine tope (y := xs (i + 1)) (by rw [nI_clamp (by omega)]) ?_
        refine call_V (k := 0) (As := [.int (xs (i + 1))]) (rest := [.int ((m_X6_minutes g (xs (i + 1))).1)]) (fun X => tfr G ah ak (ad 12) (nI n) (fun i => some (ka i 12)) (kw G ka gs) (aw G ad ((m_X6_minutes g (xs (i + 1))).2)) ++ X) (Fr_r _) cx (c_X7_minutes l G am f kf (nI n) (xs (i + 1)) (Q_minP hR)) fx_X7_minutes m_672 m_673 m_674 ⟨by decide, by decide⟩ wo rfl rfl rfl rfl hl.1 rfl (Nat.le_of_ble_eq_true rfl) dL_law_333 ⟨Nat.le_of_ble_eq_true rfl, Nat.le_of_ble_eq_true rfl⟩ (fun v W1 H locs hp wo => ?_)
        obtain ⟨rfl, rfl⟩ := hp
        refine nrm_i ?_
        refine W.cs (cells' := 600000) (slots' := 7302250) rfl rfl ?_
        refine lv_icmp_eq (tgt := 545) hx hb dL_law_336 (by decide) (fun _ => ?_) (fun h => absurd (Q_minutes hR (xs (i + 1))).1 h)
        exact tail n _ _ gs kf _ _ _ hn8 (Q_minutes hR (xs (i + 1))).2 hks hbs wo hl
      by_cases c7 : xs i &&& 15 = 7
      · skip
        refine lv_tableIn (off := 309) (tgt := 341) hx hb dL_law_32 (by rw [c7]; decide) (by rw [c7]; decide) (by rw [c7]; decide) (by decide) ?_
        refine lv_aload_n hx hb dL_law_341 rfl (lv_at hl 2 rfl) ?_
        refine lv_aload_n hx hb dL_law_342 rfl (lv_at hl 1 rfl) ?_
        refine lv_iload_n hx hb dL_law_343 rfl (lv_at hl 0 rfl) ?_
        refine lv_iconst (v := 1) hx hb dL_law_344 (by decide) ?_
        refine lv_iadd hx hb dL_law_345 ?_
        refine tope (y := nI (i + 1)) (ai (a := i) (b := 1) rfl rfl (by omega)) ?_
        refine va_sld hx hb hX hbl hbA wo.2.2 (vp_in_nI (by omega) (by omega)) dL_law_346 ?_
        refine tope (y := xs (i + 1)) (by rw [nI_clamp (by omega)]) ?_
        refine call_V (k := 0) (As := [.int (xs (i + 1))]) (rest := []) (fun X => X ++ mw G am f kf (nI n)) (Fr_l _) cx (c_X6_until l G ah ak ad g (nI n) (fun i => some (ka i 12)) (kw G ka gs) (xs (i + 1))) fx_X6_until m_520 m_521 m_522 ⟨by decide, by decide⟩ wo rfl rfl rfl rfl hl.1 rfl (Nat.le_of_ble_eq_true rfl) dL_law_347 ⟨Nat.le_of_ble_eq_true rfl, Nat.le_of_ble_eq_true rfl⟩ (fun v W1 H locs hp wo => ?_)
        obtain ⟨rfl, rfl⟩ := hp
        refine nrm_i ?_
        refine W.cs (cells' := 600000) (slots' := 7302250) rfl rfl ?_
        refine lv_aload_n hx hb dL_law_350 rfl (lv_at hl 3 rfl) ?_
        refine lv_aload_n hx hb dL_law_351 rfl (lv_at hl 1 rfl) ?_
        refine lv_iload_n hx hb dL_law_352 rfl (lv_at hl 0 rfl) ?_
        refine lv_iconst (v := 1) hx hb dL_law_353 (by decide) ?_
        refine lv_iadd hx hb dL_law_354 ?_
        refine tope (y := nI (i + 1)) (ai (a := i) (b := 1) rfl rfl (by omega)) ?_
        refine va_sld hx hb hX hbl hbA wo.2.2 (vp_in_nI (by omega) (by omega)) dL_law_355 ?_
        refine tope (y := xs (i + 1)) (by rw [nI_clamp (by omega)]) ?_
        refine call_V (k := 0) (As := [.int (xs (i + 1))]) (rest := [.int ((m_X6_until g (xs (i + 1))).1)]) (fun X => tfr G ah ak (ad 12) (nI n) (fun i => some (ka i 12)) (kw G ka gs) (aw G ad ((m_X6_until g (xs (i + 1))).2)) ++ X) (Fr_r _) cx (c_X7_until l G am f kf (nI n) (xs (i + 1)) (Q_minP hR)) fx_X7_until m_750 m_751 m_752 ⟨by decide, by decide⟩ wo rfl rfl rfl rfl hl.1 rfl (Nat.le_of_ble_eq_true rfl) dL_law_356 ⟨Nat.le_of_ble_eq_true rfl, Nat.le_of_ble_eq_true rfl⟩ (fun v W1 H locs hp wo => ?_)
        obtain ⟨rfl, rfl⟩ := hp
        refine nrm_i ?_
        refine W.cs (cells' := 600000) (slots' := 7302250) rfl rfl ?_
        refine lv_icmp_eq (tgt := 545) hx hb dL_law_359 (by decide) (fun _ => ?_) (fun h => absurd (Q_until hR (xs (i + 1))).1 h)
        exact tail n _ _ gs kf _ _ _ hn8 (Q_until hR (xs (i + 1))).2 hks hbs wo hl
      by_cases c8 : xs i &&& 15 = 8
      · skip
        refine lv_tableIn (off := 332) (tgt := 364) hx hb dL_law_32 (by rw [c8]; decide) (by rw [c8]; decide) (by rw [c8]; decide) (by decide) ?_
        refine lv_aload_n hx hb dL_law_364 rfl (lv_at hl 2 rfl) ?_
        refine lv_aload_n hx hb dL_law_365 rfl (lv_at hl 1 rfl) ?_
        refine lv_iload_n hx hb dL_law_366 rfl (lv_at hl 0 rfl) ?_
        refine lv_iconst (v := 1) hx hb dL_law_367 (by decide) ?_
        refine lv_iadd hx hb dL_law_368 ?_
        refine tope (y := nI (i + 1)) (ai (a := i) (b := 1) rfl rfl (by omega)) ?_
        refine va_sld hx hb hX hbl hbA wo.2.2 (vp_in_nI (by omega) (by omega)) dL_law_369 ?_
        refine tope (y := xs (i + 1)) (by rw [nI_clamp (by omega)]) ?_
        refine lv_aload_n hx hb dL_law_370 rfl (lv_at hl 1 rfl) ?_
        refine lv_iload_n hx hb dL_law_371 rfl (lv_at hl 0 rfl) ?_
        refine lv_iconst (v := 2) hx hb dL_law_372 (by decide) ?_
        refine lv_iadd hx hb dL_law_373 ?_
        refine tope (y := nI (i + 2)) (ai (a := i) (b := 2) rfl rfl (by omega)) ?_
        refine va_sld hx hb hX hbl hbA wo.2.2 (vp_in_nI (by omega) (by omega)) dL_law_374 ?_
        refine tope (y := xs (i + 2)) (by rw [nI_clamp (by omega)]) ?_
        refine call_V (k := 0) (As := [.int (xs (i + 1)), .int (xs (i + 2))]) (rest := []) (fun X => X ++ mw G am f kf (nI n)) (Fr_l _) cx (c_X6_crane l G ah ak ad g (nI n) (fun i => some (ka i 12)) (kw G ka gs) (xs (i + 1)) (xs (i + 2))) fx_X6_crane m_528 m_529 m_530 ⟨by decide, by decide⟩ wo rfl rfl rfl rfl hl.1 rfl (Nat.le_of_ble_eq_true rfl) dL_law_375 ⟨Nat.le_of_ble_eq_true rfl, Nat.le_of_ble_eq_true rfl⟩ (fun v W1 H locs hp wo => ?_)
        obtain ⟨rfl, rfl⟩ := hp
        refine nrm_i ?_
        refine W.cs (cells' := 600000) (slots' := 7302250) rfl rfl ?_
        refine lv_aload_n hx hb dL_law_378 rfl (lv_at hl 3 rfl) ?_
        refine lv_aload_n hx hb dL_law_379 rfl (lv_at hl 1 rfl) ?_
        refine lv_iload_n hx hb dL_law_380 rfl (lv_at hl 0 rfl) ?_
        refine lv_iconst (v := 1) hx hb dL_law_381 (by decide) ?_
        refine lv_iadd hx hb dL_law_382 ?_
        refine tope (y := nI (i + 1)) (ai (a := i) (b := 1) rfl rfl (by omega)) ?_
        refine va_sld hx hb hX hbl hbA wo.2.2 (vp_in_nI (by omega) (by omega)) dL_law_383 ?_
        refine tope (y := xs (i + 1)) (by rw [nI_clamp (by omega)]) ?_
        refine lv_aload_n hx hb dL_law_384 rfl (lv_at hl 1 rfl) ?_
        refine lv_iload_n hx hb dL_law_385 rfl (lv_at hl 0 rfl) ?_
        refine lv_iconst (v := 2) hx hb dL_law_386 (by decide) ?_
        refine lv_iadd hx hb dL_law_387 ?_
        refine tope (y := nI (i + 2)) (ai (a := i) (b := 2) rfl rfl (by omega)) ?_
        refine va_sld hx hb hX hbl hbA wo.2.2 (vp_in_nI (by omega) (by omega)) dL_law_388 ?_
        refine tope (y := xs (i + 2)) (by rw [nI_clamp (by omega)]) ?_
        refine call_V (k := 0) (As := [.int (xs (i + 1)), .int (xs (i + 2))]) (rest := [.int (m_X6_crane g (xs (i + 1)) (xs (i + 2)))]) (fun X => tfr G ah ak (ad 12) (nI n) (fun i => some (ka i 12)) (kw G ka gs) (aw G ad g) ++ X) (Fr_r _) cx (c_X7_crane l G am f kf (nI n) (xs (i + 1)) (xs (i + 2))) fx_X7_crane m_754 m_755 m_756 ⟨by decide, by decide⟩ wo rfl rfl rfl rfl hl.1 rfl (Nat.le_of_ble_eq_true rfl) dL_law_389 ⟨Nat.le_of_ble_eq_true rfl, Nat.le_of_ble_eq_true rfl⟩ (fun v W1 H locs hp wo => ?_)
        obtain ⟨rfl, rfl⟩ := hp
        refine nrm_i ?_
        refine W.cs (cells' := 600000) (slots' := 7302250) rfl rfl ?_
        refine lv_icmp_eq (tgt := 545) hx hb dL_law_392 (by decide) (fun _ => ?_) (fun h => absurd (Q_crane hR (xs (i + 1)) (xs (i + 2))) h)
        exact tail n g f gs kf _ _ _ hn8 hR hks hbs wo hl
      by_cases c9 : xs i &&& 15 = 9
      · skip
        refine lv_tableIn (off := 365) (tgt := 397) hx hb dL_law_32 (by rw [c9]; decide) (by rw [c9]; decide) (by rw [c9]; decide) (by decide) ?_
        refine lv_aload_n hx hb dL_law_397 rfl (lv_at hl 2 rfl) ?_
        refine lv_aload_n hx hb dL_law_398 rfl (lv_at hl 1 rfl) ?_
        refine lv_iload_n hx hb dL_law_399 rfl (lv_at hl 0 rfl) ?_
        refine lv_iconst (v := 1) hx hb dL_law_400 (by decide) ?_
        refine lv_iadd hx hb dL_law_401 ?_
        refine tope (y := nI (i + 1)) (ai (a := i) (b := 1) rfl rfl (by omega)) ?_
        refine va_sld hx hb hX hbl hbA wo.2.2 (vp_in_nI (by omega) (by omega)) dL_law_402 ?_
        refine tope (y := xs (i + 1)) (by rw [nI_clamp (by omega)]) ?_
        refine lv_aload_n hx hb dL_law_403 rfl (lv_at hl 1 rfl) ?_
        refine lv_iload_n hx hb dL_law_404 rfl (lv_at hl 0 rfl) ?_
        refine lv_iconst (v := 2) hx hb dL_law_405 (by decide) ?_
        refine lv_iadd hx hb dL_law_406 ?_
        refine tope (y := nI (i + 2)) (ai (a := i) (b := 2) rfl rfl (by omega)) ?_
        refine va_sld hx hb hX hbl hbA wo.2.2 (vp_in_nI (by omega) (by omega)) dL_law_407 ?_
        refine tope (y := xs (i + 2)) (by rw [nI_clamp (by omega)]) ?_
        refine call_V (k := 0) (As := [.int (xs (i + 1)), .int (xs (i + 2))]) (rest := []) (fun X => X ++ mw G am f kf (nI n)) (Fr_l _) cx (c_X6_ladle l G ah ak ad g (nI n) (fun i => some (ka i 12)) (kw G ka gs) (xs (i + 1)) (xs (i + 2))) fx_X6_ladle m_537 m_538 m_539 ⟨by decide, by decide⟩ wo rfl rfl rfl rfl hl.1 rfl (Nat.le_of_ble_eq_true rfl) dL_law_408 ⟨Nat.le_of_ble_eq_true rfl, Nat.le_of_ble_eq_true rfl⟩ (fun v W1 H locs hp wo => ?_)
        obtain ⟨rfl, rfl⟩ := hp
        refine nrm_i ?_
        refine W.cs (cells' := 600000) (slots' := 7302250) rfl rfl ?_
        refine lv_aload_n hx hb dL_law_411 rfl (lv_at hl 3 rfl) ?_
        refine lv_aload_n hx hb dL_law_412 rfl (lv_at hl 1 rfl) ?_
        refine lv_iload_n hx hb dL_law_413 rfl (lv_at hl 0 rfl) ?_
        refine lv_iconst (v := 1) hx hb dL_law_414 (by decide) ?_
        refine lv_iadd hx hb dL_law_415 ?_
        refine tope (y := nI (i + 1)) (ai (a := i) (b := 1) rfl rfl (by omega)) ?_
        refine va_sld hx hb hX hbl hbA wo.2.2 (vp_in_nI (by omega) (by omega)) dL_law_416 ?_
        refine tope (y := xs (i + 1)) (by rw [nI_clamp (by omega)]) ?_
        refine lv_aload_n hx hb dL_law_417 rfl (lv_at hl 1 rfl) ?_
        refine lv_iload_n hx hb dL_law_418 rfl (lv_at hl 0 rfl) ?_
        refine lv_iconst (v := 2) hx hb dL_law_419 (by decide) ?_
        refine lv_iadd hx hb dL_law_420 ?_
        refine tope (y := nI (i + 2)) (ai (a := i) (b := 2) rfl rfl (by omega)) ?_
        refine va_sld hx hb hX hbl hbA wo.2.2 (vp_in_nI (by omega) (by omega)) dL_law_421 ?_
        refine tope (y := xs (i + 2)) (by rw [nI_clamp (by omega)]) ?_
        refine call_V (k := 0) (As := [.int (xs (i + 1)), .int (xs (i + 2))]) (rest := [.int (m_X6_ladle g (xs (i + 1)) (xs (i + 2)))]) (fun X => tfr G ah ak (ad 12) (nI n) (fun i => some (ka i 12)) (kw G ka gs) (aw G ad g) ++ X) (Fr_r _) cx (c_X7_ladle l G am f kf (nI n) (xs (i + 1)) (xs (i + 2))) fx_X7_ladle m_758 m_759 m_760 ⟨by decide, by decide⟩ wo rfl rfl rfl rfl hl.1 rfl (Nat.le_of_ble_eq_true rfl) dL_law_422 ⟨Nat.le_of_ble_eq_true rfl, Nat.le_of_ble_eq_true rfl⟩ (fun v W1 H locs hp wo => ?_)
        obtain ⟨rfl, rfl⟩ := hp
        refine nrm_i ?_
        refine W.cs (cells' := 600000) (slots' := 7302250) rfl rfl ?_
        refine lv_icmp_eq (tgt := 545) hx hb dL_law_425 (by decide) (fun _ => ?_) (fun h => absurd (Q_ladle hR (xs (i + 1)) (xs (i + 2))) h)
        exact tail n g f gs kf _ _ _ hn8 hR hks hbs wo hl
      by_cases c10 : xs i &&& 15 = 10
      · skip
        refine lv_tableIn (off := 398) (tgt := 430) hx hb dL_law_32 (by rw [c10]; decide) (by rw [c10]; decide) (by rw [c10]; decide) (by decide) ?_
        refine lv_aload_n hx hb dL_law_430 rfl (lv_at hl 2 rfl) ?_
        refine lv_aload_n hx hb dL_law_431 rfl (lv_at hl 1 rfl) ?_
        refine lv_iload_n hx hb dL_law_432 rfl (lv_at hl 0 rfl) ?_
        refine lv_iconst (v := 1) hx hb dL_law_433 (by decide) ?_
        refine lv_iadd hx hb dL_law_434 ?_
        refine tope (y := nI (i + 1)) (ai (a := i) (b := 1) rfl rfl (by omega)) ?_
        refine va_sld hx hb hX hbl hbA wo.2.2 (vp_in_nI (by omega) (by omega)) dL_law_435 ?_
        refine tope (y := xs (i + 1)) (by rw [nI_clamp (by omega)]) ?_
        refine lv_aload_n hx hb dL_law_436 rfl (lv_at hl 1 rfl) ?_
        refine lv_iload_n hx hb dL_law_437 rfl (lv_at hl 0 rfl) ?_
        refine lv_iconst (v := 2) hx hb dL_law_438 (by decide) ?_
        refine lv_iadd hx hb dL_law_439 ?_
        refine tope (y := nI (i + 2)) (ai (a := i) (b := 2) rfl rfl (by omega)) ?_
        refine va_sld hx hb hX hbl hbA wo.2.2 (vp_in_nI (by omega) (by omega)) dL_law_440 ?_
        refine tope (y := xs (i + 2)) (by rw [nI_clamp (by omega)]) ?_
        refine call_V (k := 0) (As := [.int (xs (i + 1)), .int (xs (i + 2))]) (rest := []) (fun X => X ++ mw G am f kf (nI n)) (Fr_l _) cx (c_X6_vessel l G ah ak ad g (nI n) (fun i => some (ka i 12)) (kw G ka gs) (xs (i + 1)) (xs (i + 2))) fx_X6_vessel m_546 m_547 m_548 ⟨by decide, by decide⟩ wo rfl rfl rfl rfl hl.1 rfl (Nat.le_of_ble_eq_true rfl) dL_law_441 ⟨Nat.le_of_ble_eq_true rfl, Nat.le_of_ble_eq_true rfl⟩ (fun v W1 H locs hp wo => ?_)
        obtain ⟨rfl, rfl⟩ := hp
        refine nrm_i ?_
        refine W.cs (cells' := 600000) (slots' := 7302250) rfl rfl ?_
        refine lv_aload_n hx hb dL_law_444 rfl (lv_at hl 3 rfl) ?_
        refine lv_aload_n hx hb dL_law_445 rfl (lv_at hl 1 rfl) ?_
        refine lv_iload_n hx hb dL_law_446 rfl (lv_at hl 0 rfl) ?_
        refine lv_iconst (v := 1) hx hb dL_law_447 (by decide) ?_
        refine lv_iadd hx hb dL_law_448 ?_
        refine tope (y := nI (i + 1)) (ai (a := i) (b := 1) rfl rfl (by omega)) ?_
        refine va_sld hx hb hX hbl hbA wo.2.2 (vp_in_nI (by omega) (by omega)) dL_law_449 ?_
        refine tope (y := xs (i + 1)) (by rw [nI_clamp (by omega)]) ?_
        refine lv_aload_n hx hb dL_law_450 rfl (lv_at hl 1 rfl) ?_
        refine lv_iload_n hx hb dL_law_451 rfl (lv_at hl 0 rfl) ?_
        refine lv_iconst (v := 2) hx hb dL_law_452 (by decide) ?_
        refine lv_iadd hx hb dL_law_453 ?_
        refine tope (y := nI (i + 2)) (ai (a := i) (b := 2) rfl rfl (by omega)) ?_
        refine va_sld hx hb hX hbl hbA wo.2.2 (vp_in_nI (by omega) (by omega)) dL_law_454 ?_
        refine tope (y := xs (i + 2)) (by rw [nI_clamp (by omega)]) ?_
        refine call_V (k := 0) (As := [.int (xs (i + 1)), .int (xs (i + 2))]) (rest := [.int (m_X6_vessel g (xs (i + 1)) (xs (i + 2)))]) (fun X => tfr G ah ak (ad 12) (nI n) (fun i => some (ka i 12)) (kw G ka gs) (aw G ad g) ++ X) (Fr_r _) cx (c_X7_vessel l G am f kf (nI n) (xs (i + 1)) (xs (i + 2))) fx_X7_vessel m_762 m_763 m_764 ⟨by decide, by decide⟩ wo rfl rfl rfl rfl hl.1 rfl (Nat.le_of_ble_eq_true rfl) dL_law_455 ⟨Nat.le_of_ble_eq_true rfl, Nat.le_of_ble_eq_true rfl⟩ (fun v W1 H locs hp wo => ?_)
        obtain ⟨rfl, rfl⟩ := hp
        refine nrm_i ?_
        refine W.cs (cells' := 600000) (slots' := 7302250) rfl rfl ?_
        refine lv_icmp_eq (tgt := 545) hx hb dL_law_458 (by decide) (fun _ => ?_) (fun h => absurd (Q_vessel hR (xs (i + 1)) (xs (i + 2))) h)
        exact tail n g f gs kf _ _ _ hn8 hR hks hbs wo hl
      by_cases c11 : xs i &&& 15 = 11
      · skip
        refine lv_tableIn (off := 431) (tgt := 463) hx hb dL_law_32 (by rw [c11]; decide) (by rw [c11]; decide) (by rw [c11]; decide) (by decide) ?_
        refine lv_aload_n hx hb dL_law_463 rfl (lv_at hl 2 rfl) ?_
        refine lv_aload_n hx hb dL_law_464 rfl (lv_at hl 1 rfl) ?_
        refine lv_iload_n hx hb dL_law_465 rfl (lv_at hl 0 rfl) ?_
        refine lv_iconst (v := 1) hx hb dL_law_466 (by decide) ?_
        refine lv_iadd hx hb dL_law_467 ?_
        refine tope (y := nI (i + 1)) (ai (a := i) (b := 1) rfl rfl (by omega)) ?_
        refine va_sld hx hb hX hbl hbA wo.2.2 (vp_in_nI (by omega) (by omega)) dL_law_468 ?_
        refine tope (y := xs (i + 1)) (by rw [nI_clamp (by omega)]) ?_
        refine lv_aload_n hx hb dL_law_469 rfl (lv_at hl 1 rfl) ?_
        refine lv_iload_n hx hb dL_law_470 rfl (lv_at hl 0 rfl) ?_
        refine lv_iconst (v := 2) hx hb dL_law_471 (by decide) ?_
        refine lv_iadd hx hb dL_law_472 ?_
        refine tope (y := nI (i + 2)) (ai (a := i) (b := 2) rfl rfl (by omega)) ?_
        refine va_sld hx hb hX hbl hbA wo.2.2 (vp_in_nI (by omega) (by omega)) dL_law_473 ?_
        refine tope (y := xs (i + 2)) (by rw [nI_clamp (by omega)]) ?_
        refine call_V (k := 0) (As := [.int (xs (i + 1)), .int (xs (i + 2))]) (rest := []) (fun X => X ++ mw G am f kf (nI n)) (Fr_l _) cx (c_X6_book l G ah ak ad g (nI n) (fun i => some (ka i 12)) (kw G ka gs) (xs (i + 1)) (xs (i + 2))) fx_X6_book m_556 m_557 m_558 ⟨by decide, by decide⟩ wo rfl rfl rfl rfl hl.1 rfl (Nat.le_of_ble_eq_true rfl) dL_law_474 ⟨Nat.le_of_ble_eq_true rfl, Nat.le_of_ble_eq_true rfl⟩ (fun v W1 H locs hp wo => ?_)
        obtain ⟨rfl, rfl⟩ := hp
        refine nrm_i ?_
        refine W.cs (cells' := 600000) (slots' := 7302250) rfl rfl ?_
        refine lv_aload_n hx hb dL_law_477 rfl (lv_at hl 3 rfl) ?_
        refine lv_aload_n hx hb dL_law_478 rfl (lv_at hl 1 rfl) ?_
        refine lv_iload_n hx hb dL_law_479 rfl (lv_at hl 0 rfl) ?_
        refine lv_iconst (v := 1) hx hb dL_law_480 (by decide) ?_
        refine lv_iadd hx hb dL_law_481 ?_
        refine tope (y := nI (i + 1)) (ai (a := i) (b := 1) rfl rfl (by omega)) ?_
        refine va_sld hx hb hX hbl hbA wo.2.2 (vp_in_nI (by omega) (by omega)) dL_law_482 ?_
        refine tope (y := xs (i + 1)) (by rw [nI_clamp (by omega)]) ?_
        refine lv_aload_n hx hb dL_law_483 rfl (lv_at hl 1 rfl) ?_
        refine lv_iload_n hx hb dL_law_484 rfl (lv_at hl 0 rfl) ?_
        refine lv_iconst (v := 2) hx hb dL_law_485 (by decide) ?_
        refine lv_iadd hx hb dL_law_486 ?_
        refine tope (y := nI (i + 2)) (ai (a := i) (b := 2) rfl rfl (by omega)) ?_
        refine va_sld hx hb hX hbl hbA wo.2.2 (vp_in_nI (by omega) (by omega)) dL_law_487 ?_
        refine tope (y := xs (i + 2)) (by rw [nI_clamp (by omega)]) ?_
        refine call_V (k := 0) (As := [.int (xs (i + 1)), .int (xs (i + 2))]) (rest := [.int (m_X6_book g (xs (i + 1)) (xs (i + 2)))]) (fun X => tfr G ah ak (ad 12) (nI n) (fun i => some (ka i 12)) (kw G ka gs) (aw G ad g) ++ X) (Fr_r _) cx (c_X7_book l G am f kf (nI n) (xs (i + 1)) (xs (i + 2))) fx_X7_book m_766 m_767 m_768 ⟨by decide, by decide⟩ wo rfl rfl rfl rfl hl.1 rfl (Nat.le_of_ble_eq_true rfl) dL_law_488 ⟨Nat.le_of_ble_eq_true rfl, Nat.le_of_ble_eq_true rfl⟩ (fun v W1 H locs hp wo => ?_)
        obtain ⟨rfl, rfl⟩ := hp
        refine nrm_i ?_
        refine W.cs (cells' := 600000) (slots' := 7302250) rfl rfl ?_
        refine lv_icmp_eq (tgt := 545) hx hb dL_law_491 (by decide) (fun _ => ?_) (fun h => absurd (Q_book hR (xs (i + 1)) (xs (i + 2))) h)
        exact tail n g f gs kf _ _ _ hn8 hR hks hbs wo hl
      by_cases c12 : xs i &&& 15 = 12
      · skip
        refine lv_tableIn (off := 464) (tgt := 496) hx hb dL_law_32 (by rw [c12]; decide) (by rw [c12]; decide) (by rw [c12]; decide) (by decide) ?_
        refine lv_aload_n hx hb dL_law_496 rfl (lv_at hl 2 rfl) ?_
        refine lv_aload_n hx hb dL_law_497 rfl (lv_at hl 1 rfl) ?_
        refine lv_iload_n hx hb dL_law_498 rfl (lv_at hl 0 rfl) ?_
        refine lv_iconst (v := 1) hx hb dL_law_499 (by decide) ?_
        refine lv_iadd hx hb dL_law_500 ?_
        refine tope (y := nI (i + 1)) (ai (a := i) (b := 1) rfl rfl (by omega)) ?_
        refine va_sld hx hb hX hbl hbA wo.2.2 (vp_in_nI (by omega) (by omega)) dL_law_501 ?_
        refine tope (y := xs (i + 1)) (by rw [nI_clamp (by omega)]) ?_
        refine call_V (k := 0) (As := [.int (xs (i + 1))]) (rest := []) (fun X => X ++ mw G am f kf (nI n)) (Fr_l _) cx (c_X6_count l G ah ak ad g (nI n) (fun i => some (ka i 12)) (kw G ka gs) (xs (i + 1))) fx_X6_count m_577 m_578 m_579 ⟨by decide, by decide⟩ wo rfl rfl rfl rfl hl.1 rfl (Nat.le_of_ble_eq_true rfl) dL_law_502 ⟨Nat.le_of_ble_eq_true rfl, Nat.le_of_ble_eq_true rfl⟩ (fun v W1 H locs hp wo => ?_)
        obtain ⟨rfl, rfl⟩ := hp
        refine nrm_i ?_
        refine W.cs (cells' := 600000) (slots' := 7302250) rfl rfl ?_
        refine lv_aload_n hx hb dL_law_505 rfl (lv_at hl 3 rfl) ?_
        refine lv_aload_n hx hb dL_law_506 rfl (lv_at hl 1 rfl) ?_
        refine lv_iload_n hx hb dL_law_507 rfl (lv_at hl 0 rfl) ?_
        refine lv_iconst (v := 1) hx hb dL_law_508 (by decide) ?_
        refine lv_iadd hx hb dL_law_509 ?_
        refine tope (y := nI (i + 1)) (ai (a := i) (b := 1) rfl rfl (by omega)) ?_
        refine va_sld hx hb hX hbl hbA wo.2.2 (vp_in_nI (by omega) (by omega)) dL_law_510 ?_
        refine tope (y := xs (i + 1)) (by rw [nI_clamp (by omega)]) ?_
        refine call_V (k := 0) (As := [.int (xs (i + 1))]) (rest := [.int (m_X6_count g (nI n) (xs (i + 1)))]) (fun X => tfr G ah ak (ad 12) (nI n) (fun i => some (ka i 12)) (kw G ka gs) (aw G ad g) ++ X) (Fr_r _) cx (c_X7_count l G am f kf (nI n) (xs (i + 1))) fx_X7_count m_774 m_775 m_776 ⟨by decide, by decide⟩ wo rfl rfl rfl rfl hl.1 rfl (Nat.le_of_ble_eq_true rfl) dL_law_511 ⟨Nat.le_of_ble_eq_true rfl, Nat.le_of_ble_eq_true rfl⟩ (fun v W1 H locs hp wo => ?_)
        obtain ⟨rfl, rfl⟩ := hp
        refine nrm_i ?_
        refine W.cs (cells' := 600000) (slots' := 7302250) rfl rfl ?_
        refine lv_icmp_eq (tgt := 545) hx hb dL_law_514 (by decide) (fun _ => ?_) (fun h => absurd (Q_count hR (nI n) (xs (i + 1))) h)
        exact tail n g f gs kf _ _ _ hn8 hR hks hbs wo hl
      by_cases c13 : xs i &&& 15 = 13
      · skip
        refine lv_tableIn (off := 487) (tgt := 519) hx hb dL_law_32 (by rw [c13]; decide) (by rw [c13]; decide) (by rw [c13]; decide) (by decide) ?_
        refine lv_aload_n hx hb dL_law_519 rfl (lv_at hl 2 rfl) ?_
        refine call_V (k := 0) (As := []) (rest := []) (fun X => X ++ mw G am f kf (nI n)) (Fr_l _) cx (c_X6_keep l G ah ak ad g hn8 ka gs (Q_bool hR)) fx_X6_keep m_585 m_586 m_587 ⟨by decide, by decide⟩ wo rfl rfl rfl rfl hl.1 rfl (Nat.le_of_ble_eq_true rfl) dL_law_520 ⟨Nat.le_of_ble_eq_true rfl, Nat.le_of_ble_eq_true rfl⟩ (fun v W1 H locs hp wo => ?_)
        rcases hp with ⟨hn0, rfl, rfl⟩ | ⟨hn0, rfl, rfl⟩
        · skip
          refine nrm_i ?_
          refine W.cs (cells' := 600000) (slots' := 7302250) rfl rfl ?_
          refine lv_aload_n hx hb dL_law_523 rfl (lv_at hl 3 rfl) ?_
          refine call_V (k := 0) (As := []) (rest := [.int (-3)]) (fun X => tfr G ah ak (ad 12) (nI n) (fun i => some (ka i 12)) (kw G ka gs) (aw G ad g) ++ X) (Fr_r _) cx (c_X7_keep l G am f kf hn8) fx_X7_keep m_778 m_779 m_780 ⟨by decide, by decide⟩ wo rfl rfl rfl rfl hl.1 rfl (Nat.le_of_ble_eq_true rfl) dL_law_524 ⟨Nat.le_of_ble_eq_true rfl, Nat.le_of_ble_eq_true rfl⟩ (fun v W1 H locs hp wo => ?_)
          rcases hp with ⟨hn1, rfl, rfl⟩ | ⟨hn1, rfl, rfl⟩
          · skip
            refine nrm_i ?_
            refine W.cs (cells' := 600000) (slots' := 7302250) rfl rfl ?_
            refine lv_icmp_eq (tgt := 545) hx hb dL_law_527 (by decide) (fun _ => ?_) (fun h => absurd rfl h)
            exact tail n g f gs kf _ _ _ hn8 hR hks hbs wo hl
          · skip
            exfalso; omega
        · skip
          refine nrm_i ?_
          refine W.cs (cells' := 600000) (slots' := 7302250) rfl rfl ?_
          refine lv_aload_n hx hb dL_law_523 rfl (lv_at hl 3 rfl) ?_
          refine call_V (k := 0) (As := []) (rest := [.int (nI (1 + n))]) (fun X => tfr G ah ak (ad 12) (nI (1 + n)) (fun i => some (ka i 12)) (kw G ka (va_up gs n g)) (aw G ad g) ++ X) (Fr_r _) cx (c_X7_keep l G am f kf hn8) fx_X7_keep m_778 m_779 m_780 ⟨by decide, by decide⟩ wo rfl rfl rfl rfl hl.1 rfl (Nat.le_of_ble_eq_true rfl) dL_law_524 ⟨Nat.le_of_ble_eq_true rfl, Nat.le_of_ble_eq_true rfl⟩ (fun v W1 H locs hp wo => ?_)
          rcases hp with ⟨hn1, rfl, rfl⟩ | ⟨hn1, rfl, rfl⟩
          · skip
            exfalso; omega
          · skip
            refine nrm_i ?_
            refine W.cs (cells' := 600000) (slots' := 7302250) rfl rfl ?_
            refine lv_icmp_eq (tgt := 545) hx hb dL_law_527 (by decide) (fun _ => ?_) (fun h => absurd rfl h)
            exact tail (1 + n) g f _ _ _ _ _ (by omega) hR (keep_hks hR hn0 hks) (keep_hbs hR hbs) wo hl
      by_cases c14 : xs i &&& 15 = 14
      · skip
        refine lv_tableIn (off := 500) (tgt := 532) hx hb dL_law_32 (by rw [c14]; decide) (by rw [c14]; decide) (by rw [c14]; decide) (by decide) ?_
        refine lv_aload_n hx hb dL_law_532 rfl (lv_at hl 2 rfl) ?_
        refine call_V (k := 0) (As := []) (rest := []) (fun X => X ++ mw G am f kf (nI n)) (Fr_l _) cx (c_X6_back l G ah ak ad g hn8 ka gs hbs) fx_X6_back m_621 m_622 m_623 ⟨by decide, by decide⟩ wo rfl rfl rfl rfl hl.1 rfl (Nat.le_of_ble_eq_true rfl) dL_law_533 ⟨Nat.le_of_ble_eq_true rfl, Nat.le_of_ble_eq_true rfl⟩ (fun v W1 H locs hp wo => ?_)
        rcases hp with ⟨hn0, rfl, rfl⟩ | ⟨hn0, rfl, rfl⟩
        · skip
          refine nrm_i ?_
          refine W.cs (cells' := 600000) (slots' := 7302250) rfl rfl ?_
          refine lv_aload_n hx hb dL_law_536 rfl (lv_at hl 3 rfl) ?_
          refine call_V (k := 0) (As := []) (rest := [.int (-2)]) (fun X => tfr G ah ak (ad 12) (nI n) (fun i => some (ka i 12)) (kw G ka gs) (aw G ad g) ++ X) (Fr_r _) cx (c_X7_back l G am f kf hn8) fx_X7_back m_782 m_783 m_784 ⟨by decide, by decide⟩ wo rfl rfl rfl rfl hl.1 rfl (Nat.le_of_ble_eq_true rfl) dL_law_537 ⟨Nat.le_of_ble_eq_true rfl, Nat.le_of_ble_eq_true rfl⟩ (fun v W1 H locs hp wo => ?_)
          rcases hp with ⟨hn1, rfl, rfl⟩ | ⟨hn1, rfl, rfl⟩
          · skip
            refine nrm_i ?_
            refine W.cs (cells' := 600000) (slots' := 7302250) rfl rfl ?_
            refine lv_icmp_eq (tgt := 545) hx hb dL_law_540 (by decide) (fun _ => ?_) (fun h => absurd rfl h)
            exact tail n g f gs kf _ _ _ hn8 hR hks hbs wo hl
          · skip
            exfalso; omega
        · skip
          refine nrm_i ?_
          refine W.cs (cells' := 600000) (slots' := 7302250) rfl rfl ?_
          refine lv_aload_n hx hb dL_law_536 rfl (lv_at hl 3 rfl) ?_
          refine call_V (k := 0) (As := []) (rest := [.int (gs (n - 1) 140)]) (fun X => tfr G ah ak (ad 12) (nI (n - 1)) (fun i => some (ka i 12)) (kw G ka gs) (aw G ad (gs (n - 1))) ++ X) (Fr_r _) cx (c_X7_back l G am f kf hn8) fx_X7_back m_782 m_783 m_784 ⟨by decide, by decide⟩ wo rfl rfl rfl rfl hl.1 rfl (Nat.le_of_ble_eq_true rfl) dL_law_537 ⟨Nat.le_of_ble_eq_true rfl, Nat.le_of_ble_eq_true rfl⟩ (fun v W1 H locs hp wo => ?_)
          rcases hp with ⟨hn1, rfl, rfl⟩ | ⟨hn1, rfl, rfl⟩
          · skip
            exfalso; omega
          · skip
            refine nrm_i ?_
            refine W.cs (cells' := 600000) (slots' := 7302250) rfl rfl ?_
            have hb1 := back_RI (f := f) hn0 hn8 hks
            refine lv_icmp_eq (tgt := 545) hx hb dL_law_540 (by decide) (fun _ => ?_) (fun h => absurd (hb1.1.1.1 140 (by unfold Pl; omega)) h)
            exact tail (n - 1) _ _ gs kf _ _ _ (by omega) hb1 (fun k hk => hks k (by omega)) hbs wo hl
      refine lv_tableOut (tgt := 545) hx hb dL_law_32 (by have q0 := lv_neT c0 (a := 0) rfl; have q1 := lv_neT c1 (a := 1) rfl; have q2 := lv_neT c2 (a := 2) rfl; have q3 := lv_neT c3 (a := 3) rfl; have q4 := lv_neT c4 (a := 4) rfl; have q5 := lv_neT c5 (a := 5) rfl; have q6 := lv_neT c6 (a := 6) rfl; have q7 := lv_neT c7 (a := 7) rfl; have q8 := lv_neT c8 (a := 8) rfl; have q9 := lv_neT c9 (a := 9) rfl; have q10 := lv_neT c10 (a := 10) rfl; have q11 := lv_neT c11 (a := 11) rfl; have q12 := lv_neT c12 (a := 12) rfl; have q13 := lv_neT c13 (a := 13) rfl; have q14 := lv_neT c14 (a := 14) rfl; omega) (by decide) ?_
      exact tail n g f gs kf _ _ _ hn8 hR hks hbs wo hl
