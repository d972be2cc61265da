/-! the law from its entry: the tables' facts, two objects, then the loop -/
theorem Ga_int {s : State} {args : Array Value} (h : (Cond.arrayClass .int).before args s = true) : ∃ cA : ClassId, ArrOfT s cA .int ∧ va_RA s cA .int := by
  obtain ⟨cA, kA, comp, h1, h2, h3⟩ := Cond.arrayClass_spec h
  exact ⟨cA, fun n z => ⟨fun k h => (by cases h), kA, h2, comp, h3⟩, h1⟩
theorem Ga_obj {s : State} {args : Array Value} {C : String} (h : (Cond.arrayOver (.object C)).before args s = true) : ∃ cA : ClassId, ArrOfT s cA (.object C) ∧ va_RA s cA (.object C) := by
  obtain ⟨comp, cA, kA, h1, h2, h3, h4, h5⟩ := Cond.arrayOver_spec h
  exact ⟨cA, fun n z => ⟨fun k h => (by cases h), kA, h3, comp, h4⟩, kA, comp, h3, h4, h1, h5⟩
theorem G_ex {s : State} {args : Array Value} (hts : ∀ w ∈ lw_tbl, w.before args s = true) : ∃ G : GG, Kn G s := by
  have hb : ∀ w ∈ bw, w.before args s = true := fun w hw => hts w (bw_tbl hw)
  obtain ⟨c0, i0, k0⟩ := u_known (C := "HotAisle$Aisle") (T := TX0) (N := 9) (n := 9) hb in_aisle (hb _ m_57)
  obtain ⟨c1, i1, k1⟩ := u_known (C := "HotAisle$Books") (T := TX1) (N := 12) (n := 12) hb in_books (hb _ m_128)
  obtain ⟨c2, i2, k2⟩ := u_known (C := "HotAisle$Crane") (T := TX2) (N := 6) (n := 6) hb in_crane (hb _ m_97)
  obtain ⟨c3, i3, k3⟩ := u_known (C := "HotAisle$Ladle") (T := TX3) (N := 5) (n := 5) hb in_ladle (hb _ m_222)
  obtain ⟨c4, i4, k4⟩ := u_known (C := "HotAisle$Stuff") (T := TX4) (N := 4) (n := 4) hb in_stuff (hb _ m_63)
  obtain ⟨c5, i5, k5⟩ := u_known (C := "HotAisle$Vessel") (T := TX5) (N := 6) (n := 6) hb in_vessel (hb _ m_187)
  obtain ⟨c6, i6, k6⟩ := u_known (C := "HotAisle") (T := TX6) (N := 3) (n := 3) hb in_hot (hb _ m_49)
  obtain ⟨c7, i7, k7⟩ := u_known (C := "HotAisleModel") (T := TX7) (N := 3) (n := 3) hb in_model (hb _ m_626)
  obtain ⟨a0, x0⟩ := Ga_int (hts _ (List.mem_of_getElem? (i := 126) (by decide +kernel)))
  have o1 : (Cond.arrayOver (.object "HotAisle$Vessel")).before args s = true := hts _ (List.mem_of_getElem? (i := 91) (by decide +kernel))
  have o2 : (Cond.arrayOver (.object "HotAisle$Ladle")).before args s = true := hts _ (List.mem_of_getElem? (i := 95) (by decide +kernel))
  have o3 : (Cond.arrayOver (.object "HotAisle$Aisle")).before args s = true := hts _ (List.mem_of_getElem? (i := 281) (by decide +kernel))
  obtain ⟨a1, x1⟩ := Ga_obj o1
  obtain ⟨a2, x2⟩ := Ga_obj o2
  obtain ⟨a3, x3⟩ := Ga_obj o3
  refine ⟨((fun k => ([c0, c1, c2, c3, c4, c5, c6, c7] : List ClassId).getD k 0, fun k => ([i0, i1, i2, i3, i4, i5, i6, i7] : List (Nat → Nat)).getD k (fun _ => 0)), fun k => ([a0, a1, a2, a3] : List ClassId).getD k 0), ⟨fun k q hq => ?_, fun k q hq => ?_⟩, ?_⟩
  · match k, hq with
    | 0, hq => cases hq; exact k0
    | 1, hq => cases hq; exact k1
    | 2, hq => cases hq; exact k2
    | 3, hq => cases hq; exact k3
    | 4, hq => cases hq; exact k4
    | 5, hq => cases hq; exact k5
    | 6, hq => cases hq; exact k6
    | 7, hq => cases hq; exact k7
    | k + 8, hq => simp [vwCl] at hq
  · match k, hq with
    | 0, hq => cases hq; exact x0
    | 1, hq => cases hq; exact x1
    | 2, hq => cases hq; exact x2
    | 3, hq => cases hq; exact x3
    | k + 4, hq => simp [tysG] at hq
  · refine ⟨?_, va_Nw.of rfl (hts _ (List.mem_of_getElem? (i := 88) (by decide +kernel))), va_Nw.of rfl (hts _ (List.mem_of_getElem? (i := 92) (by decide +kernel))), va_AO.of (A := args) ?_, va_AO.of (A := args) ?_, va_AO.of (A := args) ?_⟩
    · have hm : ∀ q ∈ nwM, ∃ i : Nat, lw_tbl[i]? = some (Cond.methodLinkNest q.1 q.2.1 q.2.2.1 q.2.2.2) := by
        intro q hq
        simp only [nwM, List.mem_cons, List.not_mem_nil, or_false] at hq
        rcases hq with rfl | rfl | rfl | rfl | rfl | rfl | rfl | rfl | rfl
        · exact ⟨64, by decide +kernel⟩
        · exact ⟨129, by decide +kernel⟩
        · exact ⟨134, by decide +kernel⟩
        · exact ⟨193, by decide +kernel⟩
        · exact ⟨228, by decide +kernel⟩
        · exact ⟨314, by decide +kernel⟩
        · exact ⟨377, by decide +kernel⟩
        · exact ⟨554, by decide +kernel⟩
        · exact ⟨613, by decide +kernel⟩
      intro q hq
      obtain ⟨i, hi⟩ := hm q hq
      exact va_Nw.of rfl (hts _ (List.mem_of_getElem? hi))
    · exact o1
    · exact o2
    · exact o3
theorem SF_ex {s : State} {b : Nat} (hts : ∀ w ∈ lw_tbl, w.before #[Value.ref b] s = true) (hgv : (Jvm.Cond.and given_1 narrow_1).before #[Value.ref b] s = true) : SF (fun q => s.heap.size ≤ q) s := by
  have hs := flat_of_before _ hgv
  have hA : ∀ a : Nat, a < s.heap.size → ¬ (fun q : Nat => s.heap.size ≤ q) a := fun a h => Nat.not_le.mpr h
  have hini : (Cond.initialized "HotAisle").before #[Value.ref b] s = true := hts _ (List.mem_of_getElem? (i := 39) (by decide +kernel))
  constructor
  · obtain ⟨t, h1, h2⟩ := va_Tof (args := #[Value.ref b]) (s := s) (tm := .static "HotAisle" "VESSEL_PLACES" "[I") (ty := .int) (N := 3) (f := fun j => .int (nI (4 * j + 4))) (A := fun q => s.heap.size ≤ q) (by decide) (hs _ (by decide +kernel)) (va_eqt (z := 3) (hs _ (by decide +kernel))) (fun j hj => by
      rcases (show j = 0 ∨ j = 1 ∨ j = 2 by omega) with rfl | rfl | rfl
      · exact va_eqt (z := 4) (hs _ (by decide +kernel))
      · exact va_eqt (z := 8) (hs _ (by decide +kernel))
      · exact va_eqt (z := 12) (hs _ (by decide +kernel))) hA
    exact ⟨t, va_Zof (args := #[Value.ref b]) (hts _ (List.mem_of_getElem? (i := 89) (by decide +kernel))) hini h1 hA, h2⟩
  · obtain ⟨t, h1, h2⟩ := va_Tof (args := #[Value.ref b]) (s := s) (tm := .static "HotAisle" "FIRST_LADLE_PLACES" "[I") (ty := .int) (N := 4) (f := fun j => .int (lpv j)) (A := fun q => s.heap.size ≤ q) (by decide) (hs _ (by decide +kernel)) (va_eqt (z := 4) (hs _ (by decide +kernel))) (fun j hj => by
      rcases (show j = 0 ∨ j = 1 ∨ j = 2 ∨ j = 3 by omega) with rfl | rfl | rfl | rfl
      · exact va_eqt (z := 1) (hs _ (by decide +kernel))
      · exact va_eqt (z := 6) (hs _ (by decide +kernel))
      · exact va_eqt (z := 10) (hs _ (by decide +kernel))
      · exact va_eqt (z := 14) (hs _ (by decide +kernel))) hA
    exact ⟨t, va_Zof (args := #[Value.ref b]) (hts _ (List.mem_of_getElem? (i := 93) (by decide +kernel))) hini h1 hA, h2⟩
set_option maxHeartbeats 4000000 in
set_option maxRecDepth 100000 in
theorem whole_start {p : Program} {e : Env} {s : State} {m : MethodId} {below : List Frame} {meth : Method} {c : Code} (l : Launch) (hflags : l.flags = flags0) {b L : Nat} {xs : Nat → Int32} (hL : L ≤ 2048) (C0 : lw_At p s m meth c b L xs) : W p l e room_1 s m #[Value.ref b] below meth c s.heap [] 0 0 (lw_Z below #[Value.ref b] s) (entryFrame m ([Value.ref b] : List Value).toArray 4) := by
  obtain ⟨hx, hb, hr, hml, hown, hts, hX, hbl, hlocks, hgv⟩ := id C0
  obtain ⟨G, kn⟩ := G_ex hts
  obtain ⟨A, hAe⟩ : ∃ A : Nat → Prop, A = fun q => s.heap.size ≤ q := ⟨_, rfl⟩
  have hSF : SF A s := by rw [hAe]; exact SF_ex hts hgv
  have hA : ∀ q, s.heap.size ≤ q → A q := fun q h => by rw [hAe]; exact h
  have cx : Cx G p room_1 s m #[Value.ref b] meth c "HotAisleLaw" code 4 ret meth.name A := ⟨hx, hb, hml, hr, hlocks, hown, fun w hw => hts w (bw_tbl hw), rfl, kn, hA⟩
  have wo : Wo G A s.heap s.heap [] [] := ⟨fun k q h => by simp at h, ⟨fun i j p q h => by simp at h, fun k q h => by simp at h⟩, va_S.rf⟩
  have hl := lv_entry ([.ref b]) (n := 4) (Nat.le_of_ble_eq_true rfl)
  rw [lg_entry_eq]
  generalize (lg_sl ([.ref b]) ++ List.replicate (4 - (lg_sl ([.ref b])).length) Slot.unset).toArray = ls at hl ⊢
  have hl : lv_has ls 4 [(0, .ref b)] := hl
  refine nobj (ci := 6) (fs := [.null, .null, .int 0]) cx wo in_hot tyX6 tyX6_ok m_48 m_49 m_39 rfl (fun j hj => by rcases (show j = 0 ∨ j = 1 ∨ j = 2 by omega) with rfl | rfl | rfl <;> rfl) (Nat.le_of_ble_eq_true rfl) (Nat.le_of_ble_eq_true rfl) dL_law_0 (fun ah H wo => ?_)
  have wo : Wo G A s.heap H [] [(ah, .inr (6, [.null, .null, .int 0]))] := wo
  refine lv_dup hx hb dL_law_3 rfl ?_
  refine call_IS (As := []) (rest := [.ref ah]) (fun X => X) Fr_id cx hSF (c_X6_init l G ah) fx_X6_init m_50 m_51 rfl ⟨by decide, by decide⟩ wo rfl hl.1 rfl (Nat.le_of_ble_eq_true rfl) dL_law_4 ⟨Nat.le_of_ble_eq_true rfl, Nat.le_of_ble_eq_true rfl⟩ (fun v W1 H locs hp wo => ?_)
  obtain ⟨rfl, ak, ad, ka, rfl⟩ := hp
  refine nrm_v ?_
  refine lv_astore_n (lv' := [(1, .ref ah), (0, .ref b)]) hx hb dL_law_7 rfl hl (by decide) rfl (fun ls hl => ?_)
  refine nobj (ci := 7) (fs := [.null, .null, .int 0]) cx wo in_model tyX7 tyX7_ok m_625 m_626 m_46 rfl (fun j hj => by rcases (show j = 0 ∨ j = 1 ∨ j = 2 by omega) with rfl | rfl | rfl <;> rfl) (Nat.le_of_ble_eq_true rfl) (Nat.le_of_ble_eq_true rfl) dL_law_8 (fun am0 H wo => ?_)
  refine lv_dup hx hb dL_law_11 rfl ?_
  refine call_I (As := []) (rest := [.ref am0]) (fun X => tfr G ah ak (ad 12) 0 (fun i => some (ka i 12)) (kw G ka (fun _ => g0)) (aw G ad g0) ++ X) (Fr_r _) cx (c_X7_init l G am0) fx_X7_init m_627 m_628 rfl ⟨by decide, by decide⟩ wo rfl hl.1 rfl (Nat.le_of_ble_eq_true rfl) dL_law_12 ⟨Nat.le_of_ble_eq_true rfl, Nat.le_of_ble_eq_true rfl⟩ (fun v W1 H locs hp wo2 => ?_)
  obtain ⟨rfl, am, rfl, rfl⟩ := hp
  refine nrm_v ?_
  refine lv_astore_n (lv' := [(2, .ref (am 0)), (1, .ref ah), (0, .ref b)]) hx hb dL_law_15 rfl hl (by decide) rfl (fun ls hl => ?_)
  refine lv_iconst (v := 0) hx hb dL_law_16 (by decide) ?_
  refine lv_istore_n (lv' := [(3, .int 0), (2, .ref (am 0)), (1, .ref ah), (0, .ref b)]) hx hb dL_law_17 rfl hl (by decide) rfl (fun ls hl => ?_)
  refine W.widen (k := 600000) (n := 7302250) (Nat.le_of_ble_eq_true rfl) (Nat.le_of_ble_eq_true rfl) ?_
  exact law_loop l hL hAe cx hX hbl ah ak ad ka am (L + 1) 0 0 g0 f0 (fun _ => g0) (fun _ => 0) _ _ _ (by omega) (Nat.zero_le L) (by omega) Q_init (fun k hk => absurd hk (by omega)) (fun k hk => Q_bool Q_init) wo2 (lv_sub hl [0, 3, 2, 1] rfl)
