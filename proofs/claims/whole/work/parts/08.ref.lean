/-! the reference's world; small rows of both walks -/
def mw (G : GG) (am : Nat → Nat) (g : St) (kf : St) (n : Int32) : va_W := [(am 0, .inr (7, [.ref (am 1), .ref (am 2), .int n])), (am 1, .inl (G.2 0, 150, .inl g)), (am 2, .inl (G.2 0, 1200, .inl kf))]
theorem in_model : ∀ w ∈ u_ws "HotAisleModel" TX7 3, w ∈ bw := List.forall_mem_cons.mpr ⟨m_634, List.forall_mem_cons.mpr ⟨m_636, List.forall_mem_cons.mpr ⟨m_638, fun _ h => absurd h List.not_mem_nil⟩⟩⟩
def mn (x y : Int32) : Int32 := if y < x then y else x
def mx (x y : Int32) : Int32 := if x < y then y else x
theorem rdn {g1 g : St} {i j : Nat} {x v : Int32} (h : g1 = upd g i x) (hj : j ≠ i) (hv : g j = v) : g1 j = v := by rw [h, pk_un hj, hv]
theorem rds {g1 g : St} {i j : Nat} {x : Int32} (h : g1 = upd g i x) (hj : j = i) : g1 j = x := by rw [h, hj, pk_us]
section MW
variable {G : GG} {p : Program} {l : Launch} {e : Env} {R : Room} {s : State} {m : MethodId} {args : Array Value} {below : List Frame} {meth : Method} {c : Code} {H : Heap} {locs : List Loc} {cells slots : Nat} {own : String} {cc : ByteArray} {nL : Nat} {rt : Option FieldType} {nm : String} {A : Nat → Prop} {pc : Nat} {ls : Array Slot} {rest : List Value} {Q : State → Prop} {am : Nat → Nat} {g kf : St} {nk : Int32} {index : Nat} {x : Int32}
theorem mg_st (cx : Cx G p R s m args meth c own cc nL rt nm A) (wo : Wo G A s.heap H locs (mw G am g kf nk)) (hl : Cond.fieldLink own index "HotAisleModel" "st" "[I" ∈ bw) (hdg : decode cc pc = .ok (.getfield index, 3)) (kk : W p l e R s m args below meth c H locs cells slots Q (F0 m (pc + 3) ls (.ref (am 1) :: rest))) : W p l e R s m args below meth c H locs cells slots Q (F0 m pc ls (.ref (am 0) :: rest)) :=
  gf (fun X => X) Fr_id cx wo (j := 0) rfl rfl (k := 0) (by decide) in_model rfl hl rfl hdg kk
theorem mg_kept (cx : Cx G p R s m args meth c own cc nL rt nm A) (wo : Wo G A s.heap H locs (mw G am g kf nk)) (hl : Cond.fieldLink own index "HotAisleModel" "kept" "[I" ∈ bw) (hdg : decode cc pc = .ok (.getfield index, 3)) (kk : W p l e R s m args below meth c H locs cells slots Q (F0 m (pc + 3) ls (.ref (am 2) :: rest))) : W p l e R s m args below meth c H locs cells slots Q (F0 m pc ls (.ref (am 0) :: rest)) :=
  gf (fun X => X) Fr_id cx wo (j := 0) rfl rfl (k := 1) (by decide) in_model rfl hl rfl hdg kk
theorem mg_many (cx : Cx G p R s m args meth c own cc nL rt nm A) (wo : Wo G A s.heap H locs (mw G am g kf nk)) (hl : Cond.fieldLink own index "HotAisleModel" "keptMany" "I" ∈ bw) (hdg : decode cc pc = .ok (.getfield index, 3)) (kk : W p l e R s m args below meth c H locs cells slots Q (F0 m (pc + 3) ls (.int nk :: rest))) : W p l e R s m args below meth c H locs cells slots Q (F0 m pc ls (.ref (am 0) :: rest)) :=
  gf (fun X => X) Fr_id cx wo (j := 0) rfl rfl (k := 2) (by decide) in_model rfl hl rfl hdg kk
theorem mp_many (cx : Cx G p R s m args meth c own cc nL rt nm A) (wo : Wo G A s.heap H locs (mw G am g kf nk)) (hl : Cond.fieldLink own index "HotAisleModel" "keptMany" "I" ∈ bw) (hdg : decode cc pc = .ok (.putfield index, 3)) (kk : ∀ (H1 : Heap) (locs1 : List Loc), Wo G A s.heap H1 locs1 (mw G am g kf x) → W p l e R s m args below meth c H1 locs1 cells slots Q (F0 m (pc + 3) ls rest)) : W p l e R s m args below meth c H locs cells slots Q (F0 m pc ls (.int x :: .ref (am 0) :: rest)) :=
  va_put cx.1 cx.2.1 cx.2.2.2.2.2.2.1 in_model tyX7 tyX7_ok nmX7 cx.2.2.2.2.2.1 cx.2.2.2.2.2.2.2.2.1.1 wo.1 wo.2.1 wo.2.2 0 rfl rfl 2 (by decide) (cx.2.2.2.2.2.2.1 _ hl) (fun _ h => h) rfl (ty := .int) (by decide +kernel) rfl rfl (Nat.le_of_ble_eq_true rfl) hdg (fun H1 locs1 hP hD hS => kk H1 locs1 ⟨hP, hD, hS⟩)
theorem ml_st {n : Nat} {i : Int32} (cx : Cx G p R s m args meth c own cc nL rt nm A) (wo : Wo G A s.heap H locs (mw G am g kf nk)) (hi : i = nI n) (hn : n < 150) (hdg : decode cc pc = .ok (.iaload, 1)) (kk : W p l e R s m args below meth c H locs cells slots Q (F0 m (pc + 1) ls (.int (g n) :: rest))) : W p l e R s m args below meth c H locs cells slots Q (F0 m pc ls (.int i :: .ref (am 1) :: rest)) :=
  ald_i (fun X => X) Fr_id cx wo (j := 1) rfl hi hn (by decide) hdg kk
theorem ml_kept {n : Nat} {i : Int32} (cx : Cx G p R s m args meth c own cc nL rt nm A) (wo : Wo G A s.heap H locs (mw G am g kf nk)) (hi : i = nI n) (hn : n < 1200) (hdg : decode cc pc = .ok (.iaload, 1)) (kk : W p l e R s m args below meth c H locs cells slots Q (F0 m (pc + 1) ls (.int (kf n) :: rest))) : W p l e R s m args below meth c H locs cells slots Q (F0 m pc ls (.int i :: .ref (am 2) :: rest)) :=
  ald_i (fun X => X) Fr_id cx wo (j := 2) rfl hi hn (by decide) hdg kk
theorem ms_st {n : Nat} {i : Int32} (cx : Cx G p R s m args meth c own cc nL rt nm A) (wo : Wo G A s.heap H locs (mw G am g kf nk)) (hi : i = nI n) (hn : n < 150) (hdg : decode cc pc = .ok (.iastore, 1)) (kk : ∀ (H1 : Heap) (locs1 : List Loc) (g1 : St), g1 = upd g n x → Wo G A s.heap H1 locs1 (mw G am g1 kf nk) → W p l e R s m args below meth c H1 locs1 cells slots Q (F0 m (pc + 1) ls rest)) : W p l e R s m args below meth c H locs cells slots Q (F0 m pc ls (.int x :: .int i :: .ref (am 1) :: rest)) := by
  subst hi
  refine va_iast cx.1 cx.2.1 cx.2.2.2.2.2.2.2.2.1.1 wo.1 wo.2.1 wo.2.2 1 0 rfl rfl (vp_in_nI hn (by decide)) hdg (fun H1 locs1 hP hD hS => ?_)
  rw [nI_clamp (by omega)] at hP hD
  exact kk H1 locs1 _ rfl ⟨hP, hD, hS⟩
theorem ms_kept {n : Nat} {i : Int32} (cx : Cx G p R s m args meth c own cc nL rt nm A) (wo : Wo G A s.heap H locs (mw G am g kf nk)) (hi : i = nI n) (hn : n < 1200) (hdg : decode cc pc = .ok (.iastore, 1)) (kk : ∀ (H1 : Heap) (locs1 : List Loc), Wo G A s.heap H1 locs1 (mw G am g (upd kf n x) nk) → W p l e R s m args below meth c H1 locs1 cells slots Q (F0 m (pc + 1) ls rest)) : W p l e R s m args below meth c H locs cells slots Q (F0 m pc ls (.int x :: .int i :: .ref (am 2) :: rest)) := by
  subst hi
  refine va_iast cx.1 cx.2.1 cx.2.2.2.2.2.2.2.2.1.1 wo.1 wo.2.1 wo.2.2 2 0 rfl rfl (vp_in_nI hn (by decide)) hdg (fun H1 locs1 hP hD hS => ?_)
  rw [nI_clamp (by omega)] at hP hD
  exact kk H1 locs1 ⟨hP, hD, hS⟩
theorem min_r {y : Int32} (cx : Cx G p R s m args meth c own cc nL rt nm A) (hl : Cond.methodLink own index ⟨"java/lang/Math", "min", "(II)I"⟩ ∈ bw) (hdg : decode cc pc = .ok (.invokestatic index, 3)) (hls : ls.size = nL) (hfr : 1 ≤ R.frames) (hlo : (rest.map fun v => v.category).sum + 13 ≤ R.locals) (hc : cells ≤ R.cells) (hs : slots ≤ R.slots)
    (kk : W p l e R s m args below meth c H locs cells slots Q (F0 m (pc + 3) ls (.int (mn x y) :: rest))) : W p l e R s m args below meth c H locs cells slots Q (F0 m pc ls (.int y :: .int x :: rest)) :=
  va_mmin cx.1 cx.2.1 (by rw [cx.2.2.1, hls]) cx.2.2.2.2.2.1 (cx.2.2.2.2.2.2.1 _ hl) (cx.2.2.2.2.2.2.1 _ m_379) (cx.2.2.2.2.2.2.1 _ m_47) (cx.2.2.2.2.2.2.1 _ m_380) hfr hlo hc hs hdg kk
theorem max_r {y : Int32} (cx : Cx G p R s m args meth c own cc nL rt nm A) (hl : Cond.methodLink own index ⟨"java/lang/Math", "max", "(II)I"⟩ ∈ bw) (hdg : decode cc pc = .ok (.invokestatic index, 3)) (hls : ls.size = nL) (hfr : 1 ≤ R.frames) (hlo : (rest.map fun v => v.category).sum + 13 ≤ R.locals) (hc : cells ≤ R.cells) (hs : slots ≤ R.slots)
    (kk : W p l e R s m args below meth c H locs cells slots Q (F0 m (pc + 3) ls (.int (mx x y) :: rest))) : W p l e R s m args below meth c H locs cells slots Q (F0 m pc ls (.int y :: .int x :: rest)) :=
  va_mmax cx.1 cx.2.1 (by rw [cx.2.2.1, hls]) cx.2.2.2.2.2.1 (cx.2.2.2.2.2.2.1 _ hl) (cx.2.2.2.2.2.2.1 _ m_390) (cx.2.2.2.2.2.2.1 _ m_47) (cx.2.2.2.2.2.2.1 _ m_391) hfr hlo hc hs hdg kk
end MW
theorem out_sw {x : Int32} {lo hi : Int} (h : ∀ k : Int, lo ≤ k → k ≤ hi → ¬ x.toInt = k) : x.toInt < lo ∨ hi < x.toInt := by
  by_cases h1 : x.toInt < lo
  · exact Or.inl h1
  · by_cases h2 : hi < x.toInt
    · exact Or.inr h2
    · exact absurd rfl (h x.toInt (by omega) (by omega))
