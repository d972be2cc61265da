/-! the base: contracts over one world, the frame of a call -/
theorem vP_iff {D : va_G} {cl : List vw_C} {ws : va_W} {H : Heap} : va_P D cl ws H ↔ ∀ x ∈ ws, va_at D cl x H :=
  ⟨fun h x hx => by obtain ⟨k, hk⟩ := List.getElem?_of_mem hx; exact h k x hk, fun h k x hk => h x (List.mem_of_getElem? hk)⟩
theorem vD_iff {A : Nat → Prop} {ws : va_W} : va_D A ws ↔ (ws.map (fun x => x.1)).Nodup ∧ ∀ x ∈ ws, A x.1 := by
  constructor
  · intro h
    refine ⟨?_, fun x hx => by obtain ⟨k, hk⟩ := List.getElem?_of_mem hx; exact h.2 k x hk⟩
    rw [List.Nodup, List.pairwise_iff_getElem]
    intro i j hi hj hij e
    rw [List.length_map] at hi hj
    rw [List.getElem_map, List.getElem_map] at e
    have := h.1 i j ws[i] ws[j] (List.getElem?_eq_getElem hi) (List.getElem?_eq_getElem hj) e
    omega
  · intro h
    refine ⟨fun i j p q hp hq e => ?_, fun k x hk => h.2 x (List.mem_of_getElem? hk)⟩
    have h1 := h.1
    rw [List.Nodup, List.pairwise_iff_getElem] at h1
    obtain ⟨hi, hp⟩ := List.getElem?_eq_some_iff.mp hp
    obtain ⟨hj, hq⟩ := List.getElem?_eq_some_iff.mp hq
    rcases Nat.lt_trichotomy i j with c | c | c
    · exact absurd (show (ws.map (fun x => x.1))[i]'(by rw [List.length_map]; exact hi) = (ws.map (fun x => x.1))[j]'(by rw [List.length_map]; exact hj) by rw [List.getElem_map, List.getElem_map, hp, hq]; exact e) (h1 i j _ _ c)
    · exact c
    · exact absurd (show (ws.map (fun x => x.1))[j]'(by rw [List.length_map]; exact hj) = (ws.map (fun x => x.1))[i]'(by rw [List.length_map]; exact hi) by rw [List.getElem_map, List.getElem_map, hp, hq]; exact e.symm) (h1 j i _ _ c)
theorem vA_iff {ws : va_W} {sz q : Nat} : va_A ws sz q ↔ q ∈ ws.map (fun x => x.1) ∨ sz ≤ q := by
  constructor
  · rintro (⟨k, e, h⟩ | h)
    · exact Or.inl (List.mem_map.mpr ⟨(q, e), List.mem_of_getElem? h, rfl⟩)
    · exact Or.inr h
  · rintro (h | h)
    · obtain ⟨⟨q', e⟩, hx, rfl⟩ := List.mem_map.mp h
      obtain ⟨k, hk⟩ := List.getElem?_of_mem hx
      exact Or.inl ⟨k, e, hk⟩
    · exact Or.inr h
theorem vP_perm {D : va_G} {cl : List vw_C} {ws ws' : va_W} {H : Heap} (h : ws.Perm ws') (hP : va_P D cl ws H) : va_P D cl ws' H :=
  vP_iff.mpr fun x hx => vP_iff.mp hP x (h.mem_iff.mpr hx)
theorem vD_perm {A : Nat → Prop} {ws ws' : va_W} (h : ws.Perm ws') (hD : va_D A ws) : va_D A ws' := by
  obtain ⟨h1, h2⟩ := vD_iff.mp hD
  exact vD_iff.mpr ⟨(h.map _).nodup_iff.mp h1, fun x hx => h2 x (h.mem_iff.mpr hx)⟩
/-- the frame: behind a call the cells that aren't the callee's are as they were -/
theorem frame_app {D : va_G} {cl : List vw_C} {A : Nat → Prop} {L1 W0 L2 W1 : va_W} {H H1 : Heap} (hP : va_P D cl (L1 ++ (W0 ++ L2)) H) (hD : va_D A (L1 ++ (W0 ++ L2)))
    (hk : ∀ q : Nat, q < H.size → ¬ va_A W0 H.size q → H1[q]? = H[q]?) (hF : ∀ q, va_A W0 H.size q → A q) (hP1 : va_P D cl W1 H1) (hD1 : va_D (va_A W0 H.size) W1) :
    va_P D cl (L1 ++ (W1 ++ L2)) H1 ∧ va_D A (L1 ++ (W1 ++ L2)) := by
  rw [vP_iff] at hP hP1
  rw [vD_iff] at hD hD1
  obtain ⟨hn, ha⟩ := hD
  obtain ⟨hn1, ha1⟩ := hD1
  have lt : ∀ x ∈ L1 ++ (W0 ++ L2), x.1 < H.size := fun x hx => (hP x hx).lt
  simp only [List.map_append] at hn
  rw [List.nodup_append] at hn
  obtain ⟨n1, n2, n3⟩ := hn
  rw [List.nodup_append] at n2
  obtain ⟨n4, n5, n6⟩ := n2
  have apart : ∀ x, (x ∈ L1 ∨ x ∈ L2) → ¬ va_A W0 H.size x.1 := by
    intro x hx h
    rcases vA_iff.mp h with h | h
    · rcases hx with hx | hx
      · exact n3 x.1 (List.mem_map.mpr ⟨x, hx, rfl⟩) x.1 (List.mem_append_left _ h) rfl
      · exact n6 x.1 h x.1 (List.mem_map.mpr ⟨x, hx, rfl⟩) rfl
    · have : x.1 < H.size := lt x (by rcases hx with hx | hx <;> simp [hx])
      omega
  refine ⟨vP_iff.mpr fun x hx => ?_, vD_iff.mpr ⟨?_, fun x hx => ?_⟩⟩
  · simp only [List.mem_append] at hx
    rcases hx with hx | hx | hx
    · exact (hP x (by simp [hx])).kept (hk x.1 (lt x (by simp [hx])) (apart x (Or.inl hx)))
    · exact hP1 x hx
    · exact (hP x (by simp [hx])).kept (hk x.1 (lt x (by simp [hx])) (apart x (Or.inr hx)))
  · simp only [List.map_append]
    rw [List.nodup_append]
    refine ⟨n1, List.nodup_append.mpr ⟨hn1, n5, ?_⟩, ?_⟩
    · intro a h1 b h2 e
      subst e
      obtain ⟨x, hx, rfl⟩ := List.mem_map.mp h1
      obtain ⟨y, hy, e⟩ := List.mem_map.mp h2
      exact apart y (Or.inr hy) (by rw [e]; exact ha1 x hx)
    · intro a h1 b h2 e
      subst e
      obtain ⟨y, hy, rfl⟩ := List.mem_map.mp h1
      rcases List.mem_append.mp h2 with h2 | h2
      · obtain ⟨x, hx, e⟩ := List.mem_map.mp h2
        exact apart y (Or.inl hy) (by rw [← e]; exact ha1 x hx)
      · exact n3 y.1 h1 y.1 (List.mem_append_right _ h2) rfl
  · simp only [List.mem_append] at hx
    rcases hx with hx | hx | hx
    · exact ha x (by simp [hx])
    · exact hF _ (ha1 x hx)
    · exact ha x (by simp [hx])
-- the words between nest mates, and of arrays of references
def nwM : List (String × Nat × MethodName × String) := [("HotAisle$Aisle", 11, ⟨"HotAisle$Stuff", "<init>", "()V"⟩, "HotAisle"), ("HotAisle$Aisle", 51, ⟨"HotAisle$Books", "<init>", "()V"⟩, "HotAisle"), ("HotAisle$Books", 11, ⟨"HotAisle$Stuff", "<init>", "()V"⟩, "HotAisle"), ("HotAisle$Vessel", 11, ⟨"HotAisle$Stuff", "<init>", "()V"⟩, "HotAisle"), ("HotAisle$Ladle", 11, ⟨"HotAisle$Stuff", "<init>", "()V"⟩, "HotAisle"), ("HotAisle$Aisle", 87, ⟨"HotAisle", "isBetween", "(III)Z"⟩, "HotAisle"), ("HotAisle$Vessel", 47, ⟨"HotAisle", "isBetween", "(III)Z"⟩, "HotAisle"), ("HotAisle$Vessel", 29, ⟨"HotAisle", "oneIf", "(Z)I"⟩, "HotAisle"), ("HotAisle$Crane", 41, ⟨"HotAisle", "copyRow", "([I[I)V"⟩, "HotAisle")]
def nw (U : State) : Prop := (∀ q ∈ nwM, va_Nw (.methodLinkNest q.1 q.2.1 q.2.2.1 q.2.2.2) U) ∧ va_Nw (.fieldLinkNest "HotAisle$Aisle" 18 "HotAisle" "VESSEL_PLACES" "[I" "HotAisle") U ∧ va_Nw (.fieldLinkNest "HotAisle$Aisle" 28 "HotAisle" "FIRST_LADLE_PLACES" "[I" "HotAisle") U ∧ va_AO "HotAisle$Vessel" U ∧ va_AO "HotAisle$Ladle" U ∧ va_AO "HotAisle$Aisle" U
theorem nw_warm {s U : State} (hW : s.WarmedH U.vm) (h : nw s) : nw U :=
  ⟨fun q hq => va_Nw.warmM hW (h.1 q hq), va_Nw.warmF hW h.2.1, va_Nw.warmF hW h.2.2.1, h.2.2.2.1.moved hW.alike, h.2.2.2.2.1.moved hW.alike, h.2.2.2.2.2.moved hW.alike⟩
theorem nw_same {u U : State} (e : u.vm = U.vm) (h : nw u) : nw U :=
  ⟨fun q hq => va_Nw.same rfl e (h.1 q hq), va_Nw.same rfl e h.2.1, va_Nw.same rfl e h.2.2.1, h.2.2.2.1.moved (e ▸ Vm.Alike.refl u.vm), h.2.2.2.2.1.moved (e ▸ Vm.Alike.refl u.vm), h.2.2.2.2.2.moved (e ▸ Vm.Alike.refl u.vm)⟩
abbrev GG : Type := va_G × (Nat → ClassId)
abbrev tysG (G : GG) : List (ClassId × FieldType) := [(G.2 0, .int), (G.2 1, .object "HotAisle$Vessel"), (G.2 2, .object "HotAisle$Ladle"), (G.2 3, .object "HotAisle$Aisle")]
def Kn (G : GG) (U : State) : Prop := va_K G.1 vwCl (tysG G) U ∧ nw U
def Wo (G : GG) (A : Nat → Prop) (H0 H : Heap) (locs : List Loc) (ws : va_W) : Prop := va_P G.1 vwCl ws H ∧ va_D A ws ∧ va_S A H0 H locs
def Qg (G : GG) (post : Option Value → va_W → Prop) (A : Nat → Prop) : Array Value → State → Outcome → State → Prop := fun _ st oc t => (∃ (v : Option Value) (W1 : va_W), oc = .returned v ∧ post v W1 ∧ va_P G.1 vwCl W1 t.heap ∧ va_D A W1) ∧ va_F A st t
def Ct (l : Launch) (G : GG) (y : MethodName) (cc : ByteArray) (nL : Nat) (ret : Option FieldType) (rm : Room) (args : List Value) (W0 : va_W) (post : Option Value → va_W → Prop) : Prop :=
  ∀ sz : Nat, Met l y (Cond.code y cc nL ret :: bw) rm (va_Pc args (fun U => U.heap.size = sz ∧ va_P G.1 vwCl W0 U.heap ∧ Kn G U ∧ va_D (fun _ => True) W0)) (Qg G post (va_A W0 sz)) rm.cells rm.slots (va_A W0 sz)
def Cx (G : GG) (p : Program) (R : Room) (s : State) (m : MethodId) (args : Array Value) (meth : Method) (c : Code) (own : String) (cc : ByteArray) (nL : Nat) (ret : Option FieldType) (nm : String) (A : Nat → Prop) : Prop :=
  p.tables.exec = Jvm.exec ∧ c.code = cc ∧ c.maxLocals = nL ∧ meth.sig.returnType = ret ∧ meth.locks = false ∧ s.vm.findClass own = some m.cls ∧ (∀ w ∈ bw, w.before args s = true) ∧ meth.name = nm ∧ Kn G s ∧ ∀ q, s.heap.size ≤ q → A q
theorem Ct.mk {l : Launch} {G : GG} {y : MethodName} {cc : ByteArray} {nL : Nat} {ret : Option FieldType} {rm : Room} {args : List Value} {W0 : va_W} {post : Option Value → va_W → Prop} (hy : plainName y.cls = true) (hn : (lg_sl args).length ≤ nL)
    (body : ∀ (p : Program) (e : Env) (s : State) (m : MethodId) (below : List Frame) (meth : Method) (c : Code) (A : Nat → Prop) (H : Heap) (locs : List Loc) (ls : Array Slot), Cx G p rm s m args.toArray meth c y.cls cc nL ret y.name A → Wo G A s.heap H locs W0 → lv_has ls nL (lv_args 0 args) →
      W p l e rm s m args.toArray below meth c H locs 0 0 (MQ below (Qg G post A) args.toArray s rm.cells rm.slots A) (F0 m 0 ls [])) : Ct l G y cc nL ret rm args W0 post := by
  intro sz
  refine Met.ofW (cc := cc) (maxL := nL) (ret := ret) hy rfl ?_
  intro p e s m args' below meth c s₁ B hml hv
  obtain ⟨rfl, hsz, hP, hK, hD0⟩ := hv
  have hts := atoms_spec (ws := Cond.code y cc nL ret :: bw) B.pre
  have hl := lv_entry args (n := nL) hn
  rw [lg_entry_eq]
  subst hsz
  exact body p e s m below meth c (va_A W0 s.heap.size) s.heap [] _ ⟨B.exec, B.bytes, hml, B.returns, B.notSynchronized, findClass_of_methodNamed B.named, fun w hw => hts w (List.mem_cons_of_mem _ hw), (name_of_methodNamed B.named B.method).1, hK, fun q h => Or.inr h⟩ ⟨hP, hD0.self, va_S.rf⟩ hl
section RET
variable {G : GG} {p : Program} {l : Launch} {e : Env} {R : Room} {s : State} {m : MethodId} {args : Array Value} {below : List Frame} {meth : Method} {c : Code} {H : Heap} {locs : List Loc} {cells slots : Nat} {own : String} {cc : ByteArray} {nL : Nat} {ret : Option FieldType} {nm : String} {A : Nat → Prop} {W1 : va_W} {post : Option Value → va_W → Prop} {pc : Nat} {ls : Array Slot}
theorem rt_q {v : Option Value} (wo : Wo G A s.heap H locs W1) (hp : post v W1) : ∀ t : State, t.heap = H → s.WarmedH t.vm → Qg G post A args s (.returned v) t :=
  fun t ht _ => ⟨⟨v, W1, rfl, hp, by rw [ht]; exact wo.1, wo.2.1⟩, wo.2.2.F ht⟩
theorem rt_i {v : Int32} (cx : Cx G p R s m args meth c own cc nL (some .int) nm A) (wo : Wo G A s.heap H locs W1) (hd : decode cc pc = .ok (.ireturn, 1)) (hp : post (some (.int v)) W1) : W p l e R s m args below meth c H locs cells slots (MQ below (Qg G post A) args s cells slots A) (F0 m pc ls [.int v]) :=
  W.iret cx.1 cx.2.1 cx.2.2.2.1 (rt_q wo hp) wo.2.2.2.2 hd cx.2.2.2.2.1
def bi (b : Bool) : Int32 := if b then 1 else 0
theorem bi_nar (b : Bool) : narrow .boolean (.int (bi b)) = .int (bi b) := by cases b <;> rfl
theorem rt_z {b : Bool} (cx : Cx G p R s m args meth c own cc nL (some .boolean) nm A) (wo : Wo G A s.heap H locs W1) (hd : decode cc pc = .ok (.ireturn, 1)) (hp : post (some (.int (bi b))) W1) : W p l e R s m args below meth c H locs cells slots (MQ below (Qg G post A) args s cells slots A) (F0 m pc ls [.int (bi b)]) :=
  W.zret cx.1 cx.2.1 cx.2.2.2.1 (bi_nar b) (rt_q wo hp) wo.2.2.2.2 hd cx.2.2.2.2.1
theorem rt_v (cx : Cx G p R s m args meth c own cc nL none nm A) (wo : Wo G A s.heap H locs W1) (hd : decode cc pc = .ok (.return_, 1)) (hp : post none W1) : W p l e R s m args below meth c H locs cells slots (MQ below (Qg G post A) args s cells slots A) (F0 m pc ls []) :=
  W.vret cx.1 cx.2.1 cx.2.2.2.1 (rt_q wo hp) wo.2.2.2.2 hd cx.2.2.2.2.1
theorem rt_a {C : String} {r : Option Nat} (cx : Cx G p R s m args meth c own cc nL (some (.object C)) nm A) (wo : Wo G A s.heap H locs W1) (hd : decode cc pc = .ok (.areturn, 1)) (hp : post (some (va_rf r)) W1) : W p l e R s m args below meth c H locs cells slots (MQ below (Qg G post A) args s cells slots A) (F0 m pc ls [va_rf r]) :=
  W.aret cx.1 cx.2.1 cx.2.2.2.1 (Or.inl ⟨_, rfl⟩) (by cases r with | none => exact Or.inl rfl | some a => exact Or.inr ⟨a, rfl⟩) (rt_q wo hp) wo.2.2.2.2 hd cx.2.2.2.2.1
end RET
