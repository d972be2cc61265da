/-! constructors: rows over explicit worlds; a contract that also asks for the static arrays -/
def lpv (j : Nat) : Int32 := if j = 0 then 1 else if j = 1 then 6 else if j = 2 then 10 else 14
def SF (A : Nat → Prop) (U : State) : Prop := (∃ t : Nat, va_Z "HotAisle" "VESSEL_PLACES" "[I" (.ref t) A U U.heap ∧ va_T .int t 3 (fun j => .int (nI (4 * j + 4))) A U U.heap) ∧ (∃ t : Nat, va_Z "HotAisle" "FIRST_LADLE_PLACES" "[I" (.ref t) A U U.heap ∧ va_T .int t 4 (fun j => .int (lpv j)) A U U.heap)
theorem SF_moved {A : Nat → Prop} {u U : State} (hvm : u.vm.Alike U.vm) (hh : U.heap = u.heap) (h : SF A u) : SF A U := by
  obtain ⟨⟨t, h1, h2⟩, t', h3, h4⟩ := h
  exact ⟨⟨t, by rw [hh]; exact h1.moved hvm, by rw [hh]; exact h2.moved hvm⟩, t', by rw [hh]; exact h3.moved hvm, by rw [hh]; exact h4.moved hvm⟩
theorem SF_call {A B : Nat → Prop} {s U : State} {H : Heap} {locs : List Loc} (hS : va_S A s.heap H locs) (hU : U.heap = H) (hvm : s.vm.Alike U.vm) (hB : ∀ q, B q → A q) (h : SF A s) : SF B U := by
  obtain ⟨⟨t, h1, h2⟩, t', h3, h4⟩ := h
  have k : ∀ a : Nat, a < s.heap.size → ¬ A a → U.heap[a]? = s.heap[a]? := fun a x y => by rw [hU]; exact hS.2.1 a x y
  exact ⟨⟨t, ((h1.kept k).moved hvm).narrow hB, ((h2.kept k).moved hvm).narrow hB⟩, t', ((h3.kept k).moved hvm).narrow hB, ((h4.kept k).moved hvm).narrow hB⟩
def CtS (l : Launch) (G : GG) (y : MethodName) (cc : ByteArray) (nL : Nat) (ret : Option FieldType) (rm : Room) (args : List Value) (W0 : va_W) (post : Option Value → va_W → Prop) : Prop :=
  ∀ sz : Nat, Met l y (Cond.code y cc nL ret :: bw) rm (va_Pc args (fun U => U.heap.size = sz ∧ va_P G.1 vwCl W0 U.heap ∧ Kn G U ∧ va_D (fun _ => True) W0 ∧ SF (va_A W0 sz) U)) (Qg G post (va_A W0 sz)) rm.cells rm.slots (va_A W0 sz)
theorem CtS.mk2 {l : Launch} {G : GG} {y : MethodName} {cc : ByteArray} {nL : Nat} {ret : Option FieldType} {rm : Room} {args : List Value} {W0 : va_W} {post : Option Value → va_W → Prop} (hy : plainName y.cls = true) (hn : (lg_sl args).length ≤ nL)
    (body : ∀ (p : Program) (e : Env) (s : State) (m : MethodId) (args' : Array Value) (below : List Frame) (meth : Method) (c : Code) (A : Nat → Prop) (H : Heap) (locs : List Loc) (ls : Array Slot) (Q : State → Prop), Cx G p rm s m args' meth c y.cls cc nL ret y.name A → SF A s → Wo G A s.heap H locs W0 → lv_has ls nL (lv_args 0 args) → Q = MQ below (Qg G post A) args' s rm.cells rm.slots A →
      W p l e rm s m args' below meth c H locs 0 0 Q (F0 m 0 ls [])) : CtS l G y cc nL ret rm args W0 post := by
  intro sz
  refine Met.ofW (cc := cc) (maxL := nL) (ret := ret) hy rfl ?_
  intro p e s m args' below meth c s₁ B hml hv
  obtain ⟨rfl, hsz, hP, hK, hD0, hSF⟩ := hv
  have hts := atoms_spec (ws := Cond.code y cc nL ret :: bw) B.pre
  have hl := lv_entry args (n := nL) hn
  rw [lg_entry_eq]
  subst hsz
  exact body p e s m _ below meth c (va_A W0 s.heap.size) s.heap [] _ _ ⟨B.exec, B.bytes, hml, B.returns, B.notSynchronized, findClass_of_methodNamed B.named, fun w hw => hts w (List.mem_cons_of_mem _ hw), (name_of_methodNamed B.named B.method).1, hK, fun q h => Or.inr h⟩ hSF ⟨hP, hD0.self, va_S.rf⟩ hl rfl
section NEW
variable {G : GG} {p : Program} {l : Launch} {e : Env} {R : Room} {s : State} {m : MethodId} {args : Array Value} {below : List Frame} {meth : Method} {c : Code} {H : Heap} {locs : List Loc} {cells slots : Nat} {own : String} {cc : ByteArray} {nL : Nat} {rt : Option FieldType} {nm : String} {A : Nat → Prop} {pc : Nat} {ls : Array Slot} {st0 rest : List Value} {Q : State → Prop} {ws tl : va_W} {index : Nat} {fr : va_W → va_W} {W0 : va_W} {post : Option Value → va_W → Prop}
theorem call_IS {y : MethodName} {cb : ByteArray} {nb : Nat} {rmb : Room} {b : Addr} {As : List Value} {idx n : Nat} (fr : va_W → va_W) (hfr : Fr fr) (cx : Cx G p R s m args meth c own cc nL rt nm A) (hSF : SF A s) (hct : CtS l G y cb nb none rmb (.ref b :: As) W0 post) (fx : Fx y cb nb none n) (h1 : Cond.methodLink own idx y ∈ bw) (h2 : Cond.instanceMethod y ∈ bw) (hy : y.name = "<init>")
    (hR : rmb.frames + 1 ≤ R.frames ∧ 8 + (nb + 11) + rmb.locals ≤ R.locals) (wo : Wo G A s.heap H locs (fr W0)) (hn : As.length = n) (hls : ls.size = nL) (hst : st0 = As.reverse ++ .ref b :: rest) (hw : (rest.map fun v => v.category).sum ≤ 8)
    (hdg : decode cc pc = .ok (.invokespecial idx, 3)) (hf : cells + rmb.cells ≤ R.cells ∧ slots + rmb.slots ≤ R.slots)
    (kk : ∀ (v : Option Value) (W1 : va_W) (H1 : Heap) (locs1 : List Loc), post v W1 → Wo G A s.heap H1 locs1 (fr W1) → W p l e R s m args below meth c H1 locs1 (cells + rmb.cells) (slots + rmb.slots) Q (F0 m (pc + 3) ls (v.toList ++ rest))) : W p l e R s m args below meth c H locs cells slots Q (F0 m pc ls st0) := by
  obtain ⟨hx, hb, hml, hr, hlo, hown, hts, hnm, kn, hA⟩ := cx
  obtain ⟨f1, f2, f3⟩ := fx
  refine run_go hfr (va_runI (As := As) (rest := rest) (b := b) ⟨hx, hb, hml, hown, hts⟩ (hct H.size) ⟨callB_of n hts (gI f1) rfl rfl rfl (hts _ f2) (hts _ h1) f3 hR, hy, hts _ h2⟩ ⟨?_, ?_⟩ rfl hn hls hst (lv_room hw) hdg hf) wo hA kk
  · exact fun a U g mk q => ⟨q.1, q.2.1, q.2.2.1, ⟨va_K.moved (u := U) (U := U.calling g mk a) (Vm.Alike.refl U.vm) q.2.2.2.1.1, nw_same rfl q.2.2.2.1.2⟩, q.2.2.2.2.1, SF_moved (Vm.Alike.refl U.vm) rfl q.2.2.2.2.2⟩
  · refine fun U hU hW => ⟨rfl, by rw [hU], by rw [hU]; exact fr_in hfr wo.1, ⟨va_K.moved hW.alike kn.1, nw_warm hW kn.2⟩, fr_inD hfr wo.2.1, SF_call wo.2.2 hU hW.alike ?_ hSF⟩
    intro q h
    obtain ⟨L1, L2, hfr⟩ := hfr
    have hD := wo.2.1
    rw [hfr] at hD
    rcases vA_iff.mp h with h | h
    · obtain ⟨x, hx, rfl⟩ := List.mem_map.mp h
      exact (vD_iff.mp hD).2 x (by simp [hx])
    · exact hA q (Nat.le_trans wo.2.2.1 h)
theorem objI {q : Nat} (cx : Cx G p R s m args meth c own cc nL rt nm A) (h1 : Cond.methodLink own index Lib.objectInit ∈ bw) (h2 : Cond.instanceMethod Lib.objectInit ∈ bw) (h3 : Cond.code Lib.objectInit ⟨#[0xb1]⟩ 1 none ∈ bw) (hls : ls.size = nL) (hdg : decode cc pc = .ok (.invokespecial index, 3)) (hf : 1 ≤ R.frames) (hlo : (rest.map fun v => v.category).sum + 12 ≤ R.locals)
    (kk : W p l e R s m args below meth c H locs cells slots Q (F0 m (pc + 3) ls rest)) : W p l e R s m args below meth c H locs cells slots Q (F0 m pc ls (.ref q :: rest)) := by
  refine W.objInit cx.1 cx.2.1 cx.2.2.2.2.2.1 (cx.2.2.2.2.2.2.1 _ h1) (cx.2.2.2.2.2.2.1 _ h2) (cx.2.2.2.2.2.2.1 _ h3) rfl (by rw [cx.2.2.1]; exact hls) rfl hdg hf (by show 2 * 0 + _ + 12 ≤ _; omega) ?_
  exact kk
theorem nobj {C : String} {T : u_T} {N ci : Nat} {fs : List Value} (cx : Cx G p R s m args meth c own cc nL rt nm A) (wo : Wo G A s.heap H locs ws) (hin : ∀ w ∈ u_ws C T N, w ∈ bw) (ty : Nat → FieldType) (hty : ∀ k, k < N → parseFieldDescriptor (T k).2.2.1 = some (ty k)) (hcl : Cond.classLink own index C ∈ bw) (hinst : Cond.instantiable C N ∈ bw) (hini : Cond.initialized C ∈ bw) (hc : vwCl[ci]? = some (C, T, N)) (hfs : ∀ j, j < N → defaultValue (ty j) = vp_V fs j) (hcells : cells + 1 ≤ R.cells) (hslots : slots + N ≤ R.slots) (hdg : decode cc pc = .ok (.new index, 3))
    (kk : ∀ (q : Nat) (H1 : Heap), Wo G A s.heap H1 locs (ws ++ [(q, .inr (ci, fs))]) → W p l e R s m args below meth c H1 locs (cells + 1) (slots + N) Q (F0 m (pc + 3) ls (.ref q :: rest))) : W p l e R s m args below meth c H locs cells slots Q (F0 m pc ls rest) :=
  va_new cx.1 cx.2.1 cx.2.2.2.2.2.2.1 hin ty hty cx.2.2.2.2.2.1 (cx.2.2.2.2.2.2.1 _ hcl) (cx.2.2.2.2.2.2.1 _ hinst) (cx.2.2.2.2.2.2.1 _ hini) cx.2.2.2.2.2.2.2.2.1.1 wo.1 wo.2.1 wo.2.2 cx.2.2.2.2.2.2.2.2.2 hc hfs hcells hslots hdg (fun q H1 hP hD hS => kk q H1 ⟨hP, hD, hS⟩)
theorem K_id {D : va_G} {cl : List vw_C} {tys : List (ClassId × FieldType)} {U : State} {cA c0 : ClassId} {ty : FieldType} {t0 : Nat} (hK : va_K D cl (tys ++ [(cA, ty)]) U) (h0 : tys[t0]? = some (c0, ty)) : cA = c0 := by
  have a1 := (hK.2 tys.length (cA, ty) (by simp)).2
  have a2 := (hK.2 t0 (c0, ty) (by rw [List.getElem?_append_left (List.getElem?_eq_some_iff.mp h0).1, h0])).2
  cases ty with
  | object C =>
    obtain ⟨_, _, _, _, _, b1⟩ := a1
    obtain ⟨_, _, _, _, _, b2⟩ := a2
    exact Option.some.inj (b1.symm.trans b2)
  | _ => exact Option.some.inj ((show U.vm.findClass _ = some cA from a1).symm.trans (show U.vm.findClass _ = some c0 from a2))
theorem narr_i {n : Int32} {N : Nat} (cx : Cx G p R s m args meth c own cc nL rt nm A) (wo : Wo G A s.heap H locs ws) (h1 : Cond.arrayClass .int ∈ bw) (hn : n = nI N) (hN : N < 2 ^ 20) (hcells : cells + 1 ≤ R.cells) (hslots : slots + N ≤ R.slots) (hdg : decode cc pc = .ok (.newarray .int, 2))
    (kk : ∀ (q : Nat) (H1 : Heap), Wo G A s.heap H1 locs (ws ++ [(q, .inl (G.2 0, N, .inl (fun _ => 0)))]) → W p l e R s m args below meth c H1 locs (cells + 1) (slots + N) Q (F0 m (pc + 2) ls (.ref q :: rest))) : W p l e R s m args below meth c H locs cells slots Q (F0 m pc ls (.int n :: rest)) := by
  subst hn
  refine va_newa (atype := .int) (ty := .int) (N' := N) (a0 := (N, .inl (fun _ => 0))) cx.1 cx.2.1 (cx.2.2.2.2.2.2.1 _ h1) rfl cx.2.2.2.2.2.2.2.2.1.1 wo.1 wo.2.1 wo.2.2 cx.2.2.2.2.2.2.2.2.2 (fun cA => by rw [vp_cell_i]; rfl) (nI_pos (by omega)) (nI_clamp (by omega)) (by show N * 4 ≤ _; omega) hcells hslots hdg (fun q cA H1 hK hP hD hS => ?_)
  obtain rfl : cA = G.2 0 := K_id (t0 := 0) hK rfl
  exact kk q H1 ⟨hP, hD, hS⟩
theorem narr_q {n : Int32} {N t0 : Nat} {C : String} {cA0 : ClassId} (cx : Cx G p R s m args meth c own cc nL rt nm A) (wo : Wo G A s.heap H locs ws) (h1 : Cond.classLink own index C ∈ bw) (ho : va_AO C s) (ht : (tysG G)[t0]? = some (cA0, .object C)) (hn : n = nI N) (hN : N < 2 ^ 20) (hcells : cells + 1 ≤ R.cells) (hslots : slots + N ≤ R.slots) (hdg : decode cc pc = .ok (.anewarray index, 3))
    (kk : ∀ (q : Nat) (H1 : Heap), Wo G A s.heap H1 locs (ws ++ [(q, .inl (cA0, N, .inr (.inr (.inr (.inr (fun _ => none))))))]) → W p l e R s m args below meth c H1 locs (cells + 1) (slots + N) Q (F0 m (pc + 3) ls (.ref q :: rest))) : W p l e R s m args below meth c H locs cells slots Q (F0 m pc ls (.int n :: rest)) := by
  subst hn
  refine va_newq cx.1 cx.2.1 cx.2.2.2.2.2.1 (cx.2.2.2.2.2.2.1 _ h1) ho cx.2.2.2.2.2.2.2.2.1.1 wo.1 wo.2.1 wo.2.2 cx.2.2.2.2.2.2.2.2.2 (nI_pos (by omega)) (nI_clamp (by omega)) (by omega) hcells hslots hdg (fun q cA H1 hK hP hD hS => ?_)
  obtain rfl : cA = cA0 := K_id (t0 := t0) hK ht
  exact kk q H1 ⟨hP, hD, hS⟩
theorem pthF {a ci k N : Nat} {C : String} {T : u_T} {fs : List Value} {ty : FieldType} {v : Value} (cx : Cx G p R s m args meth c own cc nL rt "<init>" A) (wo : Wo G A s.heap H locs ((a, .inr (ci, fs)) :: tl)) (hc : vwCl[ci]? = some (C, T, N)) (hk : k < N) (hin : ∀ w ∈ u_ws C T N, w ∈ bw) (ty0 : Nat → FieldType) (hty : ∀ k, k < N → parseFieldDescriptor (T k).2.2.1 = some (ty0 k)) (hnm : ∀ a, a < N → ∀ b, b < N → a ≠ b → (T a).2.1 ≠ (T b).2.1) (hC : (T k).1 = C) (hO : C = own) (hl : Cond.fieldLink own index C (T k).2.1 (T k).2.2.1 ∈ bw) (hfin : (T k).2.2.2 = true) (hd : parseFieldDescriptor (T k).2.2.1 = some ty) (hn : narrow ty v = v) (hfit : fits ty v = true) (hlen : k < fs.length) (hdg : decode cc pc = .ok (.putfield index, 3))
    (kk : ∀ (H1 : Heap) (locs1 : List Loc), Wo G A s.heap H1 locs1 ((a, .inr (ci, fs.set k v)) :: tl) → W p l e R s m args below meth c H1 locs1 cells slots Q (F0 m (pc + 3) ls rest)) : W p l e R s m args below meth c H locs cells slots Q (F0 m pc ls (v :: .ref a :: rest)) :=
  va_putF cx.1 cx.2.1 cx.2.2.2.2.2.2.1 hin ty0 hty hnm cx.2.2.2.2.2.1 cx.2.2.2.2.2.2.2.2.1.1 wo.1 wo.2.1 wo.2.2 0 rfl hc k hk (cx.2.2.2.2.2.2.1 _ hl) (fun _ h => by rw [hC] at h; exact h) hfin cx.2.2.2.2.2.2.2.1 (by rw [hC]; exact hO) hd hn hfit hlen hdg (fun H1 locs1 hP hD hS => kk H1 locs1 ⟨hP, hD, hS⟩)
theorem pthN {a ci k N : Nat} {C : String} {T : u_T} {fs : List Value} {ty : FieldType} {v : Value} (cx : Cx G p R s m args meth c own cc nL rt nm A) (wo : Wo G A s.heap H locs ((a, .inr (ci, fs)) :: tl)) (hc : vwCl[ci]? = some (C, T, N)) (hk : k < N) (hin : ∀ w ∈ u_ws C T N, w ∈ bw) (ty0 : Nat → FieldType) (hty : ∀ k, k < N → parseFieldDescriptor (T k).2.2.1 = some (ty0 k)) (hnm : ∀ a, a < N → ∀ b, b < N → a ≠ b → (T a).2.1 ≠ (T b).2.1) (hC : (T k).1 = C) (hl : Cond.fieldLink own index C (T k).2.1 (T k).2.2.1 ∈ bw) (hfin : (T k).2.2.2 = false) (hd : parseFieldDescriptor (T k).2.2.1 = some ty) (hn : narrow ty v = v) (hfit : fits ty v = true) (hlen : k < fs.length) (hdg : decode cc pc = .ok (.putfield index, 3))
    (kk : ∀ (H1 : Heap) (locs1 : List Loc), Wo G A s.heap H1 locs1 ((a, .inr (ci, fs.set k v)) :: tl) → W p l e R s m args below meth c H1 locs1 cells slots Q (F0 m (pc + 3) ls rest)) : W p l e R s m args below meth c H locs cells slots Q (F0 m pc ls (v :: .ref a :: rest)) :=
  va_put cx.1 cx.2.1 cx.2.2.2.2.2.2.1 hin ty0 hty hnm cx.2.2.2.2.2.1 cx.2.2.2.2.2.2.2.2.1.1 wo.1 wo.2.1 wo.2.2 0 rfl hc k hk (cx.2.2.2.2.2.2.1 _ hl) (fun _ h => by rw [hC] at h; exact h) hfin hd hn hfit hlen hdg (fun H1 locs1 hP hD hS => kk H1 locs1 ⟨hP, hD, hS⟩)
theorem ast_q {a j n N t0 qk ci v : Nat} {cA : ClassId} {r : vw_C} {vs : List Value} {f : Nat → Option Nat} {i : Int32} (cx : Cx G p R s m args meth c own cc nL rt nm A) (wo : Wo G A s.heap H locs ws) (ha : ws[j]? = some (a, .inl (cA, N, .inr (.inr (.inr (.inr f)))))) (ht : (tysG G)[t0]? = some (cA, .object r.1)) (hv : ws[qk]? = some (v, .inr (ci, vs))) (hc : vwCl[ci]? = some r) (hi : i = nI n) (hn : n < N) (hN : N < 2 ^ 31) (hdg : decode cc pc = .ok (.aastore, 1))
    (kk : ∀ (H1 : Heap) (locs1 : List Loc), Wo G A s.heap H1 locs1 (ws.set j (a, .inl (cA, N, .inr (.inr (.inr (.inr (va_up f n (some v)))))))) → W p l e R s m args below meth c H1 locs1 cells slots Q (F0 m (pc + 1) ls rest)) : W p l e R s m args below meth c H locs cells slots Q (F0 m pc ls (.ref v :: .int i :: .ref a :: rest)) := by
  subst hi
  refine va_astq cx.1 cx.2.1 cx.2.2.2.2.2.2.2.2.1.1 wo.1 wo.2.1 wo.2.2 j t0 qk ci ha ht hv hc (vp_in_nI hn hN) hdg (fun H1 locs1 hP hD hS => ?_)
  rw [nI_clamp (by omega)] at hP hD
  exact kk H1 locs1 ⟨hP, hD, hS⟩
end NEW
/-- an array of references reads no place beyond its length -/
theorem Wo_arr {G : GG} {A : Nat → Prop} {H0 H : Heap} {locs : List Loc} {ws : va_W} {k a n : Nat} {cA : ClassId} {f : Nat → Option Nat} (f' : Nat → Option Nat) (hk : ws[k]? = some (a, .inl (cA, n, .inr (.inr (.inr (.inr f)))))) (hf : ∀ i, i < n → f' i = f i) (wo : Wo G A H0 H locs ws) : Wo G A H0 H locs (ws.set k (a, .inl (cA, n, .inr (.inr (.inr (.inr f')))))) := by
  have e : vp_cell cA (n, .inr (.inr (.inr (.inr f')))) = vp_cell cA (n, .inr (.inr (.inr (.inr f)))) := by
    rw [vp_cell_q, vp_cell_q]
    unfold arrV
    have : (fun j : Fin n => va_rf (f' j.val)) = (fun j : Fin n => va_rf (f j.val)) := funext fun j => by rw [hf _ j.isLt]
    rw [this]
  obtain ⟨hP, hD, hS⟩ := wo
  have hlt := (List.getElem?_eq_some_iff.mp hk).1
  refine ⟨fun i q hq => ?_, ⟨fun i j x y hx hy hxy => ?_, fun i q hq => ?_⟩, hS⟩
  · rw [List.getElem?_set] at hq
    by_cases h : k = i
    · subst h
      rw [if_pos rfl, if_pos hlt] at hq
      cases hq
      have := hP k _ hk
      show H[a]? = some (vp_cell _ _)
      rw [e]; exact this
    · rw [if_neg h] at hq; exact hP i q hq
  · have g : ∀ (i : Nat) (x : Nat × va_E), (ws.set k (a, .inl (cA, n, .inr (.inr (.inr (.inr f'))))))[i]? = some x → ∃ y, ws[i]? = some y ∧ y.1 = x.1 := by
      intro i x hx
      rw [List.getElem?_set] at hx
      by_cases h : k = i
      · subst h
        rw [if_pos rfl, if_pos hlt] at hx
        cases hx
        exact ⟨_, hk, rfl⟩
      · rw [if_neg h] at hx; exact ⟨x, hx, rfl⟩
    obtain ⟨x', h1, h2⟩ := g i x hx
    obtain ⟨y', h3, h4⟩ := g j y hy
    exact hD.1 i j x' y' h1 h3 (by rw [h2, h4, hxy])
  · rw [List.getElem?_set] at hq
    by_cases h : k = i
    · subst h
      rw [if_pos rfl, if_pos hlt] at hq
      cases hq
      have := hD.2 k _ hk
      exact this
    · rw [if_neg h] at hq; exact hD.2 i q hq
