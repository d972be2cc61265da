/-! small rows for the printed walks -/
theorem rdN {g : St} {i j : Nat} {x v : Int32} (hj : j ≠ i) (hv : g j = v) : upd g i x j = v := by rw [pk_un hj, hv]
theorem rdS {g : St} {i j : Nat} {x : Int32} (hj : j = i) : upd g i x j = x := by rw [hj, pk_us]
section NRM
variable {G : GG} {p : Program} {l : Launch} {e : Env} {R : Room} {s : State} {m : MethodId} {args : Array Value} {below : List Frame} {meth : Method} {c : Code} {H : Heap} {locs : List Loc} {cells slots : Nat} {own : String} {cc : ByteArray} {nL : Nat} {rt : Option FieldType} {nm : String} {A : Nat → Prop} {pc : Nat} {ls : Array Slot} {rest : List Value} {Q : State → Prop} {fr : va_W → va_W} {ad : Nat → Nat} {g : St} {index : Nat} {x : Int32}
theorem nrm_i (k : W p l e R s m args below meth c H locs cells slots Q (F0 m pc ls (.int x :: rest))) : W p l e R s m args below meth c H locs cells slots Q (F0 m pc ls ((some (Value.int x)).toList ++ rest)) := k
theorem nrm_v (k : W p l e R s m args below meth c H locs cells slots Q (F0 m pc ls rest)) : W p l e R s m args below meth c H locs cells slots Q (F0 m pc ls ((none : Option Value).toList ++ rest)) := k
theorem nrm_a {o : Option Nat} {f : Nat → Nat} (kn : ¬ o.isSome = true → W p l e R s m args below meth c H locs cells slots Q (F0 m pc ls (.null :: rest))) (ks : o.isSome = true → W p l e R s m args below meth c H locs cells slots Q (F0 m pc ls (.ref (f (o.getD 0)) :: rest))) : W p l e R s m args below meth c H locs cells slots Q (F0 m pc ls ((some (va_rf (o.map f))).toList ++ rest)) := by
  cases o with
  | none => exact kn (by simp)
  | some q => exact ks rfl

theorem gfi_stuff_copper {t i : Nat} (fr : va_W → va_W) (hfr : Fr fr) (cx : Cx G p R s m args meth c own cc nL rt nm A) (wo : Wo G A s.heap H locs (fr (aw G ad g))) (ht : t < 19) (hn : t ≠ 12) (hi : 4 * t + 0 = i) (hlk : Cond.fieldLink own index "HotAisle$Stuff" "copper" "I" ∈ bw) (hdg : decode cc pc = .ok (.getfield index, 3)) (kk : W p l e R s m args below meth c H locs cells slots Q (F0 m (pc + 3) ls (.int (g i) :: rest))) : W p l e R s m args below meth c H locs cells slots Q (F0 m pc ls (.ref (ad t) :: rest)) := by
  subst hi; exact gf_stuff_copper fr hfr cx wo ht hn hlk hdg kk
theorem pfi_stuff_copper {t i : Nat} (fr : va_W → va_W) (hfr : Fr fr) (cx : Cx G p R s m args meth c own cc nL rt nm A) (wo : Wo G A s.heap H locs (fr (aw G ad g))) (ht : t < 19) (hn : t ≠ 12) (hi : 4 * t + 0 = i) (hlk : Cond.fieldLink own index "HotAisle$Stuff" "copper" "I" ∈ bw) (hdg : decode cc pc = .ok (.putfield index, 3)) (kk : ∀ (H1 : Heap) (locs1 : List Loc) (g1 : St), g1 = upd g i x → Wo G A s.heap H1 locs1 (fr (aw G ad g1)) → W p l e R s m args below meth c H1 locs1 cells slots Q (F0 m (pc + 3) ls rest)) : W p l e R s m args below meth c H locs cells slots Q (F0 m pc ls (.int x :: .ref (ad t) :: rest)) := by
  subst hi; exact pf_stuff_copper fr hfr cx wo ht hn hlk hdg kk
theorem gfi_stuff_iron {t i : Nat} (fr : va_W → va_W) (hfr : Fr fr) (cx : Cx G p R s m args meth c own cc nL rt nm A) (wo : Wo G A s.heap H locs (fr (aw G ad g))) (ht : t < 19) (hn : t ≠ 12) (hi : 4 * t + 1 = i) (hlk : Cond.fieldLink own index "HotAisle$Stuff" "iron" "I" ∈ bw) (hdg : decode cc pc = .ok (.getfield index, 3)) (kk : W p l e R s m args below meth c H locs cells slots Q (F0 m (pc + 3) ls (.int (g i) :: rest))) : W p l e R s m args below meth c H locs cells slots Q (F0 m pc ls (.ref (ad t) :: rest)) := by
  subst hi; exact gf_stuff_iron fr hfr cx wo ht hn hlk hdg kk
theorem pfi_stuff_iron {t i : Nat} (fr : va_W → va_W) (hfr : Fr fr) (cx : Cx G p R s m args meth c own cc nL rt nm A) (wo : Wo G A s.heap H locs (fr (aw G ad g))) (ht : t < 19) (hn : t ≠ 12) (hi : 4 * t + 1 = i) (hlk : Cond.fieldLink own index "HotAisle$Stuff" "iron" "I" ∈ bw) (hdg : decode cc pc = .ok (.putfield index, 3)) (kk : ∀ (H1 : Heap) (locs1 : List Loc) (g1 : St), g1 = upd g i x → Wo G A s.heap H1 locs1 (fr (aw G ad g1)) → W p l e R s m args below meth c H1 locs1 cells slots Q (F0 m (pc + 3) ls rest)) : W p l e R s m args below meth c H locs cells slots Q (F0 m pc ls (.int x :: .ref (ad t) :: rest)) := by
  subst hi; exact pf_stuff_iron fr hfr cx wo ht hn hlk hdg kk
theorem gfi_stuff_sulphur {t i : Nat} (fr : va_W → va_W) (hfr : Fr fr) (cx : Cx G p R s m args meth c own cc nL rt nm A) (wo : Wo G A s.heap H locs (fr (aw G ad g))) (ht : t < 19) (hn : t ≠ 12) (hi : 4 * t + 2 = i) (hlk : Cond.fieldLink own index "HotAisle$Stuff" "sulphur" "I" ∈ bw) (hdg : decode cc pc = .ok (.getfield index, 3)) (kk : W p l e R s m args below meth c H locs cells slots Q (F0 m (pc + 3) ls (.int (g i) :: rest))) : W p l e R s m args below meth c H locs cells slots Q (F0 m pc ls (.ref (ad t) :: rest)) := by
  subst hi; exact gf_stuff_sulphur fr hfr cx wo ht hn hlk hdg kk
theorem pfi_stuff_sulphur {t i : Nat} (fr : va_W → va_W) (hfr : Fr fr) (cx : Cx G p R s m args meth c own cc nL rt nm A) (wo : Wo G A s.heap H locs (fr (aw G ad g))) (ht : t < 19) (hn : t ≠ 12) (hi : 4 * t + 2 = i) (hlk : Cond.fieldLink own index "HotAisle$Stuff" "sulphur" "I" ∈ bw) (hdg : decode cc pc = .ok (.putfield index, 3)) (kk : ∀ (H1 : Heap) (locs1 : List Loc) (g1 : St), g1 = upd g i x → Wo G A s.heap H1 locs1 (fr (aw G ad g1)) → W p l e R s m args below meth c H1 locs1 cells slots Q (F0 m (pc + 3) ls rest)) : W p l e R s m args below meth c H locs cells slots Q (F0 m pc ls (.int x :: .ref (ad t) :: rest)) := by
  subst hi; exact pf_stuff_sulphur fr hfr cx wo ht hn hlk hdg kk
theorem gfi_stuff_slag {t i : Nat} (fr : va_W → va_W) (hfr : Fr fr) (cx : Cx G p R s m args meth c own cc nL rt nm A) (wo : Wo G A s.heap H locs (fr (aw G ad g))) (ht : t < 19) (hn : t ≠ 12) (hi : 4 * t + 3 = i) (hlk : Cond.fieldLink own index "HotAisle$Stuff" "slag" "I" ∈ bw) (hdg : decode cc pc = .ok (.getfield index, 3)) (kk : W p l e R s m args below meth c H locs cells slots Q (F0 m (pc + 3) ls (.int (g i) :: rest))) : W p l e R s m args below meth c H locs cells slots Q (F0 m pc ls (.ref (ad t) :: rest)) := by
  subst hi; exact gf_stuff_slag fr hfr cx wo ht hn hlk hdg kk
theorem pfi_stuff_slag {t i : Nat} (fr : va_W → va_W) (hfr : Fr fr) (cx : Cx G p R s m args meth c own cc nL rt nm A) (wo : Wo G A s.heap H locs (fr (aw G ad g))) (ht : t < 19) (hn : t ≠ 12) (hi : 4 * t + 3 = i) (hlk : Cond.fieldLink own index "HotAisle$Stuff" "slag" "I" ∈ bw) (hdg : decode cc pc = .ok (.putfield index, 3)) (kk : ∀ (H1 : Heap) (locs1 : List Loc) (g1 : St), g1 = upd g i x → Wo G A s.heap H1 locs1 (fr (aw G ad g1)) → W p l e R s m args below meth c H1 locs1 cells slots Q (F0 m (pc + 3) ls rest)) : W p l e R s m args below meth c H locs cells slots Q (F0 m pc ls (.int x :: .ref (ad t) :: rest)) := by
  subst hi; exact pf_stuff_slag fr hfr cx wo ht hn hlk hdg kk
end NRM
theorem fx_X0_init : Fx yX0_init cX0_init 2 (none : Option Jvm.ClassFile.FieldType) 0 := ⟨m_60, m_40, by decide, by decide, by decide +kernel⟩
theorem fx_X0_copyFrom : Fx yX0_copyFrom cX0_copyFrom 3 (none : Option Jvm.ClassFile.FieldType) 1 := ⟨m_592, m_40, by decide, by decide, by decide +kernel⟩
theorem fx_X0_vesselNumbered : Fx yX0_vesselNumbered cX0_vesselNumbered 2 (some (Jvm.ClassFile.FieldType.object "HotAisle$Vessel")) 1 := ⟨m_313, m_40, by decide, by decide, by decide +kernel⟩
theorem fx_X0_vesselAt : Fx yX0_vesselAt cX0_vesselAt 6 (some (Jvm.ClassFile.FieldType.object "HotAisle$Vessel")) 1 := ⟨m_449, m_40, by decide, by decide, by decide +kernel⟩
theorem fx_X0_isFloor : Fx yX0_isFloor cX0_isFloor 2 (some Jvm.ClassFile.FieldType.boolean) 1 := ⟨m_457, m_40, by decide, by decide, by decide +kernel⟩
theorem fx_X0_ladleNumbered : Fx yX0_ladleNumbered cX0_ladleNumbered 2 (some (Jvm.ClassFile.FieldType.object "HotAisle$Ladle")) 1 := ⟨m_433, m_40, by decide, by decide, by decide +kernel⟩
theorem fx_X0_numberOfLadleOn : Fx yX0_numberOfLadleOn cX0_numberOfLadleOn 3 (some Jvm.ClassFile.FieldType.int) 1 := ⟨m_429, m_40, by decide, by decide, by decide +kernel⟩
theorem fx_X0_ladleStandingAt : Fx yX0_ladleStandingAt cX0_ladleStandingAt 6 (some (Jvm.ClassFile.FieldType.object "HotAisle$Ladle")) 1 := ⟨m_445, m_40, by decide, by decide, by decide +kernel⟩
theorem fx_X0_craneNumbered : Fx yX0_craneNumbered cX0_craneNumbered 2 (some (Jvm.ClassFile.FieldType.object "HotAisle$Crane")) 1 := ⟨m_335, m_40, by decide, by decide, by decide +kernel⟩
theorem fx_X0_hasOrders : Fx yX0_hasOrders cX0_hasOrders 1 (some Jvm.ClassFile.FieldType.boolean) 0 := ⟨m_527, m_40, by decide, by decide, by decide +kernel⟩
theorem fx_X0_stuffAt : Fx yX0_stuffAt cX0_stuffAt 3 (some Jvm.ClassFile.FieldType.int) 2 := ⟨m_563, m_40, by decide, by decide, by decide +kernel⟩
theorem fx_X0_inVessels : Fx yX0_inVessels cX0_inVessels 7 (some Jvm.ClassFile.FieldType.int) 1 := ⟨m_568, m_40, by decide, by decide, by decide +kernel⟩
theorem fx_X0_inLadles : Fx yX0_inLadles cX0_inLadles 7 (some Jvm.ClassFile.FieldType.int) 1 := ⟨m_572, m_40, by decide, by decide, by decide +kernel⟩
theorem fx_X0_inSkulls : Fx yX0_inSkulls cX0_inSkulls 7 (some Jvm.ClassFile.FieldType.int) 1 := ⟨m_576, m_40, by decide, by decide, by decide +kernel⟩
theorem fx_X0_passMinute : Fx yX0_passMinute cX0_passMinute 1 (none : Option Jvm.ClassFile.FieldType) 0 := ⟨m_351, m_40, by decide, by decide, by decide +kernel⟩
theorem fx_X0_feedFurnace : Fx yX0_feedFurnace cX0_feedFurnace 1 (none : Option Jvm.ClassFile.FieldType) 0 := ⟨m_355, m_40, by decide, by decide, by decide +kernel⟩
theorem fx_X0_feed : Fx yX0_feed cX0_feed 3 (none : Option Jvm.ClassFile.FieldType) 2 := ⟨m_360, m_40, by decide, by decide, by decide +kernel⟩
theorem fx_X0_blowVessels : Fx yX0_blowVessels cX0_blowVessels 5 (none : Option Jvm.ClassFile.FieldType) 0 := ⟨m_368, m_40, by decide, by decide, by decide +kernel⟩
theorem fx_X0_blowParts : Fx yX0_blowParts cX0_blowParts 5 (none : Option Jvm.ClassFile.FieldType) 1 := ⟨m_372, m_40, by decide, by decide, by decide +kernel⟩
theorem fx_X0_burn : Fx yX0_burn cX0_burn 4 (none : Option Jvm.ClassFile.FieldType) 3 := ⟨m_384, m_40, by decide, by decide, by decide +kernel⟩
theorem fx_X0_castAnode : Fx yX0_castAnode cX0_castAnode 1 (none : Option Jvm.ClassFile.FieldType) 0 := ⟨m_395, m_40, by decide, by decide, by decide +kernel⟩
theorem fx_X0_work : Fx yX0_work cX0_work 4 (none : Option Jvm.ClassFile.FieldType) 2 := ⟨m_399, m_40, by decide, by decide, by decide +kernel⟩
theorem fx_X0_finishFirst : Fx yX0_finishFirst cX0_finishFirst 2 (none : Option Jvm.ClassFile.FieldType) 1 := ⟨m_411, m_40, by decide, by decide, by decide +kernel⟩
theorem fx_X0_stepOrWait : Fx yX0_stepOrWait cX0_stepOrWait 5 (none : Option Jvm.ClassFile.FieldType) 2 := ⟨m_421, m_40, by decide, by decide, by decide +kernel⟩
theorem fx_X0_isCarriedOut : Fx yX0_isCarriedOut cX0_isCarriedOut 4 (some Jvm.ClassFile.FieldType.boolean) 1 := ⟨m_437, m_40, by decide, by decide, by decide +kernel⟩
theorem fx_X0_take : Fx yX0_take cX0_take 3 (some Jvm.ClassFile.FieldType.boolean) 1 := ⟨m_441, m_40, by decide, by decide, by decide +kernel⟩
theorem fx_X0_set : Fx yX0_set cX0_set 2 (some Jvm.ClassFile.FieldType.boolean) 1 := ⟨m_453, m_40, by decide, by decide, by decide +kernel⟩
theorem fx_X0_tap : Fx yX0_tap cX0_tap 8 (some Jvm.ClassFile.FieldType.boolean) 1 := ⟨m_461, m_40, by decide, by decide, by decide +kernel⟩
theorem fx_X0_tapStuff : Fx yX0_tapStuff cX0_tapStuff 4 (none : Option Jvm.ClassFile.FieldType) 3 := ⟨m_470, m_40, by decide, by decide, by decide +kernel⟩
theorem fx_X0_pour : Fx yX0_pour cX0_pour 5 (some Jvm.ClassFile.FieldType.boolean) 2 := ⟨m_474, m_40, by decide, by decide, by decide +kernel⟩
theorem fx_X0_canPour : Fx yX0_canPour cX0_canPour 3 (some Jvm.ClassFile.FieldType.boolean) 3 := ⟨m_482, m_40, by decide, by decide, by decide +kernel⟩
theorem fx_X0_skim : Fx yX0_skim cX0_skim 4 (some Jvm.ClassFile.FieldType.boolean) 2 := ⟨m_507, m_40, by decide, by decide, by decide +kernel⟩
theorem fx_X0_draw : Fx yX0_draw cX0_draw 3 (some Jvm.ClassFile.FieldType.boolean) 2 := ⟨m_510, m_40, by decide, by decide, by decide +kernel⟩
theorem fx_X0_clean : Fx yX0_clean cX0_clean 3 (some Jvm.ClassFile.FieldType.boolean) 1 := ⟨m_518, m_40, by decide, by decide, by decide +kernel⟩
theorem fx_X1_init : Fx yX1_init cX1_init 1 (none : Option Jvm.ClassFile.FieldType) 0 := ⟨m_131, m_43, by decide, by decide, by decide +kernel⟩
theorem fx_X1_answer : Fx yX1_answer cX1_answer 2 (some Jvm.ClassFile.FieldType.int) 1 := ⟨m_584, m_43, by decide, by decide, by decide +kernel⟩
theorem fx_X1_copyFrom : Fx yX1_copyFrom cX1_copyFrom 2 (none : Option Jvm.ClassFile.FieldType) 1 := ⟨m_619, m_43, by decide, by decide, by decide +kernel⟩
theorem fx_X2_init : Fx yX2_init cX2_init 3 (none : Option Jvm.ClassFile.FieldType) 2 := ⟨m_100, m_42, by decide, by decide, by decide +kernel⟩
theorem fx_X2_answer : Fx yX2_answer cX2_answer 2 (some Jvm.ClassFile.FieldType.int) 1 := ⟨m_536, m_42, by decide, by decide, by decide +kernel⟩
theorem fx_X2_firstWhat : Fx yX2_firstWhat cX2_firstWhat 1 (some Jvm.ClassFile.FieldType.int) 0 := ⟨m_407, m_42, by decide, by decide, by decide +kernel⟩
theorem fx_X2_goesWhereItIs : Fx yX2_goesWhereItIs cX2_goesWhereItIs 1 (some Jvm.ClassFile.FieldType.boolean) 0 := ⟨m_403, m_42, by decide, by decide, by decide +kernel⟩
theorem fx_X2_nextPlace : Fx yX2_nextPlace cX2_nextPlace 1 (some Jvm.ClassFile.FieldType.int) 0 := ⟨m_425, m_42, by decide, by decide, by decide +kernel⟩
theorem fx_X2_addOrder : Fx yX2_addOrder cX2_addOrder 3 (some Jvm.ClassFile.FieldType.boolean) 2 := ⟨m_339, m_42, by decide, by decide, by decide +kernel⟩
theorem fx_X2_removeFirst : Fx yX2_removeFirst cX2_removeFirst 2 (none : Option Jvm.ClassFile.FieldType) 0 := ⟨m_415, m_42, by decide, by decide, by decide +kernel⟩
theorem fx_X2_copyFrom : Fx yX2_copyFrom cX2_copyFrom 2 (none : Option Jvm.ClassFile.FieldType) 1 := ⟨m_612, m_42, by decide, by decide, by decide +kernel⟩
theorem fx_X3_init : Fx yX3_init cX3_init 2 (none : Option Jvm.ClassFile.FieldType) 1 := ⟨m_225, m_45, by decide, by decide, by decide +kernel⟩
theorem fx_X3_answer : Fx yX3_answer cX3_answer 2 (some Jvm.ClassFile.FieldType.int) 1 := ⟨m_545, m_45, by decide, by decide, by decide +kernel⟩
theorem fx_X3_room : Fx yX3_room cX3_room 1 (some Jvm.ClassFile.FieldType.int) 0 := ⟨m_465, m_45, by decide, by decide, by decide +kernel⟩
theorem fx_X3_stuffThatFreezes : Fx yX3_stuffThatFreezes cX3_stuffThatFreezes 1 (some Jvm.ClassFile.FieldType.int) 0 := ⟨m_478, m_45, by decide, by decide, by decide +kernel⟩
theorem fx_X3_freeze : Fx yX3_freeze cX3_freeze 5 (none : Option Jvm.ClassFile.FieldType) 1 := ⟨m_486, m_45, by decide, by decide, by decide +kernel⟩
theorem fx_X3_empty : Fx yX3_empty cX3_empty 1 (none : Option Jvm.ClassFile.FieldType) 0 := ⟨m_500, m_45, by decide, by decide, by decide +kernel⟩
theorem fx_X3_copyFrom : Fx yX3_copyFrom cX3_copyFrom 2 (none : Option Jvm.ClassFile.FieldType) 1 := ⟨m_607, m_45, by decide, by decide, by decide +kernel⟩
theorem fx_X4_init : Fx yX4_init cX4_init 1 (none : Option Jvm.ClassFile.FieldType) 0 := ⟨m_66, m_41, by decide, by decide, by decide +kernel⟩
theorem fx_X4_of : Fx yX4_of cX4_of 2 (some Jvm.ClassFile.FieldType.int) 1 := ⟨m_490, m_41, by decide, by decide, by decide +kernel⟩
theorem fx_X4_add : Fx yX4_add cX4_add 3 (none : Option Jvm.ClassFile.FieldType) 2 := ⟨m_364, m_41, by decide, by decide, by decide +kernel⟩
theorem fx_X4_all : Fx yX4_all cX4_all 1 (some Jvm.ClassFile.FieldType.int) 0 := ⟨m_318, m_41, by decide, by decide, by decide +kernel⟩
theorem fx_X4_addAll : Fx yX4_addAll cX4_addAll 2 (none : Option Jvm.ClassFile.FieldType) 1 := ⟨m_496, m_41, by decide, by decide, by decide +kernel⟩
theorem fx_X4_clear : Fx yX4_clear cX4_clear 1 (none : Option Jvm.ClassFile.FieldType) 0 := ⟨m_504, m_41, by decide, by decide, by decide +kernel⟩
theorem fx_X4_copyFrom : Fx yX4_copyFrom cX4_copyFrom 2 (none : Option Jvm.ClassFile.FieldType) 1 := ⟨m_596, m_41, by decide, by decide, by decide +kernel⟩
theorem fx_X5_init : Fx yX5_init cX5_init 2 (none : Option Jvm.ClassFile.FieldType) 1 := ⟨m_190, m_44, by decide, by decide, by decide +kernel⟩
theorem fx_X5_answer : Fx yX5_answer cX5_answer 2 (some Jvm.ClassFile.FieldType.int) 1 := ⟨m_553, m_44, by decide, by decide, by decide +kernel⟩
theorem fx_X5_mixHeat : Fx yX5_mixHeat cX5_mixHeat 5 (none : Option Jvm.ClassFile.FieldType) 2 := ⟨m_326, m_44, by decide, by decide, by decide +kernel⟩
theorem fx_X5_isTooColdOrTooHot : Fx yX5_isTooColdOrTooHot cX5_isTooColdOrTooHot 1 (some Jvm.ClassFile.FieldType.boolean) 0 := ⟨m_376, m_44, by decide, by decide, by decide +kernel⟩
theorem fx_X5_holdsCopperAlone : Fx yX5_holdsCopperAlone cX5_holdsCopperAlone 1 (some Jvm.ClassFile.FieldType.boolean) 0 := ⟨m_514, m_44, by decide, by decide, by decide +kernel⟩
theorem fx_X5_cool : Fx yX5_cool cX5_cool 1 (none : Option Jvm.ClassFile.FieldType) 0 := ⟨m_388, m_44, by decide, by decide, by decide +kernel⟩
theorem fx_X5_copyFrom : Fx yX5_copyFrom cX5_copyFrom 2 (none : Option Jvm.ClassFile.FieldType) 1 := ⟨m_602, m_44, by decide, by decide, by decide +kernel⟩
theorem fx_X6_init : Fx yX6_init cX6_init 2 (none : Option Jvm.ClassFile.FieldType) 0 := ⟨m_52, m_39, by decide, by decide, by decide +kernel⟩
theorem fx_X6_fed : Fx yX6_fed cX6_fed 3 (some Jvm.ClassFile.FieldType.int) 1 := ⟨m_295, m_39, by decide, by decide, by decide +kernel⟩
theorem fx_X6_limit : Fx yX6_limit cX6_limit 3 (some Jvm.ClassFile.FieldType.int) 1 := ⟨m_302, m_39, by decide, by decide, by decide +kernel⟩
theorem fx_X6_blow : Fx yX6_blow cX6_blow 5 (some Jvm.ClassFile.FieldType.int) 2 := ⟨m_309, m_39, by decide, by decide, by decide +kernel⟩
theorem fx_X6_cold : Fx yX6_cold cX6_cold 5 (some Jvm.ClassFile.FieldType.int) 2 := ⟨m_322, m_39, by decide, by decide, by decide +kernel⟩
theorem fx_X6_order : Fx yX6_order cX6_order 5 (some Jvm.ClassFile.FieldType.int) 3 := ⟨m_331, m_39, by decide, by decide, by decide +kernel⟩
theorem fx_X6_drop : Fx yX6_drop cX6_drop 4 (some Jvm.ClassFile.FieldType.int) 1 := ⟨m_343, m_39, by decide, by decide, by decide +kernel⟩
theorem fx_X6_minutes : Fx yX6_minutes cX6_minutes 4 (some Jvm.ClassFile.FieldType.int) 1 := ⟨m_347, m_39, by decide, by decide, by decide +kernel⟩
theorem fx_X6_until : Fx yX6_until cX6_until 3 (some Jvm.ClassFile.FieldType.int) 1 := ⟨m_523, m_39, by decide, by decide, by decide +kernel⟩
theorem fx_X6_crane : Fx yX6_crane cX6_crane 4 (some Jvm.ClassFile.FieldType.int) 2 := ⟨m_531, m_39, by decide, by decide, by decide +kernel⟩
theorem fx_X6_ladle : Fx yX6_ladle cX6_ladle 4 (some Jvm.ClassFile.FieldType.int) 2 := ⟨m_540, m_39, by decide, by decide, by decide +kernel⟩
theorem fx_X6_vessel : Fx yX6_vessel cX6_vessel 4 (some Jvm.ClassFile.FieldType.int) 2 := ⟨m_549, m_39, by decide, by decide, by decide +kernel⟩
theorem fx_X6_book : Fx yX6_book cX6_book 3 (some Jvm.ClassFile.FieldType.int) 2 := ⟨m_559, m_39, by decide, by decide, by decide +kernel⟩
theorem fx_X6_count : Fx yX6_count cX6_count 2 (some Jvm.ClassFile.FieldType.int) 1 := ⟨m_580, m_39, by decide, by decide, by decide +kernel⟩
theorem fx_X6_keep : Fx yX6_keep cX6_keep 1 (some Jvm.ClassFile.FieldType.int) 0 := ⟨m_588, m_39, by decide, by decide, by decide +kernel⟩
theorem fx_X6_back : Fx yX6_back cX6_back 1 (some Jvm.ClassFile.FieldType.int) 0 := ⟨m_624, m_39, by decide, by decide, by decide +kernel⟩
theorem fx_X6_isBetween : Fx yX6_isBetween cX6_isBetween 3 (some Jvm.ClassFile.FieldType.boolean) 3 := ⟨m_305, m_39, by decide, by decide, by decide +kernel⟩
theorem fx_X6_oneIf : Fx yX6_oneIf cX6_oneIf 1 (some Jvm.ClassFile.FieldType.int) 1 := ⟨m_298, m_39, by decide, by decide, by decide +kernel⟩
theorem fx_X6_copyRow : Fx yX6_copyRow cX6_copyRow 3 (none : Option Jvm.ClassFile.FieldType) 2 := ⟨m_615, m_39, by decide, by decide, by decide +kernel⟩
theorem fx_X7_init : Fx yX7_init cX7_init 2 (none : Option Jvm.ClassFile.FieldType) 0 := ⟨m_629, m_46, by decide, by decide, by decide +kernel⟩
theorem fx_X7_in : Fx yX7_in cX7_in 3 (some Jvm.ClassFile.FieldType.boolean) 3 := ⟨m_651, m_46, by decide, by decide, by decide +kernel⟩
theorem fx_X7_fed : Fx yX7_fed cX7_fed 3 (some Jvm.ClassFile.FieldType.int) 1 := ⟨m_644, m_46, by decide, by decide, by decide +kernel⟩
theorem fx_X7_limit : Fx yX7_limit cX7_limit 3 (some Jvm.ClassFile.FieldType.int) 1 := ⟨m_648, m_46, by decide, by decide, by decide +kernel⟩
theorem fx_X7_sum : Fx yX7_sum cX7_sum 2 (some Jvm.ClassFile.FieldType.int) 1 := ⟨m_659, m_46, by decide, by decide, by decide +kernel⟩
theorem fx_X7_blow : Fx yX7_blow cX7_blow 4 (some Jvm.ClassFile.FieldType.int) 2 := ⟨m_655, m_46, by decide, by decide, by decide +kernel⟩
theorem fx_X7_cold : Fx yX7_cold cX7_cold 4 (some Jvm.ClassFile.FieldType.int) 2 := ⟨m_663, m_46, by decide, by decide, by decide +kernel⟩
theorem fx_X7_order : Fx yX7_order cX7_order 4 (some Jvm.ClassFile.FieldType.int) 3 := ⟨m_667, m_46, by decide, by decide, by decide +kernel⟩
theorem fx_X7_drop : Fx yX7_drop cX7_drop 3 (some Jvm.ClassFile.FieldType.int) 1 := ⟨m_671, m_46, by decide, by decide, by decide +kernel⟩
theorem fx_X7_feeds : Fx yX7_feeds cX7_feeds 2 (none : Option Jvm.ClassFile.FieldType) 0 := ⟨m_683, m_46, by decide, by decide, by decide +kernel⟩
theorem fx_X7_blows : Fx yX7_blows cX7_blows 6 (none : Option Jvm.ClassFile.FieldType) 1 := ⟨m_687, m_46, by decide, by decide, by decide +kernel⟩
theorem fx_X7_vesselAt : Fx yX7_vesselAt cX7_vesselAt 1 (some Jvm.ClassFile.FieldType.int) 1 := ⟨m_717, m_46, by decide, by decide, by decide +kernel⟩
theorem fx_X7_isFloor : Fx yX7_isFloor cX7_isFloor 1 (some Jvm.ClassFile.FieldType.boolean) 1 := ⟨m_714, m_46, by decide, by decide, by decide +kernel⟩
theorem fx_X7_standsAt : Fx yX7_standsAt cX7_standsAt 3 (some Jvm.ClassFile.FieldType.int) 1 := ⟨m_707, m_46, by decide, by decide, by decide +kernel⟩
theorem fx_X7_room : Fx yX7_room cX7_room 2 (some Jvm.ClassFile.FieldType.int) 1 := ⟨m_725, m_46, by decide, by decide, by decide +kernel⟩
theorem fx_X7_takes : Fx yX7_takes cX7_takes 4 (some Jvm.ClassFile.FieldType.boolean) 2 := ⟨m_703, m_46, by decide, by decide, by decide +kernel⟩
theorem fx_X7_sets : Fx yX7_sets cX7_sets 4 (some Jvm.ClassFile.FieldType.boolean) 2 := ⟨m_711, m_46, by decide, by decide, by decide +kernel⟩
theorem fx_X7_taps : Fx yX7_taps cX7_taps 10 (some Jvm.ClassFile.FieldType.boolean) 2 := ⟨m_721, m_46, by decide, by decide, by decide +kernel⟩
theorem fx_X7_moves : Fx yX7_moves cX7_moves 5 (none : Option Jvm.ClassFile.FieldType) 4 := ⟨m_729, m_46, by decide, by decide, by decide +kernel⟩
theorem fx_X7_skulls : Fx yX7_skulls cX7_skulls 6 (none : Option Jvm.ClassFile.FieldType) 2 := ⟨m_737, m_46, by decide, by decide, by decide +kernel⟩
theorem fx_X7_pours : Fx yX7_pours cX7_pours 10 (some Jvm.ClassFile.FieldType.boolean) 2 := ⟨m_733, m_46, by decide, by decide, by decide +kernel⟩
theorem fx_X7_skims : Fx yX7_skims cX7_skims 5 (some Jvm.ClassFile.FieldType.boolean) 2 := ⟨m_741, m_46, by decide, by decide, by decide +kernel⟩
theorem fx_X7_draws : Fx yX7_draws cX7_draws 5 (some Jvm.ClassFile.FieldType.boolean) 2 := ⟨m_745, m_46, by decide, by decide, by decide +kernel⟩
theorem fx_X7_cleans : Fx yX7_cleans cX7_cleans 4 (some Jvm.ClassFile.FieldType.boolean) 2 := ⟨m_749, m_46, by decide, by decide, by decide +kernel⟩
theorem fx_X7_does : Fx yX7_does cX7_does 5 (some Jvm.ClassFile.FieldType.boolean) 2 := ⟨m_699, m_46, by decide, by decide, by decide +kernel⟩
theorem fx_X7_finishes : Fx yX7_finishes cX7_finishes 4 (none : Option Jvm.ClassFile.FieldType) 1 := ⟨m_695, m_46, by decide, by decide, by decide +kernel⟩
theorem fx_X7_goes : Fx yX7_goes cX7_goes 4 (none : Option Jvm.ClassFile.FieldType) 1 := ⟨m_691, m_46, by decide, by decide, by decide +kernel⟩
theorem fx_X7_minute : Fx yX7_minute cX7_minute 2 (none : Option Jvm.ClassFile.FieldType) 0 := ⟨m_679, m_46, by decide, by decide, by decide +kernel⟩
theorem fx_X7_minutes : Fx yX7_minutes cX7_minutes 4 (some Jvm.ClassFile.FieldType.int) 1 := ⟨m_675, m_46, by decide, by decide, by decide +kernel⟩
theorem fx_X7_until : Fx yX7_until cX7_until 3 (some Jvm.ClassFile.FieldType.int) 1 := ⟨m_753, m_46, by decide, by decide, by decide +kernel⟩
theorem fx_X7_crane : Fx yX7_crane cX7_crane 3 (some Jvm.ClassFile.FieldType.int) 2 := ⟨m_757, m_46, by decide, by decide, by decide +kernel⟩
theorem fx_X7_ladle : Fx yX7_ladle cX7_ladle 3 (some Jvm.ClassFile.FieldType.int) 2 := ⟨m_761, m_46, by decide, by decide, by decide +kernel⟩
theorem fx_X7_vessel : Fx yX7_vessel cX7_vessel 3 (some Jvm.ClassFile.FieldType.int) 2 := ⟨m_765, m_46, by decide, by decide, by decide +kernel⟩
theorem fx_X7_several : Fx yX7_several cX7_several 6 (some Jvm.ClassFile.FieldType.int) 3 := ⟨m_773, m_46, by decide, by decide, by decide +kernel⟩
theorem fx_X7_book : Fx yX7_book cX7_book 3 (some Jvm.ClassFile.FieldType.int) 2 := ⟨m_769, m_46, by decide, by decide, by decide +kernel⟩
theorem fx_X7_count : Fx yX7_count cX7_count 2 (some Jvm.ClassFile.FieldType.int) 1 := ⟨m_777, m_46, by decide, by decide, by decide +kernel⟩
theorem fx_X7_keep : Fx yX7_keep cX7_keep 2 (some Jvm.ClassFile.FieldType.int) 0 := ⟨m_781, m_46, by decide, by decide, by decide +kernel⟩
theorem fx_X7_back : Fx yX7_back cX7_back 2 (some Jvm.ClassFile.FieldType.int) 0 := ⟨m_785, m_46, by decide, by decide, by decide +kernel⟩
/-! the walk of a body, its end named Q -/
theorem Ct.mk2 {l : Launch} {G : GG} {y : MethodName} {cc : ByteArray} {nL : Nat} {ret : Option FieldType} {rm : Room} {args : List Value} {W0 : va_W} {post : Option Value → va_W → Prop} (hy : plainName y.cls = true) (hn : (lg_sl args).length ≤ nL)
    (body : ∀ (p : Program) (e : Env) (s : State) (m : MethodId) (args' : Array Value) (below : List Frame) (meth : Method) (c : Code) (A : Nat → Prop) (H : Heap) (locs : List Loc) (ls : Array Slot) (Q : State → Prop), Cx G p rm s m args' meth c y.cls cc nL ret y.name A → Wo G A s.heap H locs W0 → lv_has ls nL (lv_args 0 args) → Q = MQ below (Qg G post A) args' s rm.cells rm.slots A →
      W p l e rm s m args' below meth c H locs 0 0 Q (F0 m 0 ls [])) : Ct l G y cc nL ret rm args W0 post :=
  Ct.mk hy hn fun p e s m below meth c A H locs ls cx wo hl => body p e s m _ below meth c A H locs ls _ cx wo hl rfl
section RET2
variable {G : GG} {p : Program} {l : Launch} {e : Env} {R : Room} {s : State} {m : MethodId} {args : Array Value} {below : List Frame} {meth : Method} {c : Code} {H : Heap} {locs : List Loc} {cells slots : Nat} {own : String} {cc : ByteArray} {nL : Nat} {ret : Option FieldType} {nm : String} {A : Nat → Prop} {W1 : va_W} {post : Option Value → va_W → Prop} {pc : Nat} {ls : Array Slot} {Q : State → Prop}
theorem r2_i {v : Int32} (cx : Cx G p R s m args meth c own cc nL (some .int) nm A) (hQ : Q = MQ below (Qg G post A) args s cells slots A) (wo : Wo G A s.heap H locs W1) (hd : decode cc pc = .ok (.ireturn, 1)) (hp : post (some (.int v)) W1) : W p l e R s m args below meth c H locs cells slots Q (F0 m pc ls [.int v]) := by subst hQ; exact rt_i cx wo hd hp
theorem r2_z {b : Bool} (cx : Cx G p R s m args meth c own cc nL (some .boolean) nm A) (hQ : Q = MQ below (Qg G post A) args s cells slots A) (wo : Wo G A s.heap H locs W1) (hd : decode cc pc = .ok (.ireturn, 1)) (hp : post (some (.int (bi b))) W1) : W p l e R s m args below meth c H locs cells slots Q (F0 m pc ls [.int (bi b)]) := by subst hQ; exact rt_z cx wo hd hp
theorem r2_v (cx : Cx G p R s m args meth c own cc nL none nm A) (hQ : Q = MQ below (Qg G post A) args s cells slots A) (wo : Wo G A s.heap H locs W1) (hd : decode cc pc = .ok (.return_, 1)) (hp : post none W1) : W p l e R s m args below meth c H locs cells slots Q (F0 m pc ls []) := by subst hQ; exact rt_v cx wo hd hp
theorem r2_a {C : String} {r : Option Nat} (cx : Cx G p R s m args meth c own cc nL (some (.object C)) nm A) (hQ : Q = MQ below (Qg G post A) args s cells slots A) (wo : Wo G A s.heap H locs W1) (hd : decode cc pc = .ok (.areturn, 1)) (hp : post (some (va_rf r)) W1) : W p l e R s m args below meth c H locs cells slots Q (F0 m pc ls [va_rf r]) := by subst hQ; exact rt_a cx wo hd hp
end RET2
