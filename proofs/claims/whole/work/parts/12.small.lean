/-! printed walks: the small classes -/
abbrev rm_X6_isBetween : Room := { frames := 0, cells := 0, slots := 0, locals := 0 }
def m_X6_isBetween (a : Int32) (x : Int32) (b : Int32) : Bool :=
  if x < a then false
  else if b < x then false
  else true
set_option maxHeartbeats 4000000 in
set_option maxRecDepth 100000 in
theorem c_X6_isBetween (l : Launch) (G : GG) (W0 : va_W) (a : Int32) (x : Int32) (b : Int32) : Ct l G yX6_isBetween cX6_isBetween 3 (some Jvm.ClassFile.FieldType.boolean) rm_X6_isBetween [.int a, .int x, .int b] (W0) (fun rv W1 => rv = some (.int (bi (m_X6_isBetween a x b))) ∧ W1 = W0) := by
  refine Ct.mk2 (by decide) (Nat.le_of_ble_eq_true rfl) ?_
  intro p e s m args below meth c A H locs ls Q cx wo hl hQ
  obtain ⟨hx, hb, hml, hr, hlo, hown, hts, hnm, kn, hA⟩ := id cx
  have hl : lv_has ls 3 [(0, .int a), (1, .int x), (2, .int b)] := hl
  generalize hM : m_X6_isBetween a x b = M at hQ
  unfold m_X6_isBetween at hM
  refine lv_iload_n hx hb dX6_isBetween_0 rfl (lv_at hl 0 rfl) ?_
  refine lv_iload_n hx hb dX6_isBetween_1 rfl (lv_at hl 1 rfl) ?_
  refine lv_icmp_gt (tgt := 14) hx hb dX6_isBetween_2 (by decide) (fun c_1 => ?_) (fun c_1 => ?_)
  · skip
    rw [if_pos c_1] at hM
    refine lv_iconst (v := 0) hx hb dX6_isBetween_14 (by decide) ?_
    refine tope (y := bi false) rfl ?_
    exact r2_z cx hQ wo dX6_isBetween_15 (by subst hM; exact ⟨rfl, rfl⟩)
  · skip
    rw [if_neg c_1] at hM
    refine lv_iload_n hx hb dX6_isBetween_5 rfl (lv_at hl 1 rfl) ?_
    refine lv_iload_n hx hb dX6_isBetween_6 rfl (lv_at hl 2 rfl) ?_
    refine lv_icmp_gt (tgt := 14) hx hb dX6_isBetween_7 (by decide) (fun c_2 => ?_) (fun c_2 => ?_)
    · skip
      rw [if_pos c_2] at hM
      refine lv_iconst (v := 0) hx hb dX6_isBetween_14 (by decide) ?_
      refine tope (y := bi false) rfl ?_
      exact r2_z cx hQ wo dX6_isBetween_15 (by subst hM; exact ⟨rfl, rfl⟩)
    · skip
      rw [if_neg c_2] at hM
      refine lv_iconst (v := 1) hx hb dX6_isBetween_10 (by decide) ?_
      refine lv_goto (tgt := 15) hx hb dX6_isBetween_11 (by decide) ?_
      refine tope (y := bi true) rfl ?_
      exact r2_z cx hQ wo dX6_isBetween_15 (by subst hM; exact ⟨rfl, rfl⟩)
abbrev rm_X6_oneIf : Room := { frames := 0, cells := 0, slots := 0, locals := 0 }
def m_X6_oneIf (x : Int32) : Int32 :=
  if x = 0 then 0
  else 1
set_option maxHeartbeats 4000000 in
set_option maxRecDepth 100000 in
theorem c_X6_oneIf (l : Launch) (G : GG) (W0 : va_W) (x : Int32) : Ct l G yX6_oneIf cX6_oneIf 1 (some Jvm.ClassFile.FieldType.int) rm_X6_oneIf [.int x] (W0) (fun rv W1 => rv = some (.int (m_X6_oneIf x)) ∧ W1 = W0) := by
  refine Ct.mk2 (by decide) (Nat.le_of_ble_eq_true rfl) ?_
  intro p e s m args below meth c A H locs ls Q cx wo hl hQ
  obtain ⟨hx, hb, hml, hr, hlo, hown, hts, hnm, kn, hA⟩ := id cx
  have hl : lv_has ls 1 [(0, .int x)] := hl
  generalize hM : m_X6_oneIf x = M at hQ
  unfold m_X6_oneIf at hM
  refine lv_iload_n hx hb dX6_oneIf_0 rfl (lv_at hl 0 rfl) ?_
  refine lv_if_eq (tgt := 8) hx hb dX6_oneIf_1 (by decide) (fun c_1 => ?_) (fun c_1 => ?_)
  · skip
    rw [if_pos c_1] at hM
    refine lv_iconst (v := 0) hx hb dX6_oneIf_8 (by decide) ?_
    exact r2_i cx hQ wo dX6_oneIf_9 (by subst hM; exact ⟨rfl, rfl⟩)
  · skip
    rw [if_neg c_1] at hM
    refine lv_iconst (v := 1) hx hb dX6_oneIf_4 (by decide) ?_
    refine lv_goto (tgt := 9) hx hb dX6_oneIf_5 (by decide) ?_
    exact r2_i cx hQ wo dX6_oneIf_9 (by subst hM; exact ⟨rfl, rfl⟩)
abbrev rm_X4_of : Room := { frames := 0, cells := 0, slots := 0, locals := 0 }
def m_X4_of (g : St) (t : Nat) (k : Int32) : Int32 :=
  if k = 1 then (g (4 * t))
  else if k = 2 then (g (1 + 4 * t))
  else if k = 3 then (g (2 + 4 * t))
  else if k = 4 then (g (3 + 4 * t))
  else 0
set_option maxHeartbeats 4000000 in
set_option maxRecDepth 100000 in
theorem c_X4_of (l : Launch) (G : GG) (ad : Nat → Nat) (g : St) {t : Nat} (ht : t < 19) (hn : t ≠ 12) (k : Int32) : Ct l G yX4_of cX4_of 2 (some Jvm.ClassFile.FieldType.int) rm_X4_of [.ref (ad t), .int k] (aw G ad g) (fun rv W1 => rv = some (.int (m_X4_of g t k)) ∧ W1 = aw G ad g) := by
  refine Ct.mk2 (by decide) (Nat.le_of_ble_eq_true rfl) ?_
  intro p e s m args below meth c A H locs ls Q cx wo hl hQ
  obtain ⟨hx, hb, hml, hr, hlo, hown, hts, hnm, kn, hA⟩ := id cx
  have hl : lv_has ls 2 [(0, .ref (ad t)), (1, .int k)] := hl
  generalize hM : m_X4_of g t k = M at hQ
  unfold m_X4_of at hM
  refine lv_iload_n hx hb dX4_of_0 rfl (lv_at hl 1 rfl) ?_
  by_cases c_1 : k = 1
  · skip
    rw [if_pos c_1] at hM
    refine lv_tableIn (off := 31) (tgt := 32) hx hb dX4_of_1 (by rw [c_1]; decide) (by rw [c_1]; decide) (by rw [c_1]; decide) (by decide) ?_
    refine lv_aload_n hx hb dX4_of_32 rfl (lv_at hl 0 rfl) ?_
    refine gfi_stuff_copper (t := t) (i := 4 * t) (fun X => X) Fr_id cx wo (by omega) (by omega) (by omega) m_68 dX4_of_33 ?_
    exact r2_i cx hQ wo dX4_of_36 (by subst hM; exact ⟨rfl, rfl⟩)
  rw [if_neg c_1] at hM
  by_cases c_2 : k = 2
  · skip
    rw [if_pos c_2] at hM
    refine lv_tableIn (off := 36) (tgt := 37) hx hb dX4_of_1 (by rw [c_2]; decide) (by rw [c_2]; decide) (by rw [c_2]; decide) (by decide) ?_
    refine lv_aload_n hx hb dX4_of_37 rfl (lv_at hl 0 rfl) ?_
    refine gfi_stuff_iron (t := t) (i := 1 + 4 * t) (fun X => X) Fr_id cx wo (by omega) (by omega) (by omega) m_72 dX4_of_38 ?_
    exact r2_i cx hQ wo dX4_of_41 (by subst hM; exact ⟨rfl, rfl⟩)
  rw [if_neg c_2] at hM
  by_cases c_3 : k = 3
  · skip
    rw [if_pos c_3] at hM
    refine lv_tableIn (off := 41) (tgt := 42) hx hb dX4_of_1 (by rw [c_3]; decide) (by rw [c_3]; decide) (by rw [c_3]; decide) (by decide) ?_
    refine lv_aload_n hx hb dX4_of_42 rfl (lv_at hl 0 rfl) ?_
    refine gfi_stuff_sulphur (t := t) (i := 2 + 4 * t) (fun X => X) Fr_id cx wo (by omega) (by omega) (by omega) m_74 dX4_of_43 ?_
    exact r2_i cx hQ wo dX4_of_46 (by subst hM; exact ⟨rfl, rfl⟩)
  rw [if_neg c_3] at hM
  by_cases c_4 : k = 4
  · skip
    rw [if_pos c_4] at hM
    refine lv_tableIn (off := 46) (tgt := 47) hx hb dX4_of_1 (by rw [c_4]; decide) (by rw [c_4]; decide) (by rw [c_4]; decide) (by decide) ?_
    refine lv_aload_n hx hb dX4_of_47 rfl (lv_at hl 0 rfl) ?_
    refine gfi_stuff_slag (t := t) (i := 3 + 4 * t) (fun X => X) Fr_id cx wo (by omega) (by omega) (by omega) m_77 dX4_of_48 ?_
    exact r2_i cx hQ wo dX4_of_51 (by subst hM; exact ⟨rfl, rfl⟩)
  rw [if_neg c_4] at hM
  refine lv_tableOut (tgt := 52) hx hb dX4_of_1 (by have q0 := lv_neT c_1 (a := 1) rfl; have q1 := lv_neT c_2 (a := 2) rfl; have q2 := lv_neT c_3 (a := 3) rfl; have q3 := lv_neT c_4 (a := 4) rfl; omega) (by decide) ?_
  refine lv_iconst (v := 0) hx hb dX4_of_52 (by decide) ?_
  exact r2_i cx hQ wo dX4_of_53 (by subst hM; exact ⟨rfl, rfl⟩)
abbrev rm_X4_add : Room := { frames := 0, cells := 0, slots := 0, locals := 0 }
def m_X4_add (g : St) (t : Nat) (k : Int32) (n : Int32) : St :=
  if k = 1 then (upd g (4 * t) ((g (4 * t)) + n))
  else if k = 2 then (upd g (1 + 4 * t) ((g (1 + 4 * t)) + n))
  else if k = 3 then (upd g (2 + 4 * t) ((g (2 + 4 * t)) + n))
  else if k = 4 then (upd g (3 + 4 * t) ((g (3 + 4 * t)) + n))
  else g
set_option maxHeartbeats 4000000 in
set_option maxRecDepth 100000 in
theorem c_X4_add (l : Launch) (G : GG) (ad : Nat → Nat) (g : St) {t : Nat} (ht : t < 19) (hn : t ≠ 12) (k : Int32) (n : Int32) : Ct l G yX4_add cX4_add 3 (none : Option Jvm.ClassFile.FieldType) rm_X4_add [.ref (ad t), .int k, .int n] (aw G ad g) (fun rv W1 => rv = none ∧ W1 = aw G ad (m_X4_add g t k n)) := by
  refine Ct.mk2 (by decide) (Nat.le_of_ble_eq_true rfl) ?_
  intro p e s m args below meth c A H locs ls Q cx wo hl hQ
  obtain ⟨hx, hb, hml, hr, hlo, hown, hts, hnm, kn, hA⟩ := id cx
  have hl : lv_has ls 3 [(0, .ref (ad t)), (1, .int k), (2, .int n)] := hl
  generalize hM : m_X4_add g t k n = M at hQ
  unfold m_X4_add at hM
  refine lv_iload_n hx hb dX4_add_0 rfl (lv_at hl 1 rfl) ?_
  by_cases c_1 : k = 1
  · skip
    rw [if_pos c_1] at hM
    refine lv_tableIn (off := 31) (tgt := 32) hx hb dX4_add_1 (by rw [c_1]; decide) (by rw [c_1]; decide) (by rw [c_1]; decide) (by decide) ?_
    refine lv_aload_n hx hb dX4_add_32 rfl (lv_at hl 0 rfl) ?_
    refine lv_dup hx hb dX4_add_33 rfl ?_
    refine gfi_stuff_copper (t := t) (i := 4 * t) (fun X => X) Fr_id cx wo (by omega) (by omega) (by omega) m_68 dX4_add_34 ?_
    refine lv_iload_n hx hb dX4_add_37 rfl (lv_at hl 2 rfl) ?_
    refine lv_iadd hx hb dX4_add_38 ?_
    refine pfi_stuff_copper (t := t) (i := 4 * t) (fun X => X) Fr_id cx wo (by omega) (by omega) (by omega) m_68 dX4_add_39 (fun H locs gz hgz wo => ?_)
    subst hgz
    refine lv_goto (tgt := 84) hx hb dX4_add_42 (by decide) ?_
    exact r2_v cx hQ wo dX4_add_84 (by subst hM; exact ⟨rfl, rfl⟩)
  rw [if_neg c_1] at hM
  by_cases c_2 : k = 2
  · skip
    rw [if_pos c_2] at hM
    refine lv_tableIn (off := 44) (tgt := 45) hx hb dX4_add_1 (by rw [c_2]; decide) (by rw [c_2]; decide) (by rw [c_2]; decide) (by decide) ?_
    refine lv_aload_n hx hb dX4_add_45 rfl (lv_at hl 0 rfl) ?_
    refine lv_dup hx hb dX4_add_46 rfl ?_
    refine gfi_stuff_iron (t := t) (i := 1 + 4 * t) (fun X => X) Fr_id cx wo (by omega) (by omega) (by omega) m_72 dX4_add_47 ?_
    refine lv_iload_n hx hb dX4_add_50 rfl (lv_at hl 2 rfl) ?_
    refine lv_iadd hx hb dX4_add_51 ?_
    refine pfi_stuff_iron (t := t) (i := 1 + 4 * t) (fun X => X) Fr_id cx wo (by omega) (by omega) (by omega) m_72 dX4_add_52 (fun H locs gz hgz wo => ?_)
    subst hgz
    refine lv_goto (tgt := 84) hx hb dX4_add_55 (by decide) ?_
    exact r2_v cx hQ wo dX4_add_84 (by subst hM; exact ⟨rfl, rfl⟩)
  rw [if_neg c_2] at hM
  by_cases c_3 : k = 3
  · skip
    rw [if_pos c_3] at hM
    refine lv_tableIn (off := 57) (tgt := 58) hx hb dX4_add_1 (by rw [c_3]; decide) (by rw [c_3]; decide) (by rw [c_3]; decide) (by decide) ?_
    refine lv_aload_n hx hb dX4_add_58 rfl (lv_at hl 0 rfl) ?_
    refine lv_dup hx hb dX4_add_59 rfl ?_
    refine gfi_stuff_sulphur (t := t) (i := 2 + 4 * t) (fun X => X) Fr_id cx wo (by omega) (by omega) (by omega) m_74 dX4_add_60 ?_
    refine lv_iload_n hx hb dX4_add_63 rfl (lv_at hl 2 rfl) ?_
    refine lv_iadd hx hb dX4_add_64 ?_
    refine pfi_stuff_sulphur (t := t) (i := 2 + 4 * t) (fun X => X) Fr_id cx wo (by omega) (by omega) (by omega) m_74 dX4_add_65 (fun H locs gz hgz wo => ?_)
    subst hgz
    refine lv_goto (tgt := 84) hx hb dX4_add_68 (by decide) ?_
    exact r2_v cx hQ wo dX4_add_84 (by subst hM; exact ⟨rfl, rfl⟩)
  rw [if_neg c_3] at hM
  by_cases c_4 : k = 4
  · skip
    rw [if_pos c_4] at hM
    refine lv_tableIn (off := 70) (tgt := 71) hx hb dX4_add_1 (by rw [c_4]; decide) (by rw [c_4]; decide) (by rw [c_4]; decide) (by decide) ?_
    refine lv_aload_n hx hb dX4_add_71 rfl (lv_at hl 0 rfl) ?_
    refine lv_dup hx hb dX4_add_72 rfl ?_
    refine gfi_stuff_slag (t := t) (i := 3 + 4 * t) (fun X => X) Fr_id cx wo (by omega) (by omega) (by omega) m_77 dX4_add_73 ?_
    refine lv_iload_n hx hb dX4_add_76 rfl (lv_at hl 2 rfl) ?_
    refine lv_iadd hx hb dX4_add_77 ?_
    refine pfi_stuff_slag (t := t) (i := 3 + 4 * t) (fun X => X) Fr_id cx wo (by omega) (by omega) (by omega) m_77 dX4_add_78 (fun H locs gz hgz wo => ?_)
    subst hgz
    refine lv_goto (tgt := 84) hx hb dX4_add_81 (by decide) ?_
    exact r2_v cx hQ wo dX4_add_84 (by subst hM; exact ⟨rfl, rfl⟩)
  rw [if_neg c_4] at hM
  refine lv_tableOut (tgt := 84) hx hb dX4_add_1 (by have q0 := lv_neT c_1 (a := 1) rfl; have q1 := lv_neT c_2 (a := 2) rfl; have q2 := lv_neT c_3 (a := 3) rfl; have q3 := lv_neT c_4 (a := 4) rfl; omega) (by decide) ?_
  exact r2_v cx hQ wo dX4_add_84 (by subst hM; exact ⟨rfl, rfl⟩)
abbrev rm_X4_of_1 : Room := rm_X4_of
theorem c_X4_of_1 (l : Launch) (G : GG) (ad : Nat → Nat) (g : St) {t i : Nat} (ht : t < 19) (hn : t ≠ 12) (hi : 0 + 4 * t = i) : Ct l G yX4_of cX4_of 2 (some Jvm.ClassFile.FieldType.int) rm_X4_of_1 [.ref (ad t), .int 1] (aw G ad g) (fun rv W1 => rv = some (.int (g i)) ∧ W1 = aw G ad g) := by
  have h := c_X4_of l G ad g ht hn 1
  rw [show m_X4_of g t 1 = g i from by subst hi; simp [m_X4_of]] at h
  exact h
abbrev rm_X4_add_1 : Room := rm_X4_add
theorem c_X4_add_1 (l : Launch) (G : GG) (ad : Nat → Nat) (g : St) {t i : Nat} (ht : t < 19) (hn : t ≠ 12) (hi : 0 + 4 * t = i) (n : Int32) : Ct l G yX4_add cX4_add 3 (none : Option Jvm.ClassFile.FieldType) rm_X4_add_1 [.ref (ad t), .int 1, .int n] (aw G ad g) (fun rv W1 => rv = none ∧ W1 = aw G ad (upd g i (g i + n))) := by
  have h := c_X4_add l G ad g ht hn 1 n
  rw [show m_X4_add g t 1 n = upd g i (g i + n) from by subst hi; simp [m_X4_add]] at h
  exact h
abbrev rm_X4_of_2 : Room := rm_X4_of
theorem c_X4_of_2 (l : Launch) (G : GG) (ad : Nat → Nat) (g : St) {t i : Nat} (ht : t < 19) (hn : t ≠ 12) (hi : 1 + 4 * t = i) : Ct l G yX4_of cX4_of 2 (some Jvm.ClassFile.FieldType.int) rm_X4_of_2 [.ref (ad t), .int 2] (aw G ad g) (fun rv W1 => rv = some (.int (g i)) ∧ W1 = aw G ad g) := by
  have h := c_X4_of l G ad g ht hn 2
  rw [show m_X4_of g t 2 = g i from by subst hi; simp [m_X4_of]] at h
  exact h
abbrev rm_X4_add_2 : Room := rm_X4_add
theorem c_X4_add_2 (l : Launch) (G : GG) (ad : Nat → Nat) (g : St) {t i : Nat} (ht : t < 19) (hn : t ≠ 12) (hi : 1 + 4 * t = i) (n : Int32) : Ct l G yX4_add cX4_add 3 (none : Option Jvm.ClassFile.FieldType) rm_X4_add_2 [.ref (ad t), .int 2, .int n] (aw G ad g) (fun rv W1 => rv = none ∧ W1 = aw G ad (upd g i (g i + n))) := by
  have h := c_X4_add l G ad g ht hn 2 n
  rw [show m_X4_add g t 2 n = upd g i (g i + n) from by subst hi; simp [m_X4_add]] at h
  exact h
abbrev rm_X4_of_3 : Room := rm_X4_of
theorem c_X4_of_3 (l : Launch) (G : GG) (ad : Nat → Nat) (g : St) {t i : Nat} (ht : t < 19) (hn : t ≠ 12) (hi : 2 + 4 * t = i) : Ct l G yX4_of cX4_of 2 (some Jvm.ClassFile.FieldType.int) rm_X4_of_3 [.ref (ad t), .int 3] (aw G ad g) (fun rv W1 => rv = some (.int (g i)) ∧ W1 = aw G ad g) := by
  have h := c_X4_of l G ad g ht hn 3
  rw [show m_X4_of g t 3 = g i from by subst hi; simp [m_X4_of]] at h
  exact h
abbrev rm_X4_add_3 : Room := rm_X4_add
theorem c_X4_add_3 (l : Launch) (G : GG) (ad : Nat → Nat) (g : St) {t i : Nat} (ht : t < 19) (hn : t ≠ 12) (hi : 2 + 4 * t = i) (n : Int32) : Ct l G yX4_add cX4_add 3 (none : Option Jvm.ClassFile.FieldType) rm_X4_add_3 [.ref (ad t), .int 3, .int n] (aw G ad g) (fun rv W1 => rv = none ∧ W1 = aw G ad (upd g i (g i + n))) := by
  have h := c_X4_add l G ad g ht hn 3 n
  rw [show m_X4_add g t 3 n = upd g i (g i + n) from by subst hi; simp [m_X4_add]] at h
  exact h
abbrev rm_X4_of_4 : Room := rm_X4_of
theorem c_X4_of_4 (l : Launch) (G : GG) (ad : Nat → Nat) (g : St) {t i : Nat} (ht : t < 19) (hn : t ≠ 12) (hi : 3 + 4 * t = i) : Ct l G yX4_of cX4_of 2 (some Jvm.ClassFile.FieldType.int) rm_X4_of_4 [.ref (ad t), .int 4] (aw G ad g) (fun rv W1 => rv = some (.int (g i)) ∧ W1 = aw G ad g) := by
  have h := c_X4_of l G ad g ht hn 4
  rw [show m_X4_of g t 4 = g i from by subst hi; simp [m_X4_of]] at h
  exact h
abbrev rm_X4_add_4 : Room := rm_X4_add
theorem c_X4_add_4 (l : Launch) (G : GG) (ad : Nat → Nat) (g : St) {t i : Nat} (ht : t < 19) (hn : t ≠ 12) (hi : 3 + 4 * t = i) (n : Int32) : Ct l G yX4_add cX4_add 3 (none : Option Jvm.ClassFile.FieldType) rm_X4_add_4 [.ref (ad t), .int 4, .int n] (aw G ad g) (fun rv W1 => rv = none ∧ W1 = aw G ad (upd g i (g i + n))) := by
  have h := c_X4_add l G ad g ht hn 4 n
  rw [show m_X4_add g t 4 n = upd g i (g i + n) from by subst hi; simp [m_X4_add]] at h
  exact h
abbrev rm_X4_all : Room := { frames := 0, cells := 0, slots := 0, locals := 0 }
def m_X4_all (g : St) (t : Nat) : Int32 :=
  ((((g (4 * t)) + (g (1 + 4 * t))) + (g (2 + 4 * t))) + (g (3 + 4 * t)))
set_option maxHeartbeats 4000000 in
set_option maxRecDepth 100000 in
theorem c_X4_all (l : Launch) (G : GG) (ad : Nat → Nat) (g : St) {t : Nat} (ht : t < 19) (hn : t ≠ 12) : Ct l G yX4_all cX4_all 1 (some Jvm.ClassFile.FieldType.int) rm_X4_all [.ref (ad t)] (aw G ad g) (fun rv W1 => rv = some (.int (m_X4_all g t)) ∧ W1 = aw G ad g) := by
  refine Ct.mk2 (by decide) (Nat.le_of_ble_eq_true rfl) ?_
  intro p e s m args below meth c A H locs ls Q cx wo hl hQ
  obtain ⟨hx, hb, hml, hr, hlo, hown, hts, hnm, kn, hA⟩ := id cx
  have hl : lv_has ls 1 [(0, .ref (ad t))] := hl
  generalize hM : m_X4_all g t = M at hQ
  unfold m_X4_all at hM
  refine lv_aload_n hx hb dX4_all_0 rfl (lv_at hl 0 rfl) ?_
  refine gfi_stuff_copper (t := t) (i := 4 * t) (fun X => X) Fr_id cx wo (by omega) (by omega) (by omega) m_68 dX4_all_1 ?_
  refine lv_aload_n hx hb dX4_all_4 rfl (lv_at hl 0 rfl) ?_
  refine gfi_stuff_iron (t := t) (i := 1 + 4 * t) (fun X => X) Fr_id cx wo (by omega) (by omega) (by omega) m_72 dX4_all_5 ?_
  refine lv_iadd hx hb dX4_all_8 ?_
  refine lv_aload_n hx hb dX4_all_9 rfl (lv_at hl 0 rfl) ?_
  refine gfi_stuff_sulphur (t := t) (i := 2 + 4 * t) (fun X => X) Fr_id cx wo (by omega) (by omega) (by omega) m_74 dX4_all_10 ?_
  refine lv_iadd hx hb dX4_all_13 ?_
  refine lv_aload_n hx hb dX4_all_14 rfl (lv_at hl 0 rfl) ?_
  refine gfi_stuff_slag (t := t) (i := 3 + 4 * t) (fun X => X) Fr_id cx wo (by omega) (by omega) (by omega) m_77 dX4_all_15 ?_
  refine lv_iadd hx hb dX4_all_18 ?_
  exact r2_i cx hQ wo dX4_all_19 (by subst hM; exact ⟨rfl, rfl⟩)
abbrev rm_X4_addAll : Room := { frames := 0, cells := 0, slots := 0, locals := 0 }
def m_X4_addAll (g : St) (t : Nat) (t2 : Nat) : St :=
  (upd (upd (upd (upd g (4 * t) ((g (4 * t)) + (g (4 * t2)))) (1 + 4 * t) ((g (1 + 4 * t)) + ((upd g (4 * t) ((g (4 * t)) + (g (4 * t2)))) (1 + 4 * t2)))) (2 + 4 * t) ((g (2 + 4 * t)) + ((upd (upd g (4 * t) ((g (4 * t)) + (g (4 * t2)))) (1 + 4 * t) ((g (1 + 4 * t)) + ((upd g (4 * t) ((g (4 * t)) + (g (4 * t2)))) (1 + 4 * t2)))) (2 + 4 * t2)))) (3 + 4 * t) ((g (3 + 4 * t)) + ((upd (upd (upd g (4 * t) ((g (4 * t)) + (g (4 * t2)))) (1 + 4 * t) ((g (1 + 4 * t)) + ((upd g (4 * t) ((g (4 * t)) + (g (4 * t2)))) (1 + 4 * t2)))) (2 + 4 * t) ((g (2 + 4 * t)) + ((upd (upd g (4 * t) ((g (4 * t)) + (g (4 * t2)))) (1 + 4 * t) ((g (1 + 4 * t)) + ((upd g (4 * t) ((g (4 * t)) + (g (4 * t2)))) (1 + 4 * t2)))) (2 + 4 * t2)))) (3 + 4 * t2))))
set_option maxHeartbeats 4000000 in
set_option maxRecDepth 100000 in
theorem c_X4_addAll (l : Launch) (G : GG) (ad : Nat → Nat) (g : St) {t : Nat} (ht : t < 19) (hn : t ≠ 12) {t2 : Nat} (ht2 : t2 < 19) (nt2 : t2 ≠ 12) : Ct l G yX4_addAll cX4_addAll 2 (none : Option Jvm.ClassFile.FieldType) rm_X4_addAll [.ref (ad t), .ref (ad t2)] (aw G ad g) (fun rv W1 => rv = none ∧ W1 = aw G ad (m_X4_addAll g t t2)) := by
  refine Ct.mk2 (by decide) (Nat.le_of_ble_eq_true rfl) ?_
  intro p e s m args below meth c A H locs ls Q cx wo hl hQ
  obtain ⟨hx, hb, hml, hr, hlo, hown, hts, hnm, kn, hA⟩ := id cx
  have hl : lv_has ls 2 [(0, .ref (ad t)), (1, .ref (ad t2))] := hl
  generalize hM : m_X4_addAll g t t2 = M at hQ
  unfold m_X4_addAll at hM
  refine lv_aload_n hx hb dX4_addAll_0 rfl (lv_at hl 0 rfl) ?_
  refine lv_dup hx hb dX4_addAll_1 rfl ?_
  refine gfi_stuff_copper (t := t) (i := 4 * t) (fun X => X) Fr_id cx wo (by omega) (by omega) (by omega) m_68 dX4_addAll_2 ?_
  refine lv_aload_n hx hb dX4_addAll_5 rfl (lv_at hl 1 rfl) ?_
  refine gfi_stuff_copper (t := t2) (i := 4 * t2) (fun X => X) Fr_id cx wo (by omega) (by omega) (by omega) m_68 dX4_addAll_6 ?_
  refine lv_iadd hx hb dX4_addAll_9 ?_
  refine pfi_stuff_copper (t := t) (i := 4 * t) (fun X => X) Fr_id cx wo (by omega) (by omega) (by omega) m_68 dX4_addAll_10 (fun H locs gz hgz wo => ?_)
  subst hgz
  refine lv_aload_n hx hb dX4_addAll_13 rfl (lv_at hl 0 rfl) ?_
  refine lv_dup hx hb dX4_addAll_14 rfl ?_
  refine gfi_stuff_iron (t := t) (i := 1 + 4 * t) (fun X => X) Fr_id cx wo (by omega) (by omega) (by omega) m_72 dX4_addAll_15 ?_
  refine tope (y := (g (1 + 4 * t))) (show (upd g (4 * t) ((g (4 * t)) + (g (4 * t2)))) (1 + 4 * t) = (g (1 + 4 * t)) from (rdN (by omega) rfl)) ?_
  refine lv_aload_n hx hb dX4_addAll_18 rfl (lv_at hl 1 rfl) ?_
  refine gfi_stuff_iron (t := t2) (i := 1 + 4 * t2) (fun X => X) Fr_id cx wo (by omega) (by omega) (by omega) m_72 dX4_addAll_19 ?_
  refine lv_iadd hx hb dX4_addAll_22 ?_
  refine pfi_stuff_iron (t := t) (i := 1 + 4 * t) (fun X => X) Fr_id cx wo (by omega) (by omega) (by omega) m_72 dX4_addAll_23 (fun H locs gz hgz wo => ?_)
  subst hgz
  refine lv_aload_n hx hb dX4_addAll_26 rfl (lv_at hl 0 rfl) ?_
  refine lv_dup hx hb dX4_addAll_27 rfl ?_
  refine gfi_stuff_sulphur (t := t) (i := 2 + 4 * t) (fun X => X) Fr_id cx wo (by omega) (by omega) (by omega) m_74 dX4_addAll_28 ?_
  refine tope (y := (g (2 + 4 * t))) (show (upd (upd g (4 * t) ((g (4 * t)) + (g (4 * t2)))) (1 + 4 * t) ((g (1 + 4 * t)) + ((upd g (4 * t) ((g (4 * t)) + (g (4 * t2)))) (1 + 4 * t2)))) (2 + 4 * t) = (g (2 + 4 * t)) from (rdN (by omega) (rdN (by omega) rfl))) ?_
  refine lv_aload_n hx hb dX4_addAll_31 rfl (lv_at hl 1 rfl) ?_
  refine gfi_stuff_sulphur (t := t2) (i := 2 + 4 * t2) (fun X => X) Fr_id cx wo (by omega) (by omega) (by omega) m_74 dX4_addAll_32 ?_
  refine lv_iadd hx hb dX4_addAll_35 ?_
  refine pfi_stuff_sulphur (t := t) (i := 2 + 4 * t) (fun X => X) Fr_id cx wo (by omega) (by omega) (by omega) m_74 dX4_addAll_36 (fun H locs gz hgz wo => ?_)
  subst hgz
  refine lv_aload_n hx hb dX4_addAll_39 rfl (lv_at hl 0 rfl) ?_
  refine lv_dup hx hb dX4_addAll_40 rfl ?_
  refine gfi_stuff_slag (t := t) (i := 3 + 4 * t) (fun X => X) Fr_id cx wo (by omega) (by omega) (by omega) m_77 dX4_addAll_41 ?_
  refine tope (y := (g (3 + 4 * t))) (show (upd (upd (upd g (4 * t) ((g (4 * t)) + (g (4 * t2)))) (1 + 4 * t) ((g (1 + 4 * t)) + ((upd g (4 * t) ((g (4 * t)) + (g (4 * t2)))) (1 + 4 * t2)))) (2 + 4 * t) ((g (2 + 4 * t)) + ((upd (upd g (4 * t) ((g (4 * t)) + (g (4 * t2)))) (1 + 4 * t) ((g (1 + 4 * t)) + ((upd g (4 * t) ((g (4 * t)) + (g (4 * t2)))) (1 + 4 * t2)))) (2 + 4 * t2)))) (3 + 4 * t) = (g (3 + 4 * t)) from (rdN (by omega) (rdN (by omega) (rdN (by omega) rfl)))) ?_
  refine lv_aload_n hx hb dX4_addAll_44 rfl (lv_at hl 1 rfl) ?_
  refine gfi_stuff_slag (t := t2) (i := 3 + 4 * t2) (fun X => X) Fr_id cx wo (by omega) (by omega) (by omega) m_77 dX4_addAll_45 ?_
  refine lv_iadd hx hb dX4_addAll_48 ?_
  refine pfi_stuff_slag (t := t) (i := 3 + 4 * t) (fun X => X) Fr_id cx wo (by omega) (by omega) (by omega) m_77 dX4_addAll_49 (fun H locs gz hgz wo => ?_)
  subst hgz
  exact r2_v cx hQ wo dX4_addAll_52 (by subst hM; exact ⟨rfl, rfl⟩)
abbrev rm_X4_clear : Room := { frames := 0, cells := 0, slots := 0, locals := 0 }
def m_X4_clear (g : St) (t : Nat) : St :=
  (upd (upd (upd (upd g (4 * t) 0) (1 + 4 * t) 0) (2 + 4 * t) 0) (3 + 4 * t) 0)
set_option maxHeartbeats 4000000 in
set_option maxRecDepth 100000 in
theorem c_X4_clear (l : Launch) (G : GG) (ad : Nat → Nat) (g : St) {t : Nat} (ht : t < 19) (hn : t ≠ 12) : Ct l G yX4_clear cX4_clear 1 (none : Option Jvm.ClassFile.FieldType) rm_X4_clear [.ref (ad t)] (aw G ad g) (fun rv W1 => rv = none ∧ W1 = aw G ad (m_X4_clear g t)) := by
  refine Ct.mk2 (by decide) (Nat.le_of_ble_eq_true rfl) ?_
  intro p e s m args below meth c A H locs ls Q cx wo hl hQ
  obtain ⟨hx, hb, hml, hr, hlo, hown, hts, hnm, kn, hA⟩ := id cx
  have hl : lv_has ls 1 [(0, .ref (ad t))] := hl
  generalize hM : m_X4_clear g t = M at hQ
  unfold m_X4_clear at hM
  refine lv_aload_n hx hb dX4_clear_0 rfl (lv_at hl 0 rfl) ?_
  refine lv_iconst (v := 0) hx hb dX4_clear_1 (by decide) ?_
  refine pfi_stuff_copper (t := t) (i := 4 * t) (fun X => X) Fr_id cx wo (by omega) (by omega) (by omega) m_68 dX4_clear_2 (fun H locs gz hgz wo => ?_)
  subst hgz
  refine lv_aload_n hx hb dX4_clear_5 rfl (lv_at hl 0 rfl) ?_
  refine lv_iconst (v := 0) hx hb dX4_clear_6 (by decide) ?_
  refine pfi_stuff_iron (t := t) (i := 1 + 4 * t) (fun X => X) Fr_id cx wo (by omega) (by omega) (by omega) m_72 dX4_clear_7 (fun H locs gz hgz wo => ?_)
  subst hgz
  refine lv_aload_n hx hb dX4_clear_10 rfl (lv_at hl 0 rfl) ?_
  refine lv_iconst (v := 0) hx hb dX4_clear_11 (by decide) ?_
  refine pfi_stuff_sulphur (t := t) (i := 2 + 4 * t) (fun X => X) Fr_id cx wo (by omega) (by omega) (by omega) m_74 dX4_clear_12 (fun H locs gz hgz wo => ?_)
  subst hgz
  refine lv_aload_n hx hb dX4_clear_15 rfl (lv_at hl 0 rfl) ?_
  refine lv_iconst (v := 0) hx hb dX4_clear_16 (by decide) ?_
  refine pfi_stuff_slag (t := t) (i := 3 + 4 * t) (fun X => X) Fr_id cx wo (by omega) (by omega) (by omega) m_77 dX4_clear_17 (fun H locs gz hgz wo => ?_)
  subst hgz
  exact r2_v cx hQ wo dX4_clear_20 (by subst hM; exact ⟨rfl, rfl⟩)
abbrev rm_X2_firstWhat : Room := { frames := 0, cells := 0, slots := 0, locals := 0 }
def m_X2_firstWhat (g : St) (r : Nat) : Int32 :=
  if (g (104 + r)) ≤ 0 then (-4)
  else (g (108 + 16 * r))
set_option maxHeartbeats 4000000 in
set_option maxRecDepth 100000 in
theorem c_X2_firstWhat (l : Launch) (G : GG) (ad : Nat → Nat) (g : St) {r : Nat} (hr : r < 2) : Ct l G yX2_firstWhat cX2_firstWhat 1 (some Jvm.ClassFile.FieldType.int) rm_X2_firstWhat [.ref (ad (26 + r))] (aw G ad g) (fun rv W1 => rv = some (.int (m_X2_firstWhat g r)) ∧ W1 = aw G ad g) := by
  refine Ct.mk2 (by decide) (Nat.le_of_ble_eq_true rfl) ?_
  intro p e s m args below meth c A H locs ls Q cx wo hl hQ
  obtain ⟨hx, hb, hml, hr, hlo, hown, hts, hnm, kn, hA⟩ := id cx
  have hl : lv_has ls 1 [(0, .ref (ad (26 + r)))] := hl
  generalize hM : m_X2_firstWhat g r = M at hQ
  unfold m_X2_firstWhat at hM
  refine lv_aload_n hx hb dX2_firstWhat_0 rfl (lv_at hl 0 rfl) ?_
  refine gf_crane_orders (r := r) (fun X => X) Fr_id cx wo (by omega) m_108 dX2_firstWhat_1 ?_
  refine lv_if_le (tgt := 16) hx hb dX2_firstWhat_4 (by decide) (fun c_1 => ?_) (fun c_1 => ?_)
  · skip
    rw [if_pos c_1] at hM
    refine lv_bipush (v := (-4)) hx hb dX2_firstWhat_16 (by decide) ?_
    exact r2_i cx hQ wo dX2_firstWhat_18 (by subst hM; exact ⟨rfl, rfl⟩)
  · skip
    rw [if_neg c_1] at hM
    refine lv_aload_n hx hb dX2_firstWhat_7 rfl (lv_at hl 0 rfl) ?_
    refine gf_crane_whats (r := r) (fun X => X) Fr_id cx wo (by omega) m_104 dX2_firstWhat_8 ?_
    refine topv (y := .ref (ad (31 + r))) (congrArg (fun z => Value.ref (ad z)) (by omega)) ?_
    refine lv_iconst (v := 0) hx hb dX2_firstWhat_11 (by decide) ?_
    refine ald_wh (c := r) (n := 0) (fun X => X) Fr_id cx wo (by omega) rfl (by omega) dX2_firstWhat_12 ?_
    refine tope (y := g (108 + 16 * r)) (congrArg g (by omega)) ?_
    refine lv_goto (tgt := 18) hx hb dX2_firstWhat_13 (by decide) ?_
    exact r2_i cx hQ wo dX2_firstWhat_18 (by subst hM; exact ⟨rfl, rfl⟩)
abbrev rm_X2_answer : Room := { frames := 1, cells := 0, slots := 0, locals := 20 }
def m_X2_answer (g : St) (r : Nat) (k : Int32) : Int32 :=
  if k = 0 then (g (100 + r))
  else if k = 1 then (-1)
  else if k = 2 then (g (104 + r))
  else if k = 3 then (m_X2_firstWhat g r)
  else if k = 4 then (g (106 + r))
  else (-1)
set_option maxHeartbeats 4000000 in
set_option maxRecDepth 100000 in
theorem c_X2_answer (l : Launch) (G : GG) (ad : Nat → Nat) (g : St) {r : Nat} (hr : r < 2) (k : Int32) : Ct l G yX2_answer cX2_answer 2 (some Jvm.ClassFile.FieldType.int) rm_X2_answer [.ref (ad (26 + r)), .int k] (aw G ad g) (fun rv W1 => rv = some (.int (m_X2_answer g r k)) ∧ W1 = aw G ad g) := by
  refine Ct.mk2 (by decide) (Nat.le_of_ble_eq_true rfl) ?_
  intro p e s m args below meth c A H locs ls Q cx wo hl hQ
  obtain ⟨hx, hb, hml, hr, hlo, hown, hts, hnm, kn, hA⟩ := id cx
  have hl : lv_has ls 2 [(0, .ref (ad (26 + r))), (1, .int k)] := hl
  generalize hM : m_X2_answer g r k = M at hQ
  unfold m_X2_answer at hM
  refine lv_iload_n hx hb dX2_answer_0 rfl (lv_at hl 1 rfl) ?_
  by_cases c_1 : k = 0
  · skip
    rw [if_pos c_1] at hM
    refine lv_tableIn (off := 35) (tgt := 36) hx hb dX2_answer_1 (by rw [c_1]; decide) (by rw [c_1]; decide) (by rw [c_1]; decide) (by decide) ?_
    refine lv_aload_n hx hb dX2_answer_36 rfl (lv_at hl 0 rfl) ?_
    refine gf_crane_place (r := r) (fun X => X) Fr_id cx wo (by omega) m_106 dX2_answer_37 ?_
    exact r2_i cx hQ wo dX2_answer_40 (by subst hM; exact ⟨rfl, rfl⟩)
  rw [if_neg c_1] at hM
  by_cases c_2 : k = 1
  · skip
    rw [if_pos c_2] at hM
    refine lv_tableIn (off := 55) (tgt := 56) hx hb dX2_answer_1 (by rw [c_2]; decide) (by rw [c_2]; decide) (by rw [c_2]; decide) (by decide) ?_
    refine lv_iconst (v := (-1)) hx hb dX2_answer_56 (by decide) ?_
    exact r2_i cx hQ wo dX2_answer_57 (by subst hM; exact ⟨rfl, rfl⟩)
  rw [if_neg c_2] at hM
  by_cases c_3 : k = 2
  · skip
    rw [if_pos c_3] at hM
    refine lv_tableIn (off := 40) (tgt := 41) hx hb dX2_answer_1 (by rw [c_3]; decide) (by rw [c_3]; decide) (by rw [c_3]; decide) (by decide) ?_
    refine lv_aload_n hx hb dX2_answer_41 rfl (lv_at hl 0 rfl) ?_
    refine gf_crane_orders (r := r) (fun X => X) Fr_id cx wo (by omega) m_108 dX2_answer_42 ?_
    exact r2_i cx hQ wo dX2_answer_45 (by subst hM; exact ⟨rfl, rfl⟩)
  rw [if_neg c_3] at hM
  by_cases c_4 : k = 3
  · skip
    rw [if_pos c_4] at hM
    refine lv_tableIn (off := 45) (tgt := 46) hx hb dX2_answer_1 (by rw [c_4]; decide) (by rw [c_4]; decide) (by rw [c_4]; decide) (by decide) ?_
    refine lv_aload_n hx hb dX2_answer_46 rfl (lv_at hl 0 rfl) ?_
    refine call_V (As := []) (rest := []) (fun X => X) Fr_id cx (c_X2_firstWhat l G ad _ (r := r) (by omega)) fx_X2_firstWhat m_404 m_405 m_406 ⟨by decide, by decide⟩ wo (at_crane G _ _ (r := r) (by omega)) rfl rfl rfl hl.1 rfl (Nat.le_of_ble_eq_true rfl) dX2_answer_47 ⟨by decide, by decide⟩ (fun v W1 H locs hp wo => ?_)
    obtain ⟨rfl, rfl⟩ := hp
    refine nrm_i ?_
    exact r2_i cx hQ wo dX2_answer_50 (by subst hM; exact ⟨rfl, rfl⟩)
  rw [if_neg c_4] at hM
  by_cases c_5 : k = 4
  · skip
    rw [if_pos c_5] at hM
    refine lv_tableIn (off := 50) (tgt := 51) hx hb dX2_answer_1 (by rw [c_5]; decide) (by rw [c_5]; decide) (by rw [c_5]; decide) (by decide) ?_
    refine lv_aload_n hx hb dX2_answer_51 rfl (lv_at hl 0 rfl) ?_
    refine gf_crane_waits (r := r) (fun X => X) Fr_id cx wo (by omega) m_111 dX2_answer_52 ?_
    exact r2_i cx hQ wo dX2_answer_55 (by subst hM; exact ⟨rfl, rfl⟩)
  rw [if_neg c_5] at hM
  refine lv_tableOut (tgt := 56) hx hb dX2_answer_1 (by have q0 := lv_neT c_1 (a := 0) rfl; have q1 := lv_neT c_2 (a := 1) rfl; have q2 := lv_neT c_3 (a := 2) rfl; have q3 := lv_neT c_4 (a := 3) rfl; have q4 := lv_neT c_5 (a := 4) rfl; omega) (by decide) ?_
  refine lv_iconst (v := (-1)) hx hb dX2_answer_56 (by decide) ?_
  exact r2_i cx hQ wo dX2_answer_57 (by subst hM; exact ⟨rfl, rfl⟩)
abbrev rm_X2_nextPlace : Room := { frames := 0, cells := 0, slots := 0, locals := 0 }
def m_X2_nextPlace (g : St) (r : Nat) : Int32 :=
  if (g (109 + 16 * r)) ≤ (g (100 + r)) then ((g (100 + r)) - 1)
  else ((g (100 + r)) + 1)
set_option maxHeartbeats 4000000 in
set_option maxRecDepth 100000 in
theorem c_X2_nextPlace (l : Launch) (G : GG) (ad : Nat → Nat) (g : St) {r : Nat} (hr : r < 2) : Ct l G yX2_nextPlace cX2_nextPlace 1 (some Jvm.ClassFile.FieldType.int) rm_X2_nextPlace [.ref (ad (26 + r))] (aw G ad g) (fun rv W1 => rv = some (.int (m_X2_nextPlace g r)) ∧ W1 = aw G ad g) := by
  refine Ct.mk2 (by decide) (Nat.le_of_ble_eq_true rfl) ?_
  intro p e s m args below meth c A H locs ls Q cx wo hl hQ
  obtain ⟨hx, hb, hml, hr, hlo, hown, hts, hnm, kn, hA⟩ := id cx
  have hl : lv_has ls 1 [(0, .ref (ad (26 + r)))] := hl
  generalize hM : m_X2_nextPlace g r = M at hQ
  unfold m_X2_nextPlace at hM
  refine lv_aload_n hx hb dX2_nextPlace_0 rfl (lv_at hl 0 rfl) ?_
  refine gf_crane_targets (r := r) (fun X => X) Fr_id cx wo (by omega) m_105 dX2_nextPlace_1 ?_
  refine topv (y := .ref (ad (33 + r))) (congrArg (fun z => Value.ref (ad z)) (by omega)) ?_
  refine lv_iconst (v := 0) hx hb dX2_nextPlace_4 (by decide) ?_
  refine ald_tg (c := r) (n := 0) (fun X => X) Fr_id cx wo (by omega) rfl (by omega) dX2_nextPlace_5 ?_
  refine tope (y := g (109 + 16 * r)) (congrArg g (by omega)) ?_
  refine lv_aload_n hx hb dX2_nextPlace_6 rfl (lv_at hl 0 rfl) ?_
  refine gf_crane_place (r := r) (fun X => X) Fr_id cx wo (by omega) m_106 dX2_nextPlace_7 ?_
  refine lv_icmp_le (tgt := 22) hx hb dX2_nextPlace_10 (by decide) (fun c_1 => ?_) (fun c_1 => ?_)
  · skip
    rw [if_pos c_1] at hM
    refine lv_aload_n hx hb dX2_nextPlace_22 rfl (lv_at hl 0 rfl) ?_
    refine gf_crane_place (r := r) (fun X => X) Fr_id cx wo (by omega) m_106 dX2_nextPlace_23 ?_
    refine lv_iconst (v := 1) hx hb dX2_nextPlace_26 (by decide) ?_
    refine lv_isub hx hb dX2_nextPlace_27 ?_
    exact r2_i cx hQ wo dX2_nextPlace_28 (by subst hM; exact ⟨rfl, rfl⟩)
  · skip
    rw [if_neg c_1] at hM
    refine lv_aload_n hx hb dX2_nextPlace_13 rfl (lv_at hl 0 rfl) ?_
    refine gf_crane_place (r := r) (fun X => X) Fr_id cx wo (by omega) m_106 dX2_nextPlace_14 ?_
    refine lv_iconst (v := 1) hx hb dX2_nextPlace_17 (by decide) ?_
    refine lv_iadd hx hb dX2_nextPlace_18 ?_
    refine lv_goto (tgt := 28) hx hb dX2_nextPlace_19 (by decide) ?_
    exact r2_i cx hQ wo dX2_nextPlace_28 (by subst hM; exact ⟨rfl, rfl⟩)
abbrev rm_X5_answer : Room := { frames := 1, cells := 0, slots := 0, locals := 21 }
def m_X5_answer (g : St) (v : Nat) (k : Int32) : Int32 :=
  if k = 0 then (g (76 + v))
  else if k = 1 then (m_X6_oneIf (g (79 + v)))
  else if k = 2 then (m_X4_of g (1 + v) (k - 1))
  else if k = 3 then (m_X4_of g (1 + v) (k - 1))
  else if k = 4 then (m_X4_of g (1 + v) (k - 1))
  else if k = 5 then (m_X4_of g (1 + v) (k - 1))
  else if k = 6 then (g (82 + v))
  else if k = 7 then (g (85 + v))
  else (-1)
set_option maxHeartbeats 4000000 in
set_option maxRecDepth 100000 in
theorem c_X5_answer (l : Launch) (G : GG) (ad : Nat → Nat) (g : St) {v : Nat} (hv : v < 3) (k : Int32) : Ct l G yX5_answer cX5_answer 2 (some Jvm.ClassFile.FieldType.int) rm_X5_answer [.ref (ad (19 + v)), .int k] (aw G ad g) (fun rv W1 => rv = some (.int (m_X5_answer g v k)) ∧ W1 = aw G ad g) := by
  refine Ct.mk2 (by decide) (Nat.le_of_ble_eq_true rfl) ?_
  intro p e s m args below meth c A H locs ls Q cx wo hl hQ
  obtain ⟨hx, hb, hml, hr, hlo, hown, hts, hnm, kn, hA⟩ := id cx
  have hl : lv_has ls 2 [(0, .ref (ad (19 + v))), (1, .int k)] := hl
  generalize hM : m_X5_answer g v k = M at hQ
  unfold m_X5_answer at hM
  refine lv_iload_n hx hb dX5_answer_0 rfl (lv_at hl 1 rfl) ?_
  by_cases c_1 : k = 0
  · skip
    rw [if_pos c_1] at hM
    refine lv_tableIn (off := 47) (tgt := 48) hx hb dX5_answer_1 (by rw [c_1]; decide) (by rw [c_1]; decide) (by rw [c_1]; decide) (by decide) ?_
    refine lv_aload_n hx hb dX5_answer_48 rfl (lv_at hl 0 rfl) ?_
    refine gf_vessel_heat (v := v) (fun X => X) Fr_id cx wo (by omega) m_199 dX5_answer_49 ?_
    exact r2_i cx hQ wo dX5_answer_52 (by subst hM; exact ⟨rfl, rfl⟩)
  rw [if_neg c_1] at hM
  by_cases c_2 : k = 1
  · skip
    rw [if_pos c_2] at hM
    refine lv_tableIn (off := 52) (tgt := 53) hx hb dX5_answer_1 (by rw [c_2]; decide) (by rw [c_2]; decide) (by rw [c_2]; decide) (by decide) ?_
    refine lv_aload_n hx hb dX5_answer_53 rfl (lv_at hl 0 rfl) ?_
    refine gf_vessel_isBlown (v := v) (fun X => X) Fr_id cx wo (by omega) m_206 dX5_answer_54 ?_
    refine call_SN (host := "HotAisle") (As := [.int (g (79 + v))]) (rest := []) (fun X => X) Fr_id cx (c_X6_oneIf l G _ (g (79 + v))) fx_X6_oneIf (by decide) m_297 ⟨by decide, by decide⟩ wo rfl hl.1 rfl (Nat.le_of_ble_eq_true rfl) dX5_answer_57 ⟨by decide, by decide⟩ (fun v W1 H locs hp wo => ?_)
    obtain ⟨rfl, rfl⟩ := hp
    refine nrm_i ?_
    exact r2_i cx hQ wo dX5_answer_60 (by subst hM; exact ⟨rfl, rfl⟩)
  rw [if_neg c_2] at hM
  by_cases c_3 : k = 2
  · skip
    rw [if_pos c_3] at hM
    refine lv_tableIn (off := 60) (tgt := 61) hx hb dX5_answer_1 (by rw [c_3]; decide) (by rw [c_3]; decide) (by rw [c_3]; decide) (by decide) ?_
    refine lv_aload_n hx hb dX5_answer_61 rfl (lv_at hl 0 rfl) ?_
    refine gf_vessel_stuff (v := v) (fun X => X) Fr_id cx wo (by omega) m_196 dX5_answer_62 ?_
    refine topv (y := .ref (ad (1 + v))) (congrArg (fun z => Value.ref (ad z)) (by omega)) ?_
    refine lv_iload_n hx hb dX5_answer_65 rfl (lv_at hl 1 rfl) ?_
    refine lv_iconst (v := 1) hx hb dX5_answer_66 (by decide) ?_
    refine lv_isub hx hb dX5_answer_67 ?_
    refine call_V (As := [.int (k - 1)]) (rest := []) (fun X => X) Fr_id cx (c_X4_of l G ad _ (t := 1 + v) (by omega) (by omega) (k - 1)) fx_X4_of m_555 m_488 m_489 ⟨by decide, by decide⟩ wo (at_stuff G _ _ (t := 1 + v) (by omega) (by omega)) rfl rfl rfl hl.1 rfl (Nat.le_of_ble_eq_true rfl) dX5_answer_68 ⟨by decide, by decide⟩ (fun v W1 H locs hp wo => ?_)
    obtain ⟨rfl, rfl⟩ := hp
    refine nrm_i ?_
    exact r2_i cx hQ wo dX5_answer_71 (by subst hM; exact ⟨rfl, rfl⟩)
  rw [if_neg c_3] at hM
  by_cases c_4 : k = 3
  · skip
    rw [if_pos c_4] at hM
    refine lv_tableIn (off := 60) (tgt := 61) hx hb dX5_answer_1 (by rw [c_4]; decide) (by rw [c_4]; decide) (by rw [c_4]; decide) (by decide) ?_
    refine lv_aload_n hx hb dX5_answer_61 rfl (lv_at hl 0 rfl) ?_
    refine gf_vessel_stuff (v := v) (fun X => X) Fr_id cx wo (by omega) m_196 dX5_answer_62 ?_
    refine topv (y := .ref (ad (1 + v))) (congrArg (fun z => Value.ref (ad z)) (by omega)) ?_
    refine lv_iload_n hx hb dX5_answer_65 rfl (lv_at hl 1 rfl) ?_
    refine lv_iconst (v := 1) hx hb dX5_answer_66 (by decide) ?_
    refine lv_isub hx hb dX5_answer_67 ?_
    refine call_V (As := [.int (k - 1)]) (rest := []) (fun X => X) Fr_id cx (c_X4_of l G ad _ (t := 1 + v) (by omega) (by omega) (k - 1)) fx_X4_of m_555 m_488 m_489 ⟨by decide, by decide⟩ wo (at_stuff G _ _ (t := 1 + v) (by omega) (by omega)) rfl rfl rfl hl.1 rfl (Nat.le_of_ble_eq_true rfl) dX5_answer_68 ⟨by decide, by decide⟩ (fun v W1 H locs hp wo => ?_)
    obtain ⟨rfl, rfl⟩ := hp
    refine nrm_i ?_
    exact r2_i cx hQ wo dX5_answer_71 (by subst hM; exact ⟨rfl, rfl⟩)
  rw [if_neg c_4] at hM
  by_cases c_5 : k = 4
  · skip
    rw [if_pos c_5] at hM
    refine lv_tableIn (off := 60) (tgt := 61) hx hb dX5_answer_1 (by rw [c_5]; decide) (by rw [c_5]; decide) (by rw [c_5]; decide) (by decide) ?_
    refine lv_aload_n hx hb dX5_answer_61 rfl (lv_at hl 0 rfl) ?_
    refine gf_vessel_stuff (v := v) (fun X => X) Fr_id cx wo (by omega) m_196 dX5_answer_62 ?_
    refine topv (y := .ref (ad (1 + v))) (congrArg (fun z => Value.ref (ad z)) (by omega)) ?_
    refine lv_iload_n hx hb dX5_answer_65 rfl (lv_at hl 1 rfl) ?_
    refine lv_iconst (v := 1) hx hb dX5_answer_66 (by decide) ?_
    refine lv_isub hx hb dX5_answer_67 ?_
    refine call_V (As := [.int (k - 1)]) (rest := []) (fun X => X) Fr_id cx (c_X4_of l G ad _ (t := 1 + v) (by omega) (by omega) (k - 1)) fx_X4_of m_555 m_488 m_489 ⟨by decide, by decide⟩ wo (at_stuff G _ _ (t := 1 + v) (by omega) (by omega)) rfl rfl rfl hl.1 rfl (Nat.le_of_ble_eq_true rfl) dX5_answer_68 ⟨by decide, by decide⟩ (fun v W1 H locs hp wo => ?_)
    obtain ⟨rfl, rfl⟩ := hp
    refine nrm_i ?_
    exact r2_i cx hQ wo dX5_answer_71 (by subst hM; exact ⟨rfl, rfl⟩)
  rw [if_neg c_5] at hM
  by_cases c_6 : k = 5
  · skip
    rw [if_pos c_6] at hM
    refine lv_tableIn (off := 60) (tgt := 61) hx hb dX5_answer_1 (by rw [c_6]; decide) (by rw [c_6]; decide) (by rw [c_6]; decide) (by decide) ?_
    refine lv_aload_n hx hb dX5_answer_61 rfl (lv_at hl 0 rfl) ?_
    refine gf_vessel_stuff (v := v) (fun X => X) Fr_id cx wo (by omega) m_196 dX5_answer_62 ?_
    refine topv (y := .ref (ad (1 + v))) (congrArg (fun z => Value.ref (ad z)) (by omega)) ?_
    refine lv_iload_n hx hb dX5_answer_65 rfl (lv_at hl 1 rfl) ?_
    refine lv_iconst (v := 1) hx hb dX5_answer_66 (by decide) ?_
    refine lv_isub hx hb dX5_answer_67 ?_
    refine call_V (As := [.int (k - 1)]) (rest := []) (fun X => X) Fr_id cx (c_X4_of l G ad _ (t := 1 + v) (by omega) (by omega) (k - 1)) fx_X4_of m_555 m_488 m_489 ⟨by decide, by decide⟩ wo (at_stuff G _ _ (t := 1 + v) (by omega) (by omega)) rfl rfl rfl hl.1 rfl (Nat.le_of_ble_eq_true rfl) dX5_answer_68 ⟨by decide, by decide⟩ (fun v W1 H locs hp wo => ?_)
    obtain ⟨rfl, rfl⟩ := hp
    refine nrm_i ?_
    exact r2_i cx hQ wo dX5_answer_71 (by subst hM; exact ⟨rfl, rfl⟩)
  rw [if_neg c_6] at hM
  by_cases c_7 : k = 6
  · skip
    rw [if_pos c_7] at hM
    refine lv_tableIn (off := 71) (tgt := 72) hx hb dX5_answer_1 (by rw [c_7]; decide) (by rw [c_7]; decide) (by rw [c_7]; decide) (by decide) ?_
    refine lv_aload_n hx hb dX5_answer_72 rfl (lv_at hl 0 rfl) ?_
    refine gf_vessel_held (v := v) (fun X => X) Fr_id cx wo (by omega) m_202 dX5_answer_73 ?_
    exact r2_i cx hQ wo dX5_answer_76 (by subst hM; exact ⟨rfl, rfl⟩)
  rw [if_neg c_7] at hM
  by_cases c_8 : k = 7
  · skip
    rw [if_pos c_8] at hM
    refine lv_tableIn (off := 76) (tgt := 77) hx hb dX5_answer_1 (by rw [c_8]; decide) (by rw [c_8]; decide) (by rw [c_8]; decide) (by decide) ?_
    refine lv_aload_n hx hb dX5_answer_77 rfl (lv_at hl 0 rfl) ?_
    refine gf_vessel_stopped (v := v) (fun X => X) Fr_id cx wo (by omega) m_204 dX5_answer_78 ?_
    exact r2_i cx hQ wo dX5_answer_81 (by subst hM; exact ⟨rfl, rfl⟩)
  rw [if_neg c_8] at hM
  refine lv_tableOut (tgt := 82) hx hb dX5_answer_1 (by have q0 := lv_neT c_1 (a := 0) rfl; have q1 := lv_neT c_2 (a := 1) rfl; have q2 := lv_neT c_3 (a := 2) rfl; have q3 := lv_neT c_4 (a := 3) rfl; have q4 := lv_neT c_5 (a := 4) rfl; have q5 := lv_neT c_6 (a := 5) rfl; have q6 := lv_neT c_7 (a := 6) rfl; have q7 := lv_neT c_8 (a := 7) rfl; omega) (by decide) ?_
  refine lv_iconst (v := (-1)) hx hb dX5_answer_82 (by decide) ?_
  exact r2_i cx hQ wo dX5_answer_83 (by subst hM; exact ⟨rfl, rfl⟩)
abbrev rm_X5_isTooColdOrTooHot : Room := { frames := 1, cells := 0, slots := 0, locals := 22 }
def m_X5_isTooColdOrTooHot (g : St) (v : Nat) : Bool :=
  if (m_X6_isBetween 1000 (g (76 + v)) 1300) = true then false
  else true
set_option maxHeartbeats 4000000 in
set_option maxRecDepth 100000 in
theorem c_X5_isTooColdOrTooHot (l : Launch) (G : GG) (ad : Nat → Nat) (g : St) {v : Nat} (hv : v < 3) : Ct l G yX5_isTooColdOrTooHot cX5_isTooColdOrTooHot 1 (some Jvm.ClassFile.FieldType.boolean) rm_X5_isTooColdOrTooHot [.ref (ad (19 + v))] (aw G ad g) (fun rv W1 => rv = some (.int (bi (m_X5_isTooColdOrTooHot g v))) ∧ W1 = aw G ad g) := by
  refine Ct.mk2 (by decide) (Nat.le_of_ble_eq_true rfl) ?_
  intro p e s m args below meth c A H locs ls Q cx wo hl hQ
  obtain ⟨hx, hb, hml, hr, hlo, hown, hts, hnm, kn, hA⟩ := id cx
  have hl : lv_has ls 1 [(0, .ref (ad (19 + v)))] := hl
  generalize hM : m_X5_isTooColdOrTooHot g v = M at hQ
  unfold m_X5_isTooColdOrTooHot at hM
  refine lv_sipush (v := 1000) hx hb dX5_isTooColdOrTooHot_0 (by decide) ?_
  refine lv_aload_n hx hb dX5_isTooColdOrTooHot_3 rfl (lv_at hl 0 rfl) ?_
  refine gf_vessel_heat (v := v) (fun X => X) Fr_id cx wo (by omega) m_199 dX5_isTooColdOrTooHot_4 ?_
  refine lv_sipush (v := 1300) hx hb dX5_isTooColdOrTooHot_7 (by decide) ?_
  refine call_SN (host := "HotAisle") (As := [.int 1000, .int (g (76 + v)), .int 1300]) (rest := []) (fun X => X) Fr_id cx (c_X6_isBetween l G _ 1000 (g (76 + v)) 1300) fx_X6_isBetween (by decide) m_304 ⟨by decide, by decide⟩ wo rfl hl.1 rfl (Nat.le_of_ble_eq_true rfl) dX5_isTooColdOrTooHot_10 ⟨by decide, by decide⟩ (fun v W1 H locs hp wo => ?_)
  obtain ⟨rfl, rfl⟩ := hp
  refine nrm_i ?_
  refine if_ne_b (tgt := 20) hx hb dX5_isTooColdOrTooHot_13 (by decide) (fun c_1 => ?_) (fun c_1 => ?_)
  · skip
    rw [if_pos c_1] at hM
    refine lv_iconst (v := 0) hx hb dX5_isTooColdOrTooHot_20 (by decide) ?_
    refine tope (y := bi false) rfl ?_
    exact r2_z cx hQ wo dX5_isTooColdOrTooHot_21 (by subst hM; exact ⟨rfl, rfl⟩)
  · skip
    rw [if_neg c_1] at hM
    refine lv_iconst (v := 1) hx hb dX5_isTooColdOrTooHot_16 (by decide) ?_
    refine lv_goto (tgt := 21) hx hb dX5_isTooColdOrTooHot_17 (by decide) ?_
    refine tope (y := bi true) rfl ?_
    exact r2_z cx hQ wo dX5_isTooColdOrTooHot_21 (by subst hM; exact ⟨rfl, rfl⟩)
abbrev rm_X5_holdsCopperAlone : Room := { frames := 1, cells := 0, slots := 0, locals := 20 }
def m_X5_holdsCopperAlone (g : St) (v : Nat) : Bool :=
  if (g (4 + 4 * v)) ≤ 0 then false
  else if (g (4 + 4 * v)) = (m_X4_all g (1 + v)) then true
  else false
set_option maxHeartbeats 4000000 in
set_option maxRecDepth 100000 in
theorem c_X5_holdsCopperAlone (l : Launch) (G : GG) (ad : Nat → Nat) (g : St) {v : Nat} (hv : v < 3) : Ct l G yX5_holdsCopperAlone cX5_holdsCopperAlone 1 (some Jvm.ClassFile.FieldType.boolean) rm_X5_holdsCopperAlone [.ref (ad (19 + v))] (aw G ad g) (fun rv W1 => rv = some (.int (bi (m_X5_holdsCopperAlone g v))) ∧ W1 = aw G ad g) := by
  refine Ct.mk2 (by decide) (Nat.le_of_ble_eq_true rfl) ?_
  intro p e s m args below meth c A H locs ls Q cx wo hl hQ
  obtain ⟨hx, hb, hml, hr, hlo, hown, hts, hnm, kn, hA⟩ := id cx
  have hl : lv_has ls 1 [(0, .ref (ad (19 + v)))] := hl
  generalize hM : m_X5_holdsCopperAlone g v = M at hQ
  unfold m_X5_holdsCopperAlone at hM
  refine lv_aload_n hx hb dX5_holdsCopperAlone_0 rfl (lv_at hl 0 rfl) ?_
  refine gf_vessel_stuff (v := v) (fun X => X) Fr_id cx wo (by omega) m_196 dX5_holdsCopperAlone_1 ?_
  refine topv (y := .ref (ad (1 + v))) (congrArg (fun z => Value.ref (ad z)) (by omega)) ?_
  refine gfi_stuff_copper (t := 1 + v) (i := 4 + 4 * v) (fun X => X) Fr_id cx wo (by omega) (by omega) (by omega) m_69 dX5_holdsCopperAlone_4 ?_
  refine lv_if_le (tgt := 31) hx hb dX5_holdsCopperAlone_7 (by decide) (fun c_1 => ?_) (fun c_1 => ?_)
  · skip
    rw [if_pos c_1] at hM
    refine lv_iconst (v := 0) hx hb dX5_holdsCopperAlone_31 (by decide) ?_
    refine tope (y := bi false) rfl ?_
    exact r2_z cx hQ wo dX5_holdsCopperAlone_32 (by subst hM; exact ⟨rfl, rfl⟩)
  · skip
    rw [if_neg c_1] at hM
    refine lv_aload_n hx hb dX5_holdsCopperAlone_10 rfl (lv_at hl 0 rfl) ?_
    refine gf_vessel_stuff (v := v) (fun X => X) Fr_id cx wo (by omega) m_196 dX5_holdsCopperAlone_11 ?_
    refine topv (y := .ref (ad (1 + v))) (congrArg (fun z => Value.ref (ad z)) (by omega)) ?_
    refine gfi_stuff_copper (t := 1 + v) (i := 4 + 4 * v) (fun X => X) Fr_id cx wo (by omega) (by omega) (by omega) m_69 dX5_holdsCopperAlone_14 ?_
    refine lv_aload_n hx hb dX5_holdsCopperAlone_17 rfl (lv_at hl 0 rfl) ?_
    refine gf_vessel_stuff (v := v) (fun X => X) Fr_id cx wo (by omega) m_196 dX5_holdsCopperAlone_18 ?_
    refine topv (y := .ref (ad (1 + v))) (congrArg (fun z => Value.ref (ad z)) (by omega)) ?_
    refine call_V (As := []) (rest := [.int (g (4 + 4 * v))]) (fun X => X) Fr_id cx (c_X4_all l G ad _ (t := 1 + v) (by omega) (by omega)) fx_X4_all m_327 m_316 m_317 ⟨by decide, by decide⟩ wo (at_stuff G _ _ (t := 1 + v) (by omega) (by omega)) rfl rfl rfl hl.1 rfl (Nat.le_of_ble_eq_true rfl) dX5_holdsCopperAlone_21 ⟨by decide, by decide⟩ (fun v W1 H locs hp wo => ?_)
    obtain ⟨rfl, rfl⟩ := hp
    refine nrm_i ?_
    refine lv_icmp_ne (tgt := 31) hx hb dX5_holdsCopperAlone_24 (by decide) (fun c_2 => ?_) (fun c_2 => ?_)
    · skip
      rw [if_neg c_2] at hM
      refine lv_iconst (v := 0) hx hb dX5_holdsCopperAlone_31 (by decide) ?_
      refine tope (y := bi false) rfl ?_
      exact r2_z cx hQ wo dX5_holdsCopperAlone_32 (by subst hM; exact ⟨rfl, rfl⟩)
    · skip
      rw [if_pos c_2] at hM
      refine lv_iconst (v := 1) hx hb dX5_holdsCopperAlone_27 (by decide) ?_
      refine lv_goto (tgt := 32) hx hb dX5_holdsCopperAlone_28 (by decide) ?_
      refine tope (y := bi true) rfl ?_
      exact r2_z cx hQ wo dX5_holdsCopperAlone_32 (by subst hM; exact ⟨rfl, rfl⟩)
abbrev rm_X5_cool : Room := { frames := 1, cells := 0, slots := 0, locals := 21 }
def m_X5_cool (g : St) (v : Nat) : St :=
  if (m_X4_all g (1 + v)) ≤ 0 then g
  else (upd g (76 + v) (mx 0 ((g (76 + v)) - 8)))
set_option maxHeartbeats 4000000 in
set_option maxRecDepth 100000 in
theorem c_X5_cool (l : Launch) (G : GG) (ad : Nat → Nat) (g : St) {v : Nat} (hv : v < 3) : Ct l G yX5_cool cX5_cool 1 (none : Option Jvm.ClassFile.FieldType) rm_X5_cool [.ref (ad (19 + v))] (aw G ad g) (fun rv W1 => rv = none ∧ W1 = aw G ad (m_X5_cool g v)) := by
  refine Ct.mk2 (by decide) (Nat.le_of_ble_eq_true rfl) ?_
  intro p e s m args below meth c A H locs ls Q cx wo hl hQ
  obtain ⟨hx, hb, hml, hr, hlo, hown, hts, hnm, kn, hA⟩ := id cx
  have hl : lv_has ls 1 [(0, .ref (ad (19 + v)))] := hl
  generalize hM : m_X5_cool g v = M at hQ
  unfold m_X5_cool at hM
  refine lv_aload_n hx hb dX5_cool_0 rfl (lv_at hl 0 rfl) ?_
  refine gf_vessel_stuff (v := v) (fun X => X) Fr_id cx wo (by omega) m_196 dX5_cool_1 ?_
  refine topv (y := .ref (ad (1 + v))) (congrArg (fun z => Value.ref (ad z)) (by omega)) ?_
  refine call_V (As := []) (rest := []) (fun X => X) Fr_id cx (c_X4_all l G ad _ (t := 1 + v) (by omega) (by omega)) fx_X4_all m_327 m_316 m_317 ⟨by decide, by decide⟩ wo (at_stuff G _ _ (t := 1 + v) (by omega) (by omega)) rfl rfl rfl hl.1 rfl (Nat.le_of_ble_eq_true rfl) dX5_cool_4 ⟨by decide, by decide⟩ (fun v W1 H locs hp wo => ?_)
  obtain ⟨rfl, rfl⟩ := hp
  refine nrm_i ?_
  refine lv_if_le (tgt := 25) hx hb dX5_cool_7 (by decide) (fun c_1 => ?_) (fun c_1 => ?_)
  · skip
    rw [if_pos c_1] at hM
    exact r2_v cx hQ wo dX5_cool_25 (by subst hM; exact ⟨rfl, rfl⟩)
  · skip
    rw [if_neg c_1] at hM
    refine lv_aload_n hx hb dX5_cool_10 rfl (lv_at hl 0 rfl) ?_
    refine lv_iconst (v := 0) hx hb dX5_cool_11 (by decide) ?_
    refine lv_aload_n hx hb dX5_cool_12 rfl (lv_at hl 0 rfl) ?_
    refine gf_vessel_heat (v := v) (fun X => X) Fr_id cx wo (by omega) m_199 dX5_cool_13 ?_
    refine lv_bipush (v := 8) hx hb dX5_cool_16 (by decide) ?_
    refine lv_isub hx hb dX5_cool_18 ?_
    refine max_r cx m_389 dX5_cool_19 hl.1 (by decide) (Nat.le_of_ble_eq_true rfl) (by decide) (by decide) ?_
    refine pf_vessel_heat (v := v) (fun X => X) Fr_id cx wo (by omega) m_199 dX5_cool_22 (fun H locs gz hgz wo => ?_)
    subst hgz
    exact r2_v cx hQ wo dX5_cool_25 (by subst hM; exact ⟨rfl, rfl⟩)
abbrev rm_X3_answer : Room := { frames := 1, cells := 0, slots := 0, locals := 21 }
def m_X3_answer (g : St) (d : Nat) (k : Int32) : Int32 :=
  if k = 0 then (g (88 + d))
  else if k = 1 then (g (92 + d))
  else if k = 2 then (g (96 + d))
  else if k = 3 then (-1)
  else if k = 4 then (m_X4_of g (4 + d) (k - 3))
  else if k = 5 then (m_X4_of g (4 + d) (k - 3))
  else if k = 6 then (m_X4_of g (4 + d) (k - 3))
  else if k = 7 then (m_X4_of g (4 + d) (k - 3))
  else if k = 8 then (m_X4_of g (8 + d) (k - 7))
  else if k = 9 then (m_X4_of g (8 + d) (k - 7))
  else if k = 10 then (m_X4_of g (8 + d) (k - 7))
  else if k = 11 then (m_X4_of g (8 + d) (k - 7))
  else (-1)
set_option maxHeartbeats 4000000 in
set_option maxRecDepth 100000 in
theorem c_X3_answer (l : Launch) (G : GG) (ad : Nat → Nat) (g : St) {d : Nat} (hd : d < 4) (k : Int32) : Ct l G yX3_answer cX3_answer 2 (some Jvm.ClassFile.FieldType.int) rm_X3_answer [.ref (ad (22 + d)), .int k] (aw G ad g) (fun rv W1 => rv = some (.int (m_X3_answer g d k)) ∧ W1 = aw G ad g) := by
  refine Ct.mk2 (by decide) (Nat.le_of_ble_eq_true rfl) ?_
  intro p e s m args below meth c A H locs ls Q cx wo hl hQ
  obtain ⟨hx, hb, hml, hr, hlo, hown, hts, hnm, kn, hA⟩ := id cx
  have hl : lv_has ls 2 [(0, .ref (ad (22 + d))), (1, .int k)] := hl
  generalize hM : m_X3_answer g d k = M at hQ
  unfold m_X3_answer at hM
  refine lv_iload_n hx hb dX3_answer_0 rfl (lv_at hl 1 rfl) ?_
  by_cases c_1 : k = 0
  · skip
    rw [if_pos c_1] at hM
    refine lv_tableIn (off := 63) (tgt := 64) hx hb dX3_answer_1 (by rw [c_1]; decide) (by rw [c_1]; decide) (by rw [c_1]; decide) (by decide) ?_
    refine lv_aload_n hx hb dX3_answer_64 rfl (lv_at hl 0 rfl) ?_
    refine gf_ladle_place (d := d) (fun X => X) Fr_id cx wo (by omega) m_233 dX3_answer_65 ?_
    exact r2_i cx hQ wo dX3_answer_68 (by subst hM; exact ⟨rfl, rfl⟩)
  rw [if_neg c_1] at hM
  by_cases c_2 : k = 1
  · skip
    rw [if_pos c_2] at hM
    refine lv_tableIn (off := 68) (tgt := 69) hx hb dX3_answer_1 (by rw [c_2]; decide) (by rw [c_2]; decide) (by rw [c_2]; decide) (by decide) ?_
    refine lv_aload_n hx hb dX3_answer_69 rfl (lv_at hl 0 rfl) ?_
    refine gf_ladle_carrier (d := d) (fun X => X) Fr_id cx wo (by omega) m_235 dX3_answer_70 ?_
    exact r2_i cx hQ wo dX3_answer_73 (by subst hM; exact ⟨rfl, rfl⟩)
  rw [if_neg c_2] at hM
  by_cases c_3 : k = 2
  · skip
    rw [if_pos c_3] at hM
    refine lv_tableIn (off := 73) (tgt := 74) hx hb dX3_answer_1 (by rw [c_3]; decide) (by rw [c_3]; decide) (by rw [c_3]; decide) (by decide) ?_
    refine lv_aload_n hx hb dX3_answer_74 rfl (lv_at hl 0 rfl) ?_
    refine gf_ladle_sort (d := d) (fun X => X) Fr_id cx wo (by omega) m_237 dX3_answer_75 ?_
    exact r2_i cx hQ wo dX3_answer_78 (by subst hM; exact ⟨rfl, rfl⟩)
  rw [if_neg c_3] at hM
  by_cases c_4 : k = 3
  · skip
    rw [if_pos c_4] at hM
    refine lv_tableIn (off := 101) (tgt := 102) hx hb dX3_answer_1 (by rw [c_4]; decide) (by rw [c_4]; decide) (by rw [c_4]; decide) (by decide) ?_
    refine lv_iconst (v := (-1)) hx hb dX3_answer_102 (by decide) ?_
    exact r2_i cx hQ wo dX3_answer_103 (by subst hM; exact ⟨rfl, rfl⟩)
  rw [if_neg c_4] at hM
  by_cases c_5 : k = 4
  · skip
    rw [if_pos c_5] at hM
    refine lv_tableIn (off := 78) (tgt := 79) hx hb dX3_answer_1 (by rw [c_5]; decide) (by rw [c_5]; decide) (by rw [c_5]; decide) (by decide) ?_
    refine lv_aload_n hx hb dX3_answer_79 rfl (lv_at hl 0 rfl) ?_
    refine gf_ladle_stuff (d := d) (fun X => X) Fr_id cx wo (by omega) m_229 dX3_answer_80 ?_
    refine topv (y := .ref (ad (4 + d))) (congrArg (fun z => Value.ref (ad z)) (by omega)) ?_
    refine lv_iload_n hx hb dX3_answer_83 rfl (lv_at hl 1 rfl) ?_
    refine lv_iconst (v := 3) hx hb dX3_answer_84 (by decide) ?_
    refine lv_isub hx hb dX3_answer_85 ?_
    refine call_V (As := [.int (k - 3)]) (rest := []) (fun X => X) Fr_id cx (c_X4_of l G ad _ (t := 4 + d) (by omega) (by omega) (k - 3)) fx_X4_of m_487 m_488 m_489 ⟨by decide, by decide⟩ wo (at_stuff G _ _ (t := 4 + d) (by omega) (by omega)) rfl rfl rfl hl.1 rfl (Nat.le_of_ble_eq_true rfl) dX3_answer_86 ⟨by decide, by decide⟩ (fun v W1 H locs hp wo => ?_)
    obtain ⟨rfl, rfl⟩ := hp
    refine nrm_i ?_
    exact r2_i cx hQ wo dX3_answer_89 (by subst hM; exact ⟨rfl, rfl⟩)
  rw [if_neg c_5] at hM
  by_cases c_6 : k = 5
  · skip
    rw [if_pos c_6] at hM
    refine lv_tableIn (off := 78) (tgt := 79) hx hb dX3_answer_1 (by rw [c_6]; decide) (by rw [c_6]; decide) (by rw [c_6]; decide) (by decide) ?_
    refine lv_aload_n hx hb dX3_answer_79 rfl (lv_at hl 0 rfl) ?_
    refine gf_ladle_stuff (d := d) (fun X => X) Fr_id cx wo (by omega) m_229 dX3_answer_80 ?_
    refine topv (y := .ref (ad (4 + d))) (congrArg (fun z => Value.ref (ad z)) (by omega)) ?_
    refine lv_iload_n hx hb dX3_answer_83 rfl (lv_at hl 1 rfl) ?_
    refine lv_iconst (v := 3) hx hb dX3_answer_84 (by decide) ?_
    refine lv_isub hx hb dX3_answer_85 ?_
    refine call_V (As := [.int (k - 3)]) (rest := []) (fun X => X) Fr_id cx (c_X4_of l G ad _ (t := 4 + d) (by omega) (by omega) (k - 3)) fx_X4_of m_487 m_488 m_489 ⟨by decide, by decide⟩ wo (at_stuff G _ _ (t := 4 + d) (by omega) (by omega)) rfl rfl rfl hl.1 rfl (Nat.le_of_ble_eq_true rfl) dX3_answer_86 ⟨by decide, by decide⟩ (fun v W1 H locs hp wo => ?_)
    obtain ⟨rfl, rfl⟩ := hp
    refine nrm_i ?_
    exact r2_i cx hQ wo dX3_answer_89 (by subst hM; exact ⟨rfl, rfl⟩)
  rw [if_neg c_6] at hM
  by_cases c_7 : k = 6
  · skip
    rw [if_pos c_7] at hM
    refine lv_tableIn (off := 78) (tgt := 79) hx hb dX3_answer_1 (by rw [c_7]; decide) (by rw [c_7]; decide) (by rw [c_7]; decide) (by decide) ?_
    refine lv_aload_n hx hb dX3_answer_79 rfl (lv_at hl 0 rfl) ?_
    refine gf_ladle_stuff (d := d) (fun X => X) Fr_id cx wo (by omega) m_229 dX3_answer_80 ?_
    refine topv (y := .ref (ad (4 + d))) (congrArg (fun z => Value.ref (ad z)) (by omega)) ?_
    refine lv_iload_n hx hb dX3_answer_83 rfl (lv_at hl 1 rfl) ?_
    refine lv_iconst (v := 3) hx hb dX3_answer_84 (by decide) ?_
    refine lv_isub hx hb dX3_answer_85 ?_
    refine call_V (As := [.int (k - 3)]) (rest := []) (fun X => X) Fr_id cx (c_X4_of l G ad _ (t := 4 + d) (by omega) (by omega) (k - 3)) fx_X4_of m_487 m_488 m_489 ⟨by decide, by decide⟩ wo (at_stuff G _ _ (t := 4 + d) (by omega) (by omega)) rfl rfl rfl hl.1 rfl (Nat.le_of_ble_eq_true rfl) dX3_answer_86 ⟨by decide, by decide⟩ (fun v W1 H locs hp wo => ?_)
    obtain ⟨rfl, rfl⟩ := hp
    refine nrm_i ?_
    exact r2_i cx hQ wo dX3_answer_89 (by subst hM; exact ⟨rfl, rfl⟩)
  rw [if_neg c_7] at hM
  by_cases c_8 : k = 7
  · skip
    rw [if_pos c_8] at hM
    refine lv_tableIn (off := 78) (tgt := 79) hx hb dX3_answer_1 (by rw [c_8]; decide) (by rw [c_8]; decide) (by rw [c_8]; decide) (by decide) ?_
    refine lv_aload_n hx hb dX3_answer_79 rfl (lv_at hl 0 rfl) ?_
    refine gf_ladle_stuff (d := d) (fun X => X) Fr_id cx wo (by omega) m_229 dX3_answer_80 ?_
    refine topv (y := .ref (ad (4 + d))) (congrArg (fun z => Value.ref (ad z)) (by omega)) ?_
    refine lv_iload_n hx hb dX3_answer_83 rfl (lv_at hl 1 rfl) ?_
    refine lv_iconst (v := 3) hx hb dX3_answer_84 (by decide) ?_
    refine lv_isub hx hb dX3_answer_85 ?_
    refine call_V (As := [.int (k - 3)]) (rest := []) (fun X => X) Fr_id cx (c_X4_of l G ad _ (t := 4 + d) (by omega) (by omega) (k - 3)) fx_X4_of m_487 m_488 m_489 ⟨by decide, by decide⟩ wo (at_stuff G _ _ (t := 4 + d) (by omega) (by omega)) rfl rfl rfl hl.1 rfl (Nat.le_of_ble_eq_true rfl) dX3_answer_86 ⟨by decide, by decide⟩ (fun v W1 H locs hp wo => ?_)
    obtain ⟨rfl, rfl⟩ := hp
    refine nrm_i ?_
    exact r2_i cx hQ wo dX3_answer_89 (by subst hM; exact ⟨rfl, rfl⟩)
  rw [if_neg c_8] at hM
  by_cases c_9 : k = 8
  · skip
    rw [if_pos c_9] at hM
    refine lv_tableIn (off := 89) (tgt := 90) hx hb dX3_answer_1 (by rw [c_9]; decide) (by rw [c_9]; decide) (by rw [c_9]; decide) (by decide) ?_
    refine lv_aload_n hx hb dX3_answer_90 rfl (lv_at hl 0 rfl) ?_
    refine gf_ladle_skull (d := d) (fun X => X) Fr_id cx wo (by omega) m_231 dX3_answer_91 ?_
    refine topv (y := .ref (ad (8 + d))) (congrArg (fun z => Value.ref (ad z)) (by omega)) ?_
    refine lv_iload_n hx hb dX3_answer_94 rfl (lv_at hl 1 rfl) ?_
    refine lv_bipush (v := 7) hx hb dX3_answer_95 (by decide) ?_
    refine lv_isub hx hb dX3_answer_97 ?_
    refine call_V (As := [.int (k - 7)]) (rest := []) (fun X => X) Fr_id cx (c_X4_of l G ad _ (t := 8 + d) (by omega) (by omega) (k - 7)) fx_X4_of m_487 m_488 m_489 ⟨by decide, by decide⟩ wo (at_stuff G _ _ (t := 8 + d) (by omega) (by omega)) rfl rfl rfl hl.1 rfl (Nat.le_of_ble_eq_true rfl) dX3_answer_98 ⟨by decide, by decide⟩ (fun v W1 H locs hp wo => ?_)
    obtain ⟨rfl, rfl⟩ := hp
    refine nrm_i ?_
    exact r2_i cx hQ wo dX3_answer_101 (by subst hM; exact ⟨rfl, rfl⟩)
  rw [if_neg c_9] at hM
  by_cases c_10 : k = 9
  · skip
    rw [if_pos c_10] at hM
    refine lv_tableIn (off := 89) (tgt := 90) hx hb dX3_answer_1 (by rw [c_10]; decide) (by rw [c_10]; decide) (by rw [c_10]; decide) (by decide) ?_
    refine lv_aload_n hx hb dX3_answer_90 rfl (lv_at hl 0 rfl) ?_
    refine gf_ladle_skull (d := d) (fun X => X) Fr_id cx wo (by omega) m_231 dX3_answer_91 ?_
    refine topv (y := .ref (ad (8 + d))) (congrArg (fun z => Value.ref (ad z)) (by omega)) ?_
    refine lv_iload_n hx hb dX3_answer_94 rfl (lv_at hl 1 rfl) ?_
    refine lv_bipush (v := 7) hx hb dX3_answer_95 (by decide) ?_
    refine lv_isub hx hb dX3_answer_97 ?_
    refine call_V (As := [.int (k - 7)]) (rest := []) (fun X => X) Fr_id cx (c_X4_of l G ad _ (t := 8 + d) (by omega) (by omega) (k - 7)) fx_X4_of m_487 m_488 m_489 ⟨by decide, by decide⟩ wo (at_stuff G _ _ (t := 8 + d) (by omega) (by omega)) rfl rfl rfl hl.1 rfl (Nat.le_of_ble_eq_true rfl) dX3_answer_98 ⟨by decide, by decide⟩ (fun v W1 H locs hp wo => ?_)
    obtain ⟨rfl, rfl⟩ := hp
    refine nrm_i ?_
    exact r2_i cx hQ wo dX3_answer_101 (by subst hM; exact ⟨rfl, rfl⟩)
  rw [if_neg c_10] at hM
  by_cases c_11 : k = 10
  · skip
    rw [if_pos c_11] at hM
    refine lv_tableIn (off := 89) (tgt := 90) hx hb dX3_answer_1 (by rw [c_11]; decide) (by rw [c_11]; decide) (by rw [c_11]; decide) (by decide) ?_
    refine lv_aload_n hx hb dX3_answer_90 rfl (lv_at hl 0 rfl) ?_
    refine gf_ladle_skull (d := d) (fun X => X) Fr_id cx wo (by omega) m_231 dX3_answer_91 ?_
    refine topv (y := .ref (ad (8 + d))) (congrArg (fun z => Value.ref (ad z)) (by omega)) ?_
    refine lv_iload_n hx hb dX3_answer_94 rfl (lv_at hl 1 rfl) ?_
    refine lv_bipush (v := 7) hx hb dX3_answer_95 (by decide) ?_
    refine lv_isub hx hb dX3_answer_97 ?_
    refine call_V (As := [.int (k - 7)]) (rest := []) (fun X => X) Fr_id cx (c_X4_of l G ad _ (t := 8 + d) (by omega) (by omega) (k - 7)) fx_X4_of m_487 m_488 m_489 ⟨by decide, by decide⟩ wo (at_stuff G _ _ (t := 8 + d) (by omega) (by omega)) rfl rfl rfl hl.1 rfl (Nat.le_of_ble_eq_true rfl) dX3_answer_98 ⟨by decide, by decide⟩ (fun v W1 H locs hp wo => ?_)
    obtain ⟨rfl, rfl⟩ := hp
    refine nrm_i ?_
    exact r2_i cx hQ wo dX3_answer_101 (by subst hM; exact ⟨rfl, rfl⟩)
  rw [if_neg c_11] at hM
  by_cases c_12 : k = 11
  · skip
    rw [if_pos c_12] at hM
    refine lv_tableIn (off := 89) (tgt := 90) hx hb dX3_answer_1 (by rw [c_12]; decide) (by rw [c_12]; decide) (by rw [c_12]; decide) (by decide) ?_
    refine lv_aload_n hx hb dX3_answer_90 rfl (lv_at hl 0 rfl) ?_
    refine gf_ladle_skull (d := d) (fun X => X) Fr_id cx wo (by omega) m_231 dX3_answer_91 ?_
    refine topv (y := .ref (ad (8 + d))) (congrArg (fun z => Value.ref (ad z)) (by omega)) ?_
    refine lv_iload_n hx hb dX3_answer_94 rfl (lv_at hl 1 rfl) ?_
    refine lv_bipush (v := 7) hx hb dX3_answer_95 (by decide) ?_
    refine lv_isub hx hb dX3_answer_97 ?_
    refine call_V (As := [.int (k - 7)]) (rest := []) (fun X => X) Fr_id cx (c_X4_of l G ad _ (t := 8 + d) (by omega) (by omega) (k - 7)) fx_X4_of m_487 m_488 m_489 ⟨by decide, by decide⟩ wo (at_stuff G _ _ (t := 8 + d) (by omega) (by omega)) rfl rfl rfl hl.1 rfl (Nat.le_of_ble_eq_true rfl) dX3_answer_98 ⟨by decide, by decide⟩ (fun v W1 H locs hp wo => ?_)
    obtain ⟨rfl, rfl⟩ := hp
    refine nrm_i ?_
    exact r2_i cx hQ wo dX3_answer_101 (by subst hM; exact ⟨rfl, rfl⟩)
  rw [if_neg c_12] at hM
  refine lv_tableOut (tgt := 102) hx hb dX3_answer_1 (by have q0 := lv_neT c_1 (a := 0) rfl; have q1 := lv_neT c_2 (a := 1) rfl; have q2 := lv_neT c_3 (a := 2) rfl; have q3 := lv_neT c_4 (a := 3) rfl; have q4 := lv_neT c_5 (a := 4) rfl; have q5 := lv_neT c_6 (a := 5) rfl; have q6 := lv_neT c_7 (a := 6) rfl; have q7 := lv_neT c_8 (a := 7) rfl; have q8 := lv_neT c_9 (a := 8) rfl; have q9 := lv_neT c_10 (a := 9) rfl; have q10 := lv_neT c_11 (a := 10) rfl; have q11 := lv_neT c_12 (a := 11) rfl; omega) (by decide) ?_
  refine lv_iconst (v := (-1)) hx hb dX3_answer_102 (by decide) ?_
  exact r2_i cx hQ wo dX3_answer_103 (by subst hM; exact ⟨rfl, rfl⟩)
abbrev rm_X3_room : Room := { frames := 1, cells := 0, slots := 0, locals := 20 }
def m_X3_room (g : St) (d : Nat) : Int32 :=
  ((100 - (m_X4_all g (8 + d))) - (m_X4_all g (4 + d)))
set_option maxHeartbeats 4000000 in
set_option maxRecDepth 100000 in
theorem c_X3_room (l : Launch) (G : GG) (ad : Nat → Nat) (g : St) {d : Nat} (hd : d < 4) : Ct l G yX3_room cX3_room 1 (some Jvm.ClassFile.FieldType.int) rm_X3_room [.ref (ad (22 + d))] (aw G ad g) (fun rv W1 => rv = some (.int (m_X3_room g d)) ∧ W1 = aw G ad g) := by
  refine Ct.mk2 (by decide) (Nat.le_of_ble_eq_true rfl) ?_
  intro p e s m args below meth c A H locs ls Q cx wo hl hQ
  obtain ⟨hx, hb, hml, hr, hlo, hown, hts, hnm, kn, hA⟩ := id cx
  have hl : lv_has ls 1 [(0, .ref (ad (22 + d)))] := hl
  generalize hM : m_X3_room g d = M at hQ
  unfold m_X3_room at hM
  refine lv_bipush (v := 100) hx hb dX3_room_0 (by decide) ?_
  refine lv_aload_n hx hb dX3_room_2 rfl (lv_at hl 0 rfl) ?_
  refine gf_ladle_skull (d := d) (fun X => X) Fr_id cx wo (by omega) m_231 dX3_room_3 ?_
  refine topv (y := .ref (ad (8 + d))) (congrArg (fun z => Value.ref (ad z)) (by omega)) ?_
  refine call_V (As := []) (rest := [.int 100]) (fun X => X) Fr_id cx (c_X4_all l G ad _ (t := 8 + d) (by omega) (by omega)) fx_X4_all m_466 m_316 m_317 ⟨by decide, by decide⟩ wo (at_stuff G _ _ (t := 8 + d) (by omega) (by omega)) rfl rfl rfl hl.1 rfl (Nat.le_of_ble_eq_true rfl) dX3_room_6 ⟨by decide, by decide⟩ (fun v W1 H locs hp wo => ?_)
  obtain ⟨rfl, rfl⟩ := hp
  refine nrm_i ?_
  refine lv_isub hx hb dX3_room_9 ?_
  refine lv_aload_n hx hb dX3_room_10 rfl (lv_at hl 0 rfl) ?_
  refine gf_ladle_stuff (d := d) (fun X => X) Fr_id cx wo (by omega) m_229 dX3_room_11 ?_
  refine topv (y := .ref (ad (4 + d))) (congrArg (fun z => Value.ref (ad z)) (by omega)) ?_
  refine call_V (As := []) (rest := [.int (100 - (m_X4_all g (8 + d)))]) (fun X => X) Fr_id cx (c_X4_all l G ad _ (t := 4 + d) (by omega) (by omega)) fx_X4_all m_466 m_316 m_317 ⟨by decide, by decide⟩ wo (at_stuff G _ _ (t := 4 + d) (by omega) (by omega)) rfl rfl rfl hl.1 rfl (Nat.le_of_ble_eq_true rfl) dX3_room_14 ⟨by decide, by decide⟩ (fun v W1 H locs hp wo => ?_)
  obtain ⟨rfl, rfl⟩ := hp
  refine nrm_i ?_
  refine lv_isub hx hb dX3_room_17 ?_
  exact r2_i cx hQ wo dX3_room_18 (by subst hM; exact ⟨rfl, rfl⟩)
abbrev rm_X3_stuffThatFreezes : Room := { frames := 1, cells := 0, slots := 0, locals := 21 }
def m_X3_stuffThatFreezes (g : St) (d : Nat) : Int32 :=
  (mn (mn 2 (m_X4_all g (4 + d))) (20 - (m_X4_all g (8 + d))))
set_option maxHeartbeats 4000000 in
set_option maxRecDepth 100000 in
theorem c_X3_stuffThatFreezes (l : Launch) (G : GG) (ad : Nat → Nat) (g : St) {d : Nat} (hd : d < 4) : Ct l G yX3_stuffThatFreezes cX3_stuffThatFreezes 1 (some Jvm.ClassFile.FieldType.int) rm_X3_stuffThatFreezes [.ref (ad (22 + d))] (aw G ad g) (fun rv W1 => rv = some (.int (m_X3_stuffThatFreezes g d)) ∧ W1 = aw G ad g) := by
  refine Ct.mk2 (by decide) (Nat.le_of_ble_eq_true rfl) ?_
  intro p e s m args below meth c A H locs ls Q cx wo hl hQ
  obtain ⟨hx, hb, hml, hr, hlo, hown, hts, hnm, kn, hA⟩ := id cx
  have hl : lv_has ls 1 [(0, .ref (ad (22 + d)))] := hl
  generalize hM : m_X3_stuffThatFreezes g d = M at hQ
  unfold m_X3_stuffThatFreezes at hM
  refine lv_iconst (v := 2) hx hb dX3_stuffThatFreezes_0 (by decide) ?_
  refine lv_aload_n hx hb dX3_stuffThatFreezes_1 rfl (lv_at hl 0 rfl) ?_
  refine gf_ladle_stuff (d := d) (fun X => X) Fr_id cx wo (by omega) m_229 dX3_stuffThatFreezes_2 ?_
  refine topv (y := .ref (ad (4 + d))) (congrArg (fun z => Value.ref (ad z)) (by omega)) ?_
  refine call_V (As := []) (rest := [.int 2]) (fun X => X) Fr_id cx (c_X4_all l G ad _ (t := 4 + d) (by omega) (by omega)) fx_X4_all m_466 m_316 m_317 ⟨by decide, by decide⟩ wo (at_stuff G _ _ (t := 4 + d) (by omega) (by omega)) rfl rfl rfl hl.1 rfl (Nat.le_of_ble_eq_true rfl) dX3_stuffThatFreezes_5 ⟨by decide, by decide⟩ (fun v W1 H locs hp wo => ?_)
  obtain ⟨rfl, rfl⟩ := hp
  refine nrm_i ?_
  refine min_r cx m_479 dX3_stuffThatFreezes_8 hl.1 (by decide) (Nat.le_of_ble_eq_true rfl) (by decide) (by decide) ?_
  refine lv_bipush (v := 20) hx hb dX3_stuffThatFreezes_11 (by decide) ?_
  refine lv_aload_n hx hb dX3_stuffThatFreezes_13 rfl (lv_at hl 0 rfl) ?_
  refine gf_ladle_skull (d := d) (fun X => X) Fr_id cx wo (by omega) m_231 dX3_stuffThatFreezes_14 ?_
  refine topv (y := .ref (ad (8 + d))) (congrArg (fun z => Value.ref (ad z)) (by omega)) ?_
  refine call_V (As := []) (rest := [.int 20, .int (mn 2 (m_X4_all g (4 + d)))]) (fun X => X) Fr_id cx (c_X4_all l G ad _ (t := 8 + d) (by omega) (by omega)) fx_X4_all m_466 m_316 m_317 ⟨by decide, by decide⟩ wo (at_stuff G _ _ (t := 8 + d) (by omega) (by omega)) rfl rfl rfl hl.1 rfl (Nat.le_of_ble_eq_true rfl) dX3_stuffThatFreezes_17 ⟨by decide, by decide⟩ (fun v W1 H locs hp wo => ?_)
  obtain ⟨rfl, rfl⟩ := hp
  refine nrm_i ?_
  refine lv_isub hx hb dX3_stuffThatFreezes_20 ?_
  refine min_r cx m_479 dX3_stuffThatFreezes_21 hl.1 (by decide) (Nat.le_of_ble_eq_true rfl) (by decide) (by decide) ?_
  exact r2_i cx hQ wo dX3_stuffThatFreezes_24 (by subst hM; exact ⟨rfl, rfl⟩)
abbrev rm_X3_empty : Room := { frames := 1, cells := 0, slots := 0, locals := 20 }
def m_X3_empty (g : St) (d : Nat) : St :=
  (upd (m_X4_clear g (4 + d)) (96 + d) 0)
set_option maxHeartbeats 4000000 in
set_option maxRecDepth 100000 in
theorem c_X3_empty (l : Launch) (G : GG) (ad : Nat → Nat) (g : St) {d : Nat} (hd : d < 4) : Ct l G yX3_empty cX3_empty 1 (none : Option Jvm.ClassFile.FieldType) rm_X3_empty [.ref (ad (22 + d))] (aw G ad g) (fun rv W1 => rv = none ∧ W1 = aw G ad (m_X3_empty g d)) := by
  refine Ct.mk2 (by decide) (Nat.le_of_ble_eq_true rfl) ?_
  intro p e s m args below meth c A H locs ls Q cx wo hl hQ
  obtain ⟨hx, hb, hml, hr, hlo, hown, hts, hnm, kn, hA⟩ := id cx
  have hl : lv_has ls 1 [(0, .ref (ad (22 + d)))] := hl
  generalize hM : m_X3_empty g d = M at hQ
  unfold m_X3_empty at hM
  refine lv_aload_n hx hb dX3_empty_0 rfl (lv_at hl 0 rfl) ?_
  refine gf_ladle_stuff (d := d) (fun X => X) Fr_id cx wo (by omega) m_229 dX3_empty_1 ?_
  refine topv (y := .ref (ad (4 + d))) (congrArg (fun z => Value.ref (ad z)) (by omega)) ?_
  refine call_V (As := []) (rest := []) (fun X => X) Fr_id cx (c_X4_clear l G ad _ (t := 4 + d) (by omega) (by omega)) fx_X4_clear m_501 m_502 m_503 ⟨by decide, by decide⟩ wo (at_stuff G _ _ (t := 4 + d) (by omega) (by omega)) rfl rfl rfl hl.1 rfl (Nat.le_of_ble_eq_true rfl) dX3_empty_4 ⟨by decide, by decide⟩ (fun v W1 H locs hp wo => ?_)
  obtain ⟨rfl, rfl⟩ := hp
  refine nrm_v ?_
  refine lv_aload_n hx hb dX3_empty_7 rfl (lv_at hl 0 rfl) ?_
  refine lv_iconst (v := 0) hx hb dX3_empty_8 (by decide) ?_
  refine pf_ladle_sort (d := d) (fun X => X) Fr_id cx wo (by omega) m_237 dX3_empty_9 (fun H locs gz hgz wo => ?_)
  subst hgz
  exact r2_v cx hQ wo dX3_empty_12 (by subst hM; exact ⟨rfl, rfl⟩)
abbrev rm_X1_answer : Room := { frames := 0, cells := 0, slots := 0, locals := 0 }
def m_X1_answer (g : St) (k : Int32) : Int32 :=
  if k = 0 then (g 140)
  else if k = 1 then (g 70)
  else if k = 2 then (g 142)
  else if k = 3 then (g 143)
  else if k = 4 then (g 144)
  else if k = 5 then (g 145)
  else if k = 6 then (g 146)
  else (-1)
set_option maxHeartbeats 4000000 in
set_option maxRecDepth 100000 in
theorem c_X1_answer (l : Launch) (G : GG) (ad : Nat → Nat) (g : St) (k : Int32) : Ct l G yX1_answer cX1_answer 2 (some Jvm.ClassFile.FieldType.int) rm_X1_answer [.ref (ad 28), .int k] (aw G ad g) (fun rv W1 => rv = some (.int (m_X1_answer g k)) ∧ W1 = aw G ad g) := by
  refine Ct.mk2 (by decide) (Nat.le_of_ble_eq_true rfl) ?_
  intro p e s m args below meth c A H locs ls Q cx wo hl hQ
  obtain ⟨hx, hb, hml, hr, hlo, hown, hts, hnm, kn, hA⟩ := id cx
  have hl : lv_has ls 2 [(0, .ref (ad 28)), (1, .int k)] := hl
  generalize hM : m_X1_answer g k = M at hQ
  unfold m_X1_answer at hM
  refine lv_iload_n hx hb dX1_answer_0 rfl (lv_at hl 1 rfl) ?_
  by_cases c_1 : k = 0
  · skip
    rw [if_pos c_1] at hM
    refine lv_tableIn (off := 43) (tgt := 44) hx hb dX1_answer_1 (by rw [c_1]; decide) (by rw [c_1]; decide) (by rw [c_1]; decide) (by decide) ?_
    refine lv_aload_n hx hb dX1_answer_44 rfl (lv_at hl 0 rfl) ?_
    refine gf_books_minutesPassed (fun X => X) Fr_id cx wo  m_148 dX1_answer_45 ?_
    exact r2_i cx hQ wo dX1_answer_48 (by subst hM; exact ⟨rfl, rfl⟩)
  rw [if_neg c_1] at hM
  by_cases c_2 : k = 1
  · skip
    rw [if_pos c_2] at hM
    refine lv_tableIn (off := 48) (tgt := 49) hx hb dX1_answer_1 (by rw [c_2]; decide) (by rw [c_2]; decide) (by rw [c_2]; decide) (by decide) ?_
    refine lv_aload_n hx hb dX1_answer_49 rfl (lv_at hl 0 rfl) ?_
    refine gf_books_becameOther (fun X => X) Fr_id cx wo  m_144 dX1_answer_50 ?_
    refine gfi_stuff_sulphur (t := 17) (i := 70) (fun X => X) Fr_id cx wo (by omega) (by omega) (by omega) m_75 dX1_answer_53 ?_
    exact r2_i cx hQ wo dX1_answer_56 (by subst hM; exact ⟨rfl, rfl⟩)
  rw [if_neg c_2] at hM
  by_cases c_3 : k = 2
  · skip
    rw [if_pos c_3] at hM
    refine lv_tableIn (off := 56) (tgt := 57) hx hb dX1_answer_1 (by rw [c_3]; decide) (by rw [c_3]; decide) (by rw [c_3]; decide) (by decide) ?_
    refine lv_aload_n hx hb dX1_answer_57 rfl (lv_at hl 0 rfl) ?_
    refine gf_books_gasOfMinute (fun X => X) Fr_id cx wo  m_151 dX1_answer_58 ?_
    exact r2_i cx hQ wo dX1_answer_61 (by subst hM; exact ⟨rfl, rfl⟩)
  rw [if_neg c_3] at hM
  by_cases c_4 : k = 3
  · skip
    rw [if_pos c_4] at hM
    refine lv_tableIn (off := 61) (tgt := 62) hx hb dX1_answer_1 (by rw [c_4]; decide) (by rw [c_4]; decide) (by rw [c_4]; decide) (by decide) ?_
    refine lv_aload_n hx hb dX1_answer_62 rfl (lv_at hl 0 rfl) ?_
    refine gf_books_anodes (fun X => X) Fr_id cx wo  m_153 dX1_answer_63 ?_
    exact r2_i cx hQ wo dX1_answer_66 (by subst hM; exact ⟨rfl, rfl⟩)
  rw [if_neg c_4] at hM
  by_cases c_5 : k = 4
  · skip
    rw [if_pos c_5] at hM
    refine lv_tableIn (off := 66) (tgt := 67) hx hb dX1_answer_1 (by rw [c_5]; decide) (by rw [c_5]; decide) (by rw [c_5]; decide) (by decide) ?_
    refine lv_aload_n hx hb dX1_answer_67 rfl (lv_at hl 0 rfl) ?_
    refine gf_books_starved (fun X => X) Fr_id cx wo  m_155 dX1_answer_68 ?_
    exact r2_i cx hQ wo dX1_answer_71 (by subst hM; exact ⟨rfl, rfl⟩)
  rw [if_neg c_5] at hM
  by_cases c_6 : k = 5
  · skip
    rw [if_pos c_6] at hM
    refine lv_tableIn (off := 71) (tgt := 72) hx hb dX1_answer_1 (by rw [c_6]; decide) (by rw [c_6]; decide) (by rw [c_6]; decide) (by decide) ?_
    refine lv_aload_n hx hb dX1_answer_72 rfl (lv_at hl 0 rfl) ?_
    refine gf_books_fullMinutes (fun X => X) Fr_id cx wo  m_157 dX1_answer_73 ?_
    exact r2_i cx hQ wo dX1_answer_76 (by subst hM; exact ⟨rfl, rfl⟩)
  rw [if_neg c_6] at hM
  by_cases c_7 : k = 6
  · skip
    rw [if_pos c_7] at hM
    refine lv_tableIn (off := 76) (tgt := 77) hx hb dX1_answer_1 (by rw [c_7]; decide) (by rw [c_7]; decide) (by rw [c_7]; decide) (by decide) ?_
    refine lv_aload_n hx hb dX1_answer_77 rfl (lv_at hl 0 rfl) ?_
    refine gf_books_ordersDone (fun X => X) Fr_id cx wo  m_159 dX1_answer_78 ?_
    exact r2_i cx hQ wo dX1_answer_81 (by subst hM; exact ⟨rfl, rfl⟩)
  rw [if_neg c_7] at hM
  refine lv_tableOut (tgt := 82) hx hb dX1_answer_1 (by have q0 := lv_neT c_1 (a := 0) rfl; have q1 := lv_neT c_2 (a := 1) rfl; have q2 := lv_neT c_3 (a := 2) rfl; have q3 := lv_neT c_4 (a := 3) rfl; have q4 := lv_neT c_5 (a := 4) rfl; have q5 := lv_neT c_6 (a := 5) rfl; have q6 := lv_neT c_7 (a := 6) rfl; omega) (by decide) ?_
  refine lv_iconst (v := (-1)) hx hb dX1_answer_82 (by decide) ?_
  exact r2_i cx hQ wo dX1_answer_83 (by subst hM; exact ⟨rfl, rfl⟩)
theorem ixl {x : Int32} {k : Nat} (h0 : ¬ x < 0) (h1 : ¬ nI k ≤ x) (hk : k < 2 ^ 31 := by decide) : x = nI x.toNatClampNeg ∧ x.toNatClampNeg < k := by
  obtain ⟨j, hj, rfl⟩ := nI_of h0
  rw [nI_clamp hj]
  exact ⟨rfl, by rw [nI_leI hk hj] at h1; omega⟩
theorem ixb {x : Int32} {k : Nat} (h : m_X6_isBetween 0 x (nI k) = true) (hk : k + 1 < 2 ^ 31 := by decide) : x = nI x.toNatClampNeg ∧ x.toNatClampNeg < k + 1 := by
  unfold m_X6_isBetween at h
  by_cases c1 : x < 0
  · rw [if_pos c1] at h; cases h
  rw [if_neg c1] at h
  by_cases c2 : nI k < x
  · rw [if_pos c2] at h; cases h
  obtain ⟨j, hj, rfl⟩ := nI_of c1
  rw [nI_clamp hj]
  exact ⟨rfl, by rw [nI_ltI (by omega) hj] at c2; omega⟩
abbrev rm_X2_goesWhereItIs : Room := { frames := 1, cells := 0, slots := 0, locals := 20 }
def m_X2_goesWhereItIs (g : St) (r : Nat) : Bool :=
  if (m_X2_firstWhat g r) = 0 then (if (g (109 + 16 * r)) = (g (100 + r)) then true
    else false)
  else false
set_option maxHeartbeats 4000000 in
set_option maxRecDepth 100000 in
theorem c_X2_goesWhereItIs (l : Launch) (G : GG) (ad : Nat → Nat) (g : St) {r : Nat} (hr : r < 2) : Ct l G yX2_goesWhereItIs cX2_goesWhereItIs 1 (some Jvm.ClassFile.FieldType.boolean) rm_X2_goesWhereItIs [.ref (ad (26 + r))] (aw G ad g) (fun rv W1 => rv = some (.int (bi (m_X2_goesWhereItIs g r))) ∧ W1 = aw G ad g) := by
  refine Ct.mk2 (by decide) (Nat.le_of_ble_eq_true rfl) ?_
  intro p e s m args below meth c A H locs ls Q cx wo hl hQ
  obtain ⟨hx, hb, hml, hr, hlo, hown, hts, hnm, kn, hA⟩ := id cx
  have hl : lv_has ls 1 [(0, .ref (ad (26 + r)))] := hl
  generalize hM : m_X2_goesWhereItIs g r = M at hQ
  unfold m_X2_goesWhereItIs at hM
  refine lv_aload_n hx hb dX2_goesWhereItIs_0 rfl (lv_at hl 0 rfl) ?_
  refine call_V (As := []) (rest := []) (fun X => X) Fr_id cx (c_X2_firstWhat l G ad _ (r := r) (by omega)) fx_X2_firstWhat m_404 m_405 m_406 ⟨by decide, by decide⟩ wo (at_crane G _ _ (r := r) (by omega)) rfl rfl rfl hl.1 rfl (Nat.le_of_ble_eq_true rfl) dX2_goesWhereItIs_1 ⟨by decide, by decide⟩ (fun v W1 H locs hp wo => ?_)
  obtain ⟨rfl, rfl⟩ := hp
  refine nrm_i ?_
  refine lv_if_ne (tgt := 24) hx hb dX2_goesWhereItIs_4 (by decide) (fun c_1 => ?_) (fun c_1 => ?_)
  · skip
    rw [if_neg c_1] at hM
    refine lv_iconst (v := 0) hx hb dX2_goesWhereItIs_24 (by decide) ?_
    refine tope (y := bi false) rfl ?_
    exact r2_z cx hQ wo dX2_goesWhereItIs_25 (by subst hM; exact ⟨rfl, rfl⟩)
  · skip
    rw [if_pos c_1] at hM
    refine lv_aload_n hx hb dX2_goesWhereItIs_7 rfl (lv_at hl 0 rfl) ?_
    refine gf_crane_targets (r := r) (fun X => X) Fr_id cx wo (by omega) m_105 dX2_goesWhereItIs_8 ?_
    refine topv (y := .ref (ad (33 + r))) (congrArg (fun z => Value.ref (ad z)) (by omega)) ?_
    refine lv_iconst (v := 0) hx hb dX2_goesWhereItIs_11 (by decide) ?_
    refine ald_tg (c := r) (n := 0) (fun X => X) Fr_id cx wo (by omega) rfl (by omega) dX2_goesWhereItIs_12 ?_
    refine tope (y := g (109 + 16 * r)) (congrArg g (by omega)) ?_
    refine lv_aload_n hx hb dX2_goesWhereItIs_13 rfl (lv_at hl 0 rfl) ?_
    refine gf_crane_place (r := r) (fun X => X) Fr_id cx wo (by omega) m_106 dX2_goesWhereItIs_14 ?_
    refine lv_icmp_ne (tgt := 24) hx hb dX2_goesWhereItIs_17 (by decide) (fun c_2 => ?_) (fun c_2 => ?_)
    · skip
      rw [if_neg c_2] at hM
      refine lv_iconst (v := 0) hx hb dX2_goesWhereItIs_24 (by decide) ?_
      refine tope (y := bi false) rfl ?_
      exact r2_z cx hQ wo dX2_goesWhereItIs_25 (by subst hM; exact ⟨rfl, rfl⟩)
    · skip
      rw [if_pos c_2] at hM
      refine lv_iconst (v := 1) hx hb dX2_goesWhereItIs_20 (by decide) ?_
      refine lv_goto (tgt := 25) hx hb dX2_goesWhereItIs_21 (by decide) ?_
      refine tope (y := bi true) rfl ?_
      exact r2_z cx hQ wo dX2_goesWhereItIs_25 (by subst hM; exact ⟨rfl, rfl⟩)
abbrev rm_X2_addOrder : Room := { frames := 0, cells := 0, slots := 0, locals := 0 }
def m_X2_addOrder (g : St) (r : Nat) (k : Int32) (n : Int32) : Bool × St :=
  if (g (104 + r)) < 0 then (false, g)
  else if 8 ≤ (g (104 + r)) then (false, g)
  else if (g (104 + r)) < 8 then (true, (upd (upd (upd g (108 + 16 * r + 2 * (g (104 + r)).toNatClampNeg) k) (109 + 16 * r + 2 * (g (104 + r)).toNatClampNeg) n) (104 + r) ((g (104 + r)) + 1)))
  else (false, g)
set_option maxHeartbeats 4000000 in
set_option maxRecDepth 100000 in
theorem c_X2_addOrder (l : Launch) (G : GG) (ad : Nat → Nat) (g : St) {r : Nat} (hr : r < 2) (k : Int32) (n : Int32) : Ct l G yX2_addOrder cX2_addOrder 3 (some Jvm.ClassFile.FieldType.boolean) rm_X2_addOrder [.ref (ad (26 + r)), .int k, .int n] (aw G ad g) (fun rv W1 => rv = some (.int (bi (m_X2_addOrder g r k n).1)) ∧ W1 = aw G ad (m_X2_addOrder g r k n).2) := by
  refine Ct.mk2 (by decide) (Nat.le_of_ble_eq_true rfl) ?_
  intro p e s m args below meth c A H locs ls Q cx wo hl hQ
  obtain ⟨hx, hb, hml, hr, hlo, hown, hts, hnm, kn, hA⟩ := id cx
  have hl : lv_has ls 3 [(0, .ref (ad (26 + r))), (1, .int k), (2, .int n)] := hl
  generalize hM : m_X2_addOrder g r k n = M at hQ
  unfold m_X2_addOrder at hM
  refine lv_aload_n hx hb dX2_addOrder_0 rfl (lv_at hl 0 rfl) ?_
  refine gf_crane_orders (r := r) (fun X => X) Fr_id cx wo (by omega) m_108 dX2_addOrder_1 ?_
  refine lv_if_lt (tgt := 31) hx hb dX2_addOrder_4 (by decide) (fun c_1 => ?_) (fun c_1 => ?_)
  · skip
    rw [if_pos c_1] at hM
    refine lv_iconst (v := 0) hx hb dX2_addOrder_31 (by decide) ?_
    refine tope (y := bi false) rfl ?_
    exact r2_z cx hQ wo dX2_addOrder_32 (by subst hM; exact ⟨rfl, rfl⟩)
  · skip
    rw [if_neg c_1] at hM
    refine lv_aload_n hx hb dX2_addOrder_7 rfl (lv_at hl 0 rfl) ?_
    refine gf_crane_orders (r := r) (fun X => X) Fr_id cx wo (by omega) m_108 dX2_addOrder_8 ?_
    refine lv_aload_n hx hb dX2_addOrder_11 rfl (lv_at hl 0 rfl) ?_
    refine gf_crane_whats (r := r) (fun X => X) Fr_id cx wo (by omega) m_104 dX2_addOrder_12 ?_
    refine topv (y := .ref (ad (31 + r))) (congrArg (fun z => Value.ref (ad z)) (by omega)) ?_
    refine alen (v := 8) (fun X => X) Fr_id cx wo (by rw [aw_at G _ _ (j := 31 + r) (by omega), ac_wh G _ _ (by omega)]) (t0 := 0) rfl rfl dX2_addOrder_15 ?_
    refine lv_icmp_ge (tgt := 31) hx hb dX2_addOrder_16 (by decide) (fun c_2 => ?_) (fun c_2 => ?_)
    · skip
      rw [if_pos c_2] at hM
      refine lv_iconst (v := 0) hx hb dX2_addOrder_31 (by decide) ?_
      refine tope (y := bi false) rfl ?_
      exact r2_z cx hQ wo dX2_addOrder_32 (by subst hM; exact ⟨rfl, rfl⟩)
    · skip
      rw [if_neg c_2] at hM
      refine lv_aload_n hx hb dX2_addOrder_19 rfl (lv_at hl 0 rfl) ?_
      refine gf_crane_orders (r := r) (fun X => X) Fr_id cx wo (by omega) m_108 dX2_addOrder_20 ?_
      refine lv_aload_n hx hb dX2_addOrder_23 rfl (lv_at hl 0 rfl) ?_
      refine gf_crane_targets (r := r) (fun X => X) Fr_id cx wo (by omega) m_105 dX2_addOrder_24 ?_
      refine topv (y := .ref (ad (33 + r))) (congrArg (fun z => Value.ref (ad z)) (by omega)) ?_
      refine alen (v := 8) (fun X => X) Fr_id cx wo (by rw [aw_at G _ _ (j := 33 + r) (by omega), ac_tg G _ _ (by omega)]) (t0 := 0) rfl rfl dX2_addOrder_27 ?_
      refine lv_icmp_lt (tgt := 33) hx hb dX2_addOrder_28 (by decide) (fun c_3 => ?_) (fun c_3 => ?_)
      · skip
        rw [if_pos c_3] at hM
        refine lv_aload_n hx hb dX2_addOrder_33 rfl (lv_at hl 0 rfl) ?_
        refine gf_crane_whats (r := r) (fun X => X) Fr_id cx wo (by omega) m_104 dX2_addOrder_34 ?_
        refine topv (y := .ref (ad (31 + r))) (congrArg (fun z => Value.ref (ad z)) (by omega)) ?_
        refine lv_aload_n hx hb dX2_addOrder_37 rfl (lv_at hl 0 rfl) ?_
        refine gf_crane_orders (r := r) (fun X => X) Fr_id cx wo (by omega) m_108 dX2_addOrder_38 ?_
        refine lv_iload_n hx hb dX2_addOrder_41 rfl (lv_at hl 1 rfl) ?_
        have ix_4 := ixl (k := 8) c_1 c_2
        have ix_4b := ix_4.2
        refine ast_wh (c := r) (n := (g (104 + r)).toNatClampNeg) (fun X => X) Fr_id cx wo (by omega) ix_4.1 ix_4.2 dX2_addOrder_42 (fun H locs gz hgz wo => ?_)
        rw [show 108 + 16 * r + 2 * ((g (104 + r)).toNatClampNeg) = 108 + 16 * r + 2 * (g (104 + r)).toNatClampNeg from by omega] at hgz
        subst hgz
        refine lv_aload_n hx hb dX2_addOrder_43 rfl (lv_at hl 0 rfl) ?_
        refine gf_crane_targets (r := r) (fun X => X) Fr_id cx wo (by omega) m_105 dX2_addOrder_44 ?_
        refine topv (y := .ref (ad (33 + r))) (congrArg (fun z => Value.ref (ad z)) (by omega)) ?_
        refine lv_aload_n hx hb dX2_addOrder_47 rfl (lv_at hl 0 rfl) ?_
        refine gf_crane_orders (r := r) (fun X => X) Fr_id cx wo (by omega) m_108 dX2_addOrder_48 ?_
        refine tope (y := (g (104 + r))) (show (upd g (108 + 16 * r + 2 * (g (104 + r)).toNatClampNeg) k) (104 + r) = (g (104 + r)) from (rdN (by omega) rfl)) ?_
        refine lv_iload_n hx hb dX2_addOrder_51 rfl (lv_at hl 2 rfl) ?_
        have ix_5 := ixl (k := 8) c_1 c_2
        have ix_5b := ix_5.2
        refine ast_tg (c := r) (n := (g (104 + r)).toNatClampNeg) (fun X => X) Fr_id cx wo (by omega) ix_5.1 ix_5.2 dX2_addOrder_52 (fun H locs gz hgz wo => ?_)
        rw [show 108 + 16 * r + 2 * ((g (104 + r)).toNatClampNeg) + 1 = 109 + 16 * r + 2 * (g (104 + r)).toNatClampNeg from by omega] at hgz
        subst hgz
        refine lv_aload_n hx hb dX2_addOrder_53 rfl (lv_at hl 0 rfl) ?_
        refine lv_dup hx hb dX2_addOrder_54 rfl ?_
        refine gf_crane_orders (r := r) (fun X => X) Fr_id cx wo (by omega) m_108 dX2_addOrder_55 ?_
        refine tope (y := (g (104 + r))) (show (upd (upd g (108 + 16 * r + 2 * (g (104 + r)).toNatClampNeg) k) (109 + 16 * r + 2 * (g (104 + r)).toNatClampNeg) n) (104 + r) = (g (104 + r)) from (rdN (by omega) (rdN (by omega) rfl))) ?_
        refine lv_iconst (v := 1) hx hb dX2_addOrder_58 (by decide) ?_
        refine lv_iadd hx hb dX2_addOrder_59 ?_
        refine pf_crane_orders (r := r) (fun X => X) Fr_id cx wo (by omega) m_108 dX2_addOrder_60 (fun H locs gz hgz wo => ?_)
        subst hgz
        refine lv_iconst (v := 1) hx hb dX2_addOrder_63 (by decide) ?_
        refine tope (y := bi true) rfl ?_
        exact r2_z cx hQ wo dX2_addOrder_64 (by subst hM; exact ⟨rfl, rfl⟩)
      · skip
        rw [if_neg c_3] at hM
        refine lv_iconst (v := 0) hx hb dX2_addOrder_31 (by decide) ?_
        refine tope (y := bi false) rfl ?_
        exact r2_z cx hQ wo dX2_addOrder_32 (by subst hM; exact ⟨rfl, rfl⟩)
abbrev rm_X2_removeFirst : Room := { frames := 1, cells := 0, slots := 0, locals := 21 }
def m_X2_removeFirst (g : St) (r : Nat) : St :=
  if (g (104 + r)) ≤ 1 then (upd g (104 + r) (mx 0 ((g (104 + r)) - 1)))
  else if (g (104 + r)) ≤ 2 then (upd (upd (upd g (108 + 16 * r) (g (110 + 16 * r))) (109 + 16 * r) (g (111 + 16 * r))) (104 + r) (mx 0 ((g (104 + r)) - 1)))
  else if (g (104 + r)) ≤ 3 then (upd (upd (upd (upd (upd g (108 + 16 * r) (g (110 + 16 * r))) (109 + 16 * r) (g (111 + 16 * r))) (110 + 16 * r) (g (112 + 16 * r))) (111 + 16 * r) (g (113 + 16 * r))) (104 + r) (mx 0 ((g (104 + r)) - 1)))
  else if (g (104 + r)) ≤ 4 then (upd (upd (upd (upd (upd (upd (upd g (108 + 16 * r) (g (110 + 16 * r))) (109 + 16 * r) (g (111 + 16 * r))) (110 + 16 * r) (g (112 + 16 * r))) (111 + 16 * r) (g (113 + 16 * r))) (112 + 16 * r) (g (114 + 16 * r))) (113 + 16 * r) (g (115 + 16 * r))) (104 + r) (mx 0 ((g (104 + r)) - 1)))
  else if (g (104 + r)) ≤ 5 then (upd (upd (upd (upd (upd (upd (upd (upd (upd g (108 + 16 * r) (g (110 + 16 * r))) (109 + 16 * r) (g (111 + 16 * r))) (110 + 16 * r) (g (112 + 16 * r))) (111 + 16 * r) (g (113 + 16 * r))) (112 + 16 * r) (g (114 + 16 * r))) (113 + 16 * r) (g (115 + 16 * r))) (114 + 16 * r) (g (116 + 16 * r))) (115 + 16 * r) (g (117 + 16 * r))) (104 + r) (mx 0 ((g (104 + r)) - 1)))
  else if (g (104 + r)) ≤ 6 then (upd (upd (upd (upd (upd (upd (upd (upd (upd (upd (upd g (108 + 16 * r) (g (110 + 16 * r))) (109 + 16 * r) (g (111 + 16 * r))) (110 + 16 * r) (g (112 + 16 * r))) (111 + 16 * r) (g (113 + 16 * r))) (112 + 16 * r) (g (114 + 16 * r))) (113 + 16 * r) (g (115 + 16 * r))) (114 + 16 * r) (g (116 + 16 * r))) (115 + 16 * r) (g (117 + 16 * r))) (116 + 16 * r) (g (118 + 16 * r))) (117 + 16 * r) (g (119 + 16 * r))) (104 + r) (mx 0 ((g (104 + r)) - 1)))
  else if (g (104 + r)) ≤ 7 then (upd (upd (upd (upd (upd (upd (upd (upd (upd (upd (upd (upd (upd g (108 + 16 * r) (g (110 + 16 * r))) (109 + 16 * r) (g (111 + 16 * r))) (110 + 16 * r) (g (112 + 16 * r))) (111 + 16 * r) (g (113 + 16 * r))) (112 + 16 * r) (g (114 + 16 * r))) (113 + 16 * r) (g (115 + 16 * r))) (114 + 16 * r) (g (116 + 16 * r))) (115 + 16 * r) (g (117 + 16 * r))) (116 + 16 * r) (g (118 + 16 * r))) (117 + 16 * r) (g (119 + 16 * r))) (118 + 16 * r) (g (120 + 16 * r))) (119 + 16 * r) (g (121 + 16 * r))) (104 + r) (mx 0 ((g (104 + r)) - 1)))
  else if (g (104 + r)) ≤ 8 then (upd (upd (upd (upd (upd (upd (upd (upd (upd (upd (upd (upd (upd (upd (upd g (108 + 16 * r) (g (110 + 16 * r))) (109 + 16 * r) (g (111 + 16 * r))) (110 + 16 * r) (g (112 + 16 * r))) (111 + 16 * r) (g (113 + 16 * r))) (112 + 16 * r) (g (114 + 16 * r))) (113 + 16 * r) (g (115 + 16 * r))) (114 + 16 * r) (g (116 + 16 * r))) (115 + 16 * r) (g (117 + 16 * r))) (116 + 16 * r) (g (118 + 16 * r))) (117 + 16 * r) (g (119 + 16 * r))) (118 + 16 * r) (g (120 + 16 * r))) (119 + 16 * r) (g (121 + 16 * r))) (120 + 16 * r) (g (122 + 16 * r))) (121 + 16 * r) (g (123 + 16 * r))) (104 + r) (mx 0 ((g (104 + r)) - 1)))
  else (upd (upd (upd (upd (upd (upd (upd (upd (upd (upd (upd (upd (upd (upd (upd g (108 + 16 * r) (g (110 + 16 * r))) (109 + 16 * r) (g (111 + 16 * r))) (110 + 16 * r) (g (112 + 16 * r))) (111 + 16 * r) (g (113 + 16 * r))) (112 + 16 * r) (g (114 + 16 * r))) (113 + 16 * r) (g (115 + 16 * r))) (114 + 16 * r) (g (116 + 16 * r))) (115 + 16 * r) (g (117 + 16 * r))) (116 + 16 * r) (g (118 + 16 * r))) (117 + 16 * r) (g (119 + 16 * r))) (118 + 16 * r) (g (120 + 16 * r))) (119 + 16 * r) (g (121 + 16 * r))) (120 + 16 * r) (g (122 + 16 * r))) (121 + 16 * r) (g (123 + 16 * r))) (104 + r) (mx 0 ((g (104 + r)) - 1)))
set_option maxHeartbeats 4000000 in
set_option maxRecDepth 100000 in
theorem c_X2_removeFirst (l : Launch) (G : GG) (ad : Nat → Nat) (g : St) {r : Nat} (hr : r < 2) : Ct l G yX2_removeFirst cX2_removeFirst 2 (none : Option Jvm.ClassFile.FieldType) rm_X2_removeFirst [.ref (ad (26 + r))] (aw G ad g) (fun rv W1 => rv = none ∧ W1 = aw G ad (m_X2_removeFirst g r)) := by
  refine Ct.mk2 (by decide) (Nat.le_of_ble_eq_true rfl) ?_
  intro p e s m args below meth c A H locs ls Q cx wo hl hQ
  obtain ⟨hx, hb, hml, hr, hlo, hown, hts, hnm, kn, hA⟩ := id cx
  have hl : lv_has ls 2 [(0, .ref (ad (26 + r)))] := hl
  generalize hM : m_X2_removeFirst g r = M at hQ
  unfold m_X2_removeFirst at hM
  refine lv_iconst (v := 1) hx hb dX2_removeFirst_0 (by decide) ?_
  refine lv_istore_n (lv' := [(1, .int 1), (0, .ref (ad (26 + r)))]) hx hb dX2_removeFirst_1 rfl hl (by decide) rfl (fun ls hl => ?_)
  refine lv_iload_n hx hb dX2_removeFirst_2 rfl (lv_at hl 0 rfl) ?_
  refine lv_aload_n hx hb dX2_removeFirst_3 rfl (lv_at hl 1 rfl) ?_
  refine gf_crane_orders (r := r) (fun X => X) Fr_id cx wo (by omega) m_108 dX2_removeFirst_4 ?_
  refine lv_icmp_ge (tgt := 62) hx hb dX2_removeFirst_7 (by decide) (fun c_1 => ?_) (fun c_1 => ?_)
  · skip
    rw [if_pos c_1] at hM
    refine lv_aload_n hx hb dX2_removeFirst_62 rfl (lv_at hl 1 rfl) ?_
    refine lv_iconst (v := 0) hx hb dX2_removeFirst_63 (by decide) ?_
    refine lv_aload_n hx hb dX2_removeFirst_64 rfl (lv_at hl 1 rfl) ?_
    refine gf_crane_orders (r := r) (fun X => X) Fr_id cx wo (by omega) m_108 dX2_removeFirst_65 ?_
    refine lv_iconst (v := 1) hx hb dX2_removeFirst_68 (by decide) ?_
    refine lv_isub hx hb dX2_removeFirst_69 ?_
    refine max_r cx m_416 dX2_removeFirst_70 hl.1 (by decide) (Nat.le_of_ble_eq_true rfl) (by decide) (by decide) ?_
    refine pf_crane_orders (r := r) (fun X => X) Fr_id cx wo (by omega) m_108 dX2_removeFirst_73 (fun H locs gz hgz wo => ?_)
    subst hgz
    exact r2_v cx hQ wo dX2_removeFirst_76 (by subst hM; exact ⟨rfl, rfl⟩)
  · skip
    rw [if_neg c_1] at hM
    refine lv_iload_n hx hb dX2_removeFirst_10 rfl (lv_at hl 0 rfl) ?_
    refine lv_aload_n hx hb dX2_removeFirst_11 rfl (lv_at hl 1 rfl) ?_
    refine gf_crane_whats (r := r) (fun X => X) Fr_id cx wo (by omega) m_104 dX2_removeFirst_12 ?_
    refine topv (y := .ref (ad (31 + r))) (congrArg (fun z => Value.ref (ad z)) (by omega)) ?_
    refine alen (v := 8) (fun X => X) Fr_id cx wo (by rw [aw_at G _ _ (j := 31 + r) (by omega), ac_wh G _ _ (by omega)]) (t0 := 0) rfl rfl dX2_removeFirst_15 ?_
    refine lv_icmp_ge (tgt := 62) hx hb dX2_removeFirst_16 (by decide) (fun h => absurd h (by decide)) (fun _ => ?_)
    refine lv_iload_n hx hb dX2_removeFirst_19 rfl (lv_at hl 0 rfl) ?_
    refine lv_aload_n hx hb dX2_removeFirst_20 rfl (lv_at hl 1 rfl) ?_
    refine gf_crane_targets (r := r) (fun X => X) Fr_id cx wo (by omega) m_105 dX2_removeFirst_21 ?_
    refine topv (y := .ref (ad (33 + r))) (congrArg (fun z => Value.ref (ad z)) (by omega)) ?_
    refine alen (v := 8) (fun X => X) Fr_id cx wo (by rw [aw_at G _ _ (j := 33 + r) (by omega), ac_tg G _ _ (by omega)]) (t0 := 0) rfl rfl dX2_removeFirst_24 ?_
    refine lv_icmp_ge (tgt := 62) hx hb dX2_removeFirst_25 (by decide) (fun h => absurd h (by decide)) (fun _ => ?_)
    refine lv_aload_n hx hb dX2_removeFirst_28 rfl (lv_at hl 1 rfl) ?_
    refine gf_crane_whats (r := r) (fun X => X) Fr_id cx wo (by omega) m_104 dX2_removeFirst_29 ?_
    refine topv (y := .ref (ad (31 + r))) (congrArg (fun z => Value.ref (ad z)) (by omega)) ?_
    refine lv_iload_n hx hb dX2_removeFirst_32 rfl (lv_at hl 0 rfl) ?_
    refine lv_iconst (v := 1) hx hb dX2_removeFirst_33 (by decide) ?_
    refine lv_isub hx hb dX2_removeFirst_34 ?_
    refine tope (y := 0) (by decide) ?_
    refine lv_aload_n hx hb dX2_removeFirst_35 rfl (lv_at hl 1 rfl) ?_
    refine gf_crane_whats (r := r) (fun X => X) Fr_id cx wo (by omega) m_104 dX2_removeFirst_36 ?_
    refine topv (y := .ref (ad (31 + r))) (congrArg (fun z => Value.ref (ad z)) (by omega)) ?_
    refine lv_iload_n hx hb dX2_removeFirst_39 rfl (lv_at hl 0 rfl) ?_
    refine ald_wh (c := r) (n := 1) (fun X => X) Fr_id cx wo (by omega) rfl (by omega) dX2_removeFirst_40 ?_
    refine tope (y := g (110 + 16 * r)) (congrArg g (by omega)) ?_
    refine ast_wh (c := r) (n := 0) (fun X => X) Fr_id cx wo (by omega) rfl (by omega) dX2_removeFirst_41 (fun H locs gz hgz wo => ?_)
    rw [show 108 + 16 * r + 2 * 0 = 108 + 16 * r from by omega] at hgz
    subst hgz
    refine lv_aload_n hx hb dX2_removeFirst_42 rfl (lv_at hl 1 rfl) ?_
    refine gf_crane_targets (r := r) (fun X => X) Fr_id cx wo (by omega) m_105 dX2_removeFirst_43 ?_
    refine topv (y := .ref (ad (33 + r))) (congrArg (fun z => Value.ref (ad z)) (by omega)) ?_
    refine lv_iload_n hx hb dX2_removeFirst_46 rfl (lv_at hl 0 rfl) ?_
    refine lv_iconst (v := 1) hx hb dX2_removeFirst_47 (by decide) ?_
    refine lv_isub hx hb dX2_removeFirst_48 ?_
    refine tope (y := 0) (by decide) ?_
    refine lv_aload_n hx hb dX2_removeFirst_49 rfl (lv_at hl 1 rfl) ?_
    refine gf_crane_targets (r := r) (fun X => X) Fr_id cx wo (by omega) m_105 dX2_removeFirst_50 ?_
    refine topv (y := .ref (ad (33 + r))) (congrArg (fun z => Value.ref (ad z)) (by omega)) ?_
    refine lv_iload_n hx hb dX2_removeFirst_53 rfl (lv_at hl 0 rfl) ?_
    refine ald_tg (c := r) (n := 1) (fun X => X) Fr_id cx wo (by omega) rfl (by omega) dX2_removeFirst_54 ?_
    refine tope (y := (upd g (108 + 16 * r) (g (110 + 16 * r))) (111 + 16 * r)) (congrArg (upd g (108 + 16 * r) (g (110 + 16 * r))) (by omega)) ?_
    refine tope (y := (g (111 + 16 * r))) (show (upd g (108 + 16 * r) (g (110 + 16 * r))) (111 + 16 * r) = (g (111 + 16 * r)) from (rdN (by omega) rfl)) ?_
    refine ast_tg (c := r) (n := 0) (fun X => X) Fr_id cx wo (by omega) rfl (by omega) dX2_removeFirst_55 (fun H locs gz hgz wo => ?_)
    rw [show 108 + 16 * r + 2 * 0 + 1 = 109 + 16 * r from by omega] at hgz
    subst hgz
    refine lv_iinc (v := 2) (lv' := [(1, .int 2), (0, .ref (ad (26 + r)))]) hx hb dX2_removeFirst_56 hl (k := 0) rfl (by decide) (by decide) rfl (fun ls hl => ?_)
    refine lv_goto (tgt := 2) hx hb dX2_removeFirst_59 (by decide) ?_
    refine lv_iload_n hx hb dX2_removeFirst_2 rfl (lv_at hl 0 rfl) ?_
    refine lv_aload_n hx hb dX2_removeFirst_3 rfl (lv_at hl 1 rfl) ?_
    refine gf_crane_orders (r := r) (fun X => X) Fr_id cx wo (by omega) m_108 dX2_removeFirst_4 ?_
    refine tope (y := (g (104 + r))) (show (upd (upd g (108 + 16 * r) (g (110 + 16 * r))) (109 + 16 * r) (g (111 + 16 * r))) (104 + r) = (g (104 + r)) from (rdN (by omega) (rdN (by omega) rfl))) ?_
    refine lv_icmp_ge (tgt := 62) hx hb dX2_removeFirst_7 (by decide) (fun c_2 => ?_) (fun c_2 => ?_)
    · skip
      rw [if_pos c_2] at hM
      refine lv_aload_n hx hb dX2_removeFirst_62 rfl (lv_at hl 1 rfl) ?_
      refine lv_iconst (v := 0) hx hb dX2_removeFirst_63 (by decide) ?_
      refine lv_aload_n hx hb dX2_removeFirst_64 rfl (lv_at hl 1 rfl) ?_
      refine gf_crane_orders (r := r) (fun X => X) Fr_id cx wo (by omega) m_108 dX2_removeFirst_65 ?_
      refine tope (y := (g (104 + r))) (show (upd (upd g (108 + 16 * r) (g (110 + 16 * r))) (109 + 16 * r) (g (111 + 16 * r))) (104 + r) = (g (104 + r)) from (rdN (by omega) (rdN (by omega) rfl))) ?_
      refine lv_iconst (v := 1) hx hb dX2_removeFirst_68 (by decide) ?_
      refine lv_isub hx hb dX2_removeFirst_69 ?_
      refine max_r cx m_416 dX2_removeFirst_70 hl.1 (by decide) (Nat.le_of_ble_eq_true rfl) (by decide) (by decide) ?_
      refine pf_crane_orders (r := r) (fun X => X) Fr_id cx wo (by omega) m_108 dX2_removeFirst_73 (fun H locs gz hgz wo => ?_)
      subst hgz
      exact r2_v cx hQ wo dX2_removeFirst_76 (by subst hM; exact ⟨rfl, rfl⟩)
    · skip
      rw [if_neg c_2] at hM
      refine lv_iload_n hx hb dX2_removeFirst_10 rfl (lv_at hl 0 rfl) ?_
      refine lv_aload_n hx hb dX2_removeFirst_11 rfl (lv_at hl 1 rfl) ?_
      refine gf_crane_whats (r := r) (fun X => X) Fr_id cx wo (by omega) m_104 dX2_removeFirst_12 ?_
      refine topv (y := .ref (ad (31 + r))) (congrArg (fun z => Value.ref (ad z)) (by omega)) ?_
      refine alen (v := 8) (fun X => X) Fr_id cx wo (by rw [aw_at G _ _ (j := 31 + r) (by omega), ac_wh G _ _ (by omega)]) (t0 := 0) rfl rfl dX2_removeFirst_15 ?_
      refine lv_icmp_ge (tgt := 62) hx hb dX2_removeFirst_16 (by decide) (fun h => absurd h (by decide)) (fun _ => ?_)
      refine lv_iload_n hx hb dX2_removeFirst_19 rfl (lv_at hl 0 rfl) ?_
      refine lv_aload_n hx hb dX2_removeFirst_20 rfl (lv_at hl 1 rfl) ?_
      refine gf_crane_targets (r := r) (fun X => X) Fr_id cx wo (by omega) m_105 dX2_removeFirst_21 ?_
      refine topv (y := .ref (ad (33 + r))) (congrArg (fun z => Value.ref (ad z)) (by omega)) ?_
      refine alen (v := 8) (fun X => X) Fr_id cx wo (by rw [aw_at G _ _ (j := 33 + r) (by omega), ac_tg G _ _ (by omega)]) (t0 := 0) rfl rfl dX2_removeFirst_24 ?_
      refine lv_icmp_ge (tgt := 62) hx hb dX2_removeFirst_25 (by decide) (fun h => absurd h (by decide)) (fun _ => ?_)
      refine lv_aload_n hx hb dX2_removeFirst_28 rfl (lv_at hl 1 rfl) ?_
      refine gf_crane_whats (r := r) (fun X => X) Fr_id cx wo (by omega) m_104 dX2_removeFirst_29 ?_
      refine topv (y := .ref (ad (31 + r))) (congrArg (fun z => Value.ref (ad z)) (by omega)) ?_
      refine lv_iload_n hx hb dX2_removeFirst_32 rfl (lv_at hl 0 rfl) ?_
      refine lv_iconst (v := 1) hx hb dX2_removeFirst_33 (by decide) ?_
      refine lv_isub hx hb dX2_removeFirst_34 ?_
      refine tope (y := 1) (by decide) ?_
      refine lv_aload_n hx hb dX2_removeFirst_35 rfl (lv_at hl 1 rfl) ?_
      refine gf_crane_whats (r := r) (fun X => X) Fr_id cx wo (by omega) m_104 dX2_removeFirst_36 ?_
      refine topv (y := .ref (ad (31 + r))) (congrArg (fun z => Value.ref (ad z)) (by omega)) ?_
      refine lv_iload_n hx hb dX2_removeFirst_39 rfl (lv_at hl 0 rfl) ?_
      refine ald_wh (c := r) (n := 2) (fun X => X) Fr_id cx wo (by omega) rfl (by omega) dX2_removeFirst_40 ?_
      refine tope (y := (upd (upd g (108 + 16 * r) (g (110 + 16 * r))) (109 + 16 * r) (g (111 + 16 * r))) (112 + 16 * r)) (congrArg (upd (upd g (108 + 16 * r) (g (110 + 16 * r))) (109 + 16 * r) (g (111 + 16 * r))) (by omega)) ?_
      refine tope (y := (g (112 + 16 * r))) (show (upd (upd g (108 + 16 * r) (g (110 + 16 * r))) (109 + 16 * r) (g (111 + 16 * r))) (112 + 16 * r) = (g (112 + 16 * r)) from (rdN (by omega) (rdN (by omega) rfl))) ?_
      refine ast_wh (c := r) (n := 1) (fun X => X) Fr_id cx wo (by omega) rfl (by omega) dX2_removeFirst_41 (fun H locs gz hgz wo => ?_)
      rw [show 108 + 16 * r + 2 * 1 = 110 + 16 * r from by omega] at hgz
      subst hgz
      refine lv_aload_n hx hb dX2_removeFirst_42 rfl (lv_at hl 1 rfl) ?_
      refine gf_crane_targets (r := r) (fun X => X) Fr_id cx wo (by omega) m_105 dX2_removeFirst_43 ?_
      refine topv (y := .ref (ad (33 + r))) (congrArg (fun z => Value.ref (ad z)) (by omega)) ?_
      refine lv_iload_n hx hb dX2_removeFirst_46 rfl (lv_at hl 0 rfl) ?_
      refine lv_iconst (v := 1) hx hb dX2_removeFirst_47 (by decide) ?_
      refine lv_isub hx hb dX2_removeFirst_48 ?_
      refine tope (y := 1) (by decide) ?_
      refine lv_aload_n hx hb dX2_removeFirst_49 rfl (lv_at hl 1 rfl) ?_
      refine gf_crane_targets (r := r) (fun X => X) Fr_id cx wo (by omega) m_105 dX2_removeFirst_50 ?_
      refine topv (y := .ref (ad (33 + r))) (congrArg (fun z => Value.ref (ad z)) (by omega)) ?_
      refine lv_iload_n hx hb dX2_removeFirst_53 rfl (lv_at hl 0 rfl) ?_
      refine ald_tg (c := r) (n := 2) (fun X => X) Fr_id cx wo (by omega) rfl (by omega) dX2_removeFirst_54 ?_
      refine tope (y := (upd (upd (upd g (108 + 16 * r) (g (110 + 16 * r))) (109 + 16 * r) (g (111 + 16 * r))) (110 + 16 * r) (g (112 + 16 * r))) (113 + 16 * r)) (congrArg (upd (upd (upd g (108 + 16 * r) (g (110 + 16 * r))) (109 + 16 * r) (g (111 + 16 * r))) (110 + 16 * r) (g (112 + 16 * r))) (by omega)) ?_
      refine tope (y := (g (113 + 16 * r))) (show (upd (upd (upd g (108 + 16 * r) (g (110 + 16 * r))) (109 + 16 * r) (g (111 + 16 * r))) (110 + 16 * r) (g (112 + 16 * r))) (113 + 16 * r) = (g (113 + 16 * r)) from (rdN (by omega) (rdN (by omega) (rdN (by omega) rfl)))) ?_
      refine ast_tg (c := r) (n := 1) (fun X => X) Fr_id cx wo (by omega) rfl (by omega) dX2_removeFirst_55 (fun H locs gz hgz wo => ?_)
      rw [show 108 + 16 * r + 2 * 1 + 1 = 111 + 16 * r from by omega] at hgz
      subst hgz
      refine lv_iinc (v := 3) (lv' := [(1, .int 3), (0, .ref (ad (26 + r)))]) hx hb dX2_removeFirst_56 hl (k := 0) rfl (by decide) (by decide) rfl (fun ls hl => ?_)
      refine lv_goto (tgt := 2) hx hb dX2_removeFirst_59 (by decide) ?_
      refine lv_iload_n hx hb dX2_removeFirst_2 rfl (lv_at hl 0 rfl) ?_
      refine lv_aload_n hx hb dX2_removeFirst_3 rfl (lv_at hl 1 rfl) ?_
      refine gf_crane_orders (r := r) (fun X => X) Fr_id cx wo (by omega) m_108 dX2_removeFirst_4 ?_
      refine tope (y := (g (104 + r))) (show (upd (upd (upd (upd g (108 + 16 * r) (g (110 + 16 * r))) (109 + 16 * r) (g (111 + 16 * r))) (110 + 16 * r) (g (112 + 16 * r))) (111 + 16 * r) (g (113 + 16 * r))) (104 + r) = (g (104 + r)) from (rdN (by omega) (rdN (by omega) (rdN (by omega) (rdN (by omega) rfl))))) ?_
      refine lv_icmp_ge (tgt := 62) hx hb dX2_removeFirst_7 (by decide) (fun c_3 => ?_) (fun c_3 => ?_)
      · skip
        rw [if_pos c_3] at hM
        refine lv_aload_n hx hb dX2_removeFirst_62 rfl (lv_at hl 1 rfl) ?_
        refine lv_iconst (v := 0) hx hb dX2_removeFirst_63 (by decide) ?_
        refine lv_aload_n hx hb dX2_removeFirst_64 rfl (lv_at hl 1 rfl) ?_
        refine gf_crane_orders (r := r) (fun X => X) Fr_id cx wo (by omega) m_108 dX2_removeFirst_65 ?_
        refine tope (y := (g (104 + r))) (show (upd (upd (upd (upd g (108 + 16 * r) (g (110 + 16 * r))) (109 + 16 * r) (g (111 + 16 * r))) (110 + 16 * r) (g (112 + 16 * r))) (111 + 16 * r) (g (113 + 16 * r))) (104 + r) = (g (104 + r)) from (rdN (by omega) (rdN (by omega) (rdN (by omega) (rdN (by omega) rfl))))) ?_
        refine lv_iconst (v := 1) hx hb dX2_removeFirst_68 (by decide) ?_
        refine lv_isub hx hb dX2_removeFirst_69 ?_
        refine max_r cx m_416 dX2_removeFirst_70 hl.1 (by decide) (Nat.le_of_ble_eq_true rfl) (by decide) (by decide) ?_
        refine pf_crane_orders (r := r) (fun X => X) Fr_id cx wo (by omega) m_108 dX2_removeFirst_73 (fun H locs gz hgz wo => ?_)
        subst hgz
        exact r2_v cx hQ wo dX2_removeFirst_76 (by subst hM; exact ⟨rfl, rfl⟩)
      · skip
        rw [if_neg c_3] at hM
        refine lv_iload_n hx hb dX2_removeFirst_10 rfl (lv_at hl 0 rfl) ?_
        refine lv_aload_n hx hb dX2_removeFirst_11 rfl (lv_at hl 1 rfl) ?_
        refine gf_crane_whats (r := r) (fun X => X) Fr_id cx wo (by omega) m_104 dX2_removeFirst_12 ?_
        refine topv (y := .ref (ad (31 + r))) (congrArg (fun z => Value.ref (ad z)) (by omega)) ?_
        refine alen (v := 8) (fun X => X) Fr_id cx wo (by rw [aw_at G _ _ (j := 31 + r) (by omega), ac_wh G _ _ (by omega)]) (t0 := 0) rfl rfl dX2_removeFirst_15 ?_
        refine lv_icmp_ge (tgt := 62) hx hb dX2_removeFirst_16 (by decide) (fun h => absurd h (by decide)) (fun _ => ?_)
        refine lv_iload_n hx hb dX2_removeFirst_19 rfl (lv_at hl 0 rfl) ?_
        refine lv_aload_n hx hb dX2_removeFirst_20 rfl (lv_at hl 1 rfl) ?_
        refine gf_crane_targets (r := r) (fun X => X) Fr_id cx wo (by omega) m_105 dX2_removeFirst_21 ?_
        refine topv (y := .ref (ad (33 + r))) (congrArg (fun z => Value.ref (ad z)) (by omega)) ?_
        refine alen (v := 8) (fun X => X) Fr_id cx wo (by rw [aw_at G _ _ (j := 33 + r) (by omega), ac_tg G _ _ (by omega)]) (t0 := 0) rfl rfl dX2_removeFirst_24 ?_
        refine lv_icmp_ge (tgt := 62) hx hb dX2_removeFirst_25 (by decide) (fun h => absurd h (by decide)) (fun _ => ?_)
        refine lv_aload_n hx hb dX2_removeFirst_28 rfl (lv_at hl 1 rfl) ?_
        refine gf_crane_whats (r := r) (fun X => X) Fr_id cx wo (by omega) m_104 dX2_removeFirst_29 ?_
        refine topv (y := .ref (ad (31 + r))) (congrArg (fun z => Value.ref (ad z)) (by omega)) ?_
        refine lv_iload_n hx hb dX2_removeFirst_32 rfl (lv_at hl 0 rfl) ?_
        refine lv_iconst (v := 1) hx hb dX2_removeFirst_33 (by decide) ?_
        refine lv_isub hx hb dX2_removeFirst_34 ?_
        refine tope (y := 2) (by decide) ?_
        refine lv_aload_n hx hb dX2_removeFirst_35 rfl (lv_at hl 1 rfl) ?_
        refine gf_crane_whats (r := r) (fun X => X) Fr_id cx wo (by omega) m_104 dX2_removeFirst_36 ?_
        refine topv (y := .ref (ad (31 + r))) (congrArg (fun z => Value.ref (ad z)) (by omega)) ?_
        refine lv_iload_n hx hb dX2_removeFirst_39 rfl (lv_at hl 0 rfl) ?_
        refine ald_wh (c := r) (n := 3) (fun X => X) Fr_id cx wo (by omega) rfl (by omega) dX2_removeFirst_40 ?_
        refine tope (y := (upd (upd (upd (upd g (108 + 16 * r) (g (110 + 16 * r))) (109 + 16 * r) (g (111 + 16 * r))) (110 + 16 * r) (g (112 + 16 * r))) (111 + 16 * r) (g (113 + 16 * r))) (114 + 16 * r)) (congrArg (upd (upd (upd (upd g (108 + 16 * r) (g (110 + 16 * r))) (109 + 16 * r) (g (111 + 16 * r))) (110 + 16 * r) (g (112 + 16 * r))) (111 + 16 * r) (g (113 + 16 * r))) (by omega)) ?_
        refine tope (y := (g (114 + 16 * r))) (show (upd (upd (upd (upd g (108 + 16 * r) (g (110 + 16 * r))) (109 + 16 * r) (g (111 + 16 * r))) (110 + 16 * r) (g (112 + 16 * r))) (111 + 16 * r) (g (113 + 16 * r))) (114 + 16 * r) = (g (114 + 16 * r)) from (rdN (by omega) (rdN (by omega) (rdN (by omega) (rdN (by omega) rfl))))) ?_
        refine ast_wh (c := r) (n := 2) (fun X => X) Fr_id cx wo (by omega) rfl (by omega) dX2_removeFirst_41 (fun H locs gz hgz wo => ?_)
        rw [show 108 + 16 * r + 2 * 2 = 112 + 16 * r from by omega] at hgz
        subst hgz
        refine lv_aload_n hx hb dX2_removeFirst_42 rfl (lv_at hl 1 rfl) ?_
        refine gf_crane_targets (r := r) (fun X => X) Fr_id cx wo (by omega) m_105 dX2_removeFirst_43 ?_
        refine topv (y := .ref (ad (33 + r))) (congrArg (fun z => Value.ref (ad z)) (by omega)) ?_
        refine lv_iload_n hx hb dX2_removeFirst_46 rfl (lv_at hl 0 rfl) ?_
        refine lv_iconst (v := 1) hx hb dX2_removeFirst_47 (by decide) ?_
        refine lv_isub hx hb dX2_removeFirst_48 ?_
        refine tope (y := 2) (by decide) ?_
        refine lv_aload_n hx hb dX2_removeFirst_49 rfl (lv_at hl 1 rfl) ?_
        refine gf_crane_targets (r := r) (fun X => X) Fr_id cx wo (by omega) m_105 dX2_removeFirst_50 ?_
        refine topv (y := .ref (ad (33 + r))) (congrArg (fun z => Value.ref (ad z)) (by omega)) ?_
        refine lv_iload_n hx hb dX2_removeFirst_53 rfl (lv_at hl 0 rfl) ?_
        refine ald_tg (c := r) (n := 3) (fun X => X) Fr_id cx wo (by omega) rfl (by omega) dX2_removeFirst_54 ?_
        refine tope (y := (upd (upd (upd (upd (upd g (108 + 16 * r) (g (110 + 16 * r))) (109 + 16 * r) (g (111 + 16 * r))) (110 + 16 * r) (g (112 + 16 * r))) (111 + 16 * r) (g (113 + 16 * r))) (112 + 16 * r) (g (114 + 16 * r))) (115 + 16 * r)) (congrArg (upd (upd (upd (upd (upd g (108 + 16 * r) (g (110 + 16 * r))) (109 + 16 * r) (g (111 + 16 * r))) (110 + 16 * r) (g (112 + 16 * r))) (111 + 16 * r) (g (113 + 16 * r))) (112 + 16 * r) (g (114 + 16 * r))) (by omega)) ?_
        refine tope (y := (g (115 + 16 * r))) (show (upd (upd (upd (upd (upd g (108 + 16 * r) (g (110 + 16 * r))) (109 + 16 * r) (g (111 + 16 * r))) (110 + 16 * r) (g (112 + 16 * r))) (111 + 16 * r) (g (113 + 16 * r))) (112 + 16 * r) (g (114 + 16 * r))) (115 + 16 * r) = (g (115 + 16 * r)) from (rdN (by omega) (rdN (by omega) (rdN (by omega) (rdN (by omega) (rdN (by omega) rfl)))))) ?_
        refine ast_tg (c := r) (n := 2) (fun X => X) Fr_id cx wo (by omega) rfl (by omega) dX2_removeFirst_55 (fun H locs gz hgz wo => ?_)
        rw [show 108 + 16 * r + 2 * 2 + 1 = 113 + 16 * r from by omega] at hgz
        subst hgz
        refine lv_iinc (v := 4) (lv' := [(1, .int 4), (0, .ref (ad (26 + r)))]) hx hb dX2_removeFirst_56 hl (k := 0) rfl (by decide) (by decide) rfl (fun ls hl => ?_)
        refine lv_goto (tgt := 2) hx hb dX2_removeFirst_59 (by decide) ?_
        refine lv_iload_n hx hb dX2_removeFirst_2 rfl (lv_at hl 0 rfl) ?_
        refine lv_aload_n hx hb dX2_removeFirst_3 rfl (lv_at hl 1 rfl) ?_
        refine gf_crane_orders (r := r) (fun X => X) Fr_id cx wo (by omega) m_108 dX2_removeFirst_4 ?_
        refine tope (y := (g (104 + r))) (show (upd (upd (upd (upd (upd (upd g (108 + 16 * r) (g (110 + 16 * r))) (109 + 16 * r) (g (111 + 16 * r))) (110 + 16 * r) (g (112 + 16 * r))) (111 + 16 * r) (g (113 + 16 * r))) (112 + 16 * r) (g (114 + 16 * r))) (113 + 16 * r) (g (115 + 16 * r))) (104 + r) = (g (104 + r)) from (rdN (by omega) (rdN (by omega) (rdN (by omega) (rdN (by omega) (rdN (by omega) (rdN (by omega) rfl))))))) ?_
        refine lv_icmp_ge (tgt := 62) hx hb dX2_removeFirst_7 (by decide) (fun c_4 => ?_) (fun c_4 => ?_)
        · skip
          rw [if_pos c_4] at hM
          refine lv_aload_n hx hb dX2_removeFirst_62 rfl (lv_at hl 1 rfl) ?_
          refine lv_iconst (v := 0) hx hb dX2_removeFirst_63 (by decide) ?_
          refine lv_aload_n hx hb dX2_removeFirst_64 rfl (lv_at hl 1 rfl) ?_
          refine gf_crane_orders (r := r) (fun X => X) Fr_id cx wo (by omega) m_108 dX2_removeFirst_65 ?_
          refine tope (y := (g (104 + r))) (show (upd (upd (upd (upd (upd (upd g (108 + 16 * r) (g (110 + 16 * r))) (109 + 16 * r) (g (111 + 16 * r))) (110 + 16 * r) (g (112 + 16 * r))) (111 + 16 * r) (g (113 + 16 * r))) (112 + 16 * r) (g (114 + 16 * r))) (113 + 16 * r) (g (115 + 16 * r))) (104 + r) = (g (104 + r)) from (rdN (by omega) (rdN (by omega) (rdN (by omega) (rdN (by omega) (rdN (by omega) (rdN (by omega) rfl))))))) ?_
          refine lv_iconst (v := 1) hx hb dX2_removeFirst_68 (by decide) ?_
          refine lv_isub hx hb dX2_removeFirst_69 ?_
          refine max_r cx m_416 dX2_removeFirst_70 hl.1 (by decide) (Nat.le_of_ble_eq_true rfl) (by decide) (by decide) ?_
          refine pf_crane_orders (r := r) (fun X => X) Fr_id cx wo (by omega) m_108 dX2_removeFirst_73 (fun H locs gz hgz wo => ?_)
          subst hgz
          exact r2_v cx hQ wo dX2_removeFirst_76 (by subst hM; exact ⟨rfl, rfl⟩)
        · skip
          rw [if_neg c_4] at hM
          refine lv_iload_n hx hb dX2_removeFirst_10 rfl (lv_at hl 0 rfl) ?_
          refine lv_aload_n hx hb dX2_removeFirst_11 rfl (lv_at hl 1 rfl) ?_
          refine gf_crane_whats (r := r) (fun X => X) Fr_id cx wo (by omega) m_104 dX2_removeFirst_12 ?_
          refine topv (y := .ref (ad (31 + r))) (congrArg (fun z => Value.ref (ad z)) (by omega)) ?_
          refine alen (v := 8) (fun X => X) Fr_id cx wo (by rw [aw_at G _ _ (j := 31 + r) (by omega), ac_wh G _ _ (by omega)]) (t0 := 0) rfl rfl dX2_removeFirst_15 ?_
          refine lv_icmp_ge (tgt := 62) hx hb dX2_removeFirst_16 (by decide) (fun h => absurd h (by decide)) (fun _ => ?_)
          refine lv_iload_n hx hb dX2_removeFirst_19 rfl (lv_at hl 0 rfl) ?_
          refine lv_aload_n hx hb dX2_removeFirst_20 rfl (lv_at hl 1 rfl) ?_
          refine gf_crane_targets (r := r) (fun X => X) Fr_id cx wo (by omega) m_105 dX2_removeFirst_21 ?_
          refine topv (y := .ref (ad (33 + r))) (congrArg (fun z => Value.ref (ad z)) (by omega)) ?_
          refine alen (v := 8) (fun X => X) Fr_id cx wo (by rw [aw_at G _ _ (j := 33 + r) (by omega), ac_tg G _ _ (by omega)]) (t0 := 0) rfl rfl dX2_removeFirst_24 ?_
          refine lv_icmp_ge (tgt := 62) hx hb dX2_removeFirst_25 (by decide) (fun h => absurd h (by decide)) (fun _ => ?_)
          refine lv_aload_n hx hb dX2_removeFirst_28 rfl (lv_at hl 1 rfl) ?_
          refine gf_crane_whats (r := r) (fun X => X) Fr_id cx wo (by omega) m_104 dX2_removeFirst_29 ?_
          refine topv (y := .ref (ad (31 + r))) (congrArg (fun z => Value.ref (ad z)) (by omega)) ?_
          refine lv_iload_n hx hb dX2_removeFirst_32 rfl (lv_at hl 0 rfl) ?_
          refine lv_iconst (v := 1) hx hb dX2_removeFirst_33 (by decide) ?_
          refine lv_isub hx hb dX2_removeFirst_34 ?_
          refine tope (y := 3) (by decide) ?_
          refine lv_aload_n hx hb dX2_removeFirst_35 rfl (lv_at hl 1 rfl) ?_
          refine gf_crane_whats (r := r) (fun X => X) Fr_id cx wo (by omega) m_104 dX2_removeFirst_36 ?_
          refine topv (y := .ref (ad (31 + r))) (congrArg (fun z => Value.ref (ad z)) (by omega)) ?_
          refine lv_iload_n hx hb dX2_removeFirst_39 rfl (lv_at hl 0 rfl) ?_
          refine ald_wh (c := r) (n := 4) (fun X => X) Fr_id cx wo (by omega) rfl (by omega) dX2_removeFirst_40 ?_
          refine tope (y := (upd (upd (upd (upd (upd (upd g (108 + 16 * r) (g (110 + 16 * r))) (109 + 16 * r) (g (111 + 16 * r))) (110 + 16 * r) (g (112 + 16 * r))) (111 + 16 * r) (g (113 + 16 * r))) (112 + 16 * r) (g (114 + 16 * r))) (113 + 16 * r) (g (115 + 16 * r))) (116 + 16 * r)) (congrArg (upd (upd (upd (upd (upd (upd g (108 + 16 * r) (g (110 + 16 * r))) (109 + 16 * r) (g (111 + 16 * r))) (110 + 16 * r) (g (112 + 16 * r))) (111 + 16 * r) (g (113 + 16 * r))) (112 + 16 * r) (g (114 + 16 * r))) (113 + 16 * r) (g (115 + 16 * r))) (by omega)) ?_
          refine tope (y := (g (116 + 16 * r))) (show (upd (upd (upd (upd (upd (upd g (108 + 16 * r) (g (110 + 16 * r))) (109 + 16 * r) (g (111 + 16 * r))) (110 + 16 * r) (g (112 + 16 * r))) (111 + 16 * r) (g (113 + 16 * r))) (112 + 16 * r) (g (114 + 16 * r))) (113 + 16 * r) (g (115 + 16 * r))) (116 + 16 * r) = (g (116 + 16 * r)) from (rdN (by omega) (rdN (by omega) (rdN (by omega) (rdN (by omega) (rdN (by omega) (rdN (by omega) rfl))))))) ?_
          refine ast_wh (c := r) (n := 3) (fun X => X) Fr_id cx wo (by omega) rfl (by omega) dX2_removeFirst_41 (fun H locs gz hgz wo => ?_)
          rw [show 108 + 16 * r + 2 * 3 = 114 + 16 * r from by omega] at hgz
          subst hgz
          refine lv_aload_n hx hb dX2_removeFirst_42 rfl (lv_at hl 1 rfl) ?_
          refine gf_crane_targets (r := r) (fun X => X) Fr_id cx wo (by omega) m_105 dX2_removeFirst_43 ?_
          refine topv (y := .ref (ad (33 + r))) (congrArg (fun z => Value.ref (ad z)) (by omega)) ?_
          refine lv_iload_n hx hb dX2_removeFirst_46 rfl (lv_at hl 0 rfl) ?_
          refine lv_iconst (v := 1) hx hb dX2_removeFirst_47 (by decide) ?_
          refine lv_isub hx hb dX2_removeFirst_48 ?_
          refine tope (y := 3) (by decide) ?_
          refine lv_aload_n hx hb dX2_removeFirst_49 rfl (lv_at hl 1 rfl) ?_
          refine gf_crane_targets (r := r) (fun X => X) Fr_id cx wo (by omega) m_105 dX2_removeFirst_50 ?_
          refine topv (y := .ref (ad (33 + r))) (congrArg (fun z => Value.ref (ad z)) (by omega)) ?_
          refine lv_iload_n hx hb dX2_removeFirst_53 rfl (lv_at hl 0 rfl) ?_
          refine ald_tg (c := r) (n := 4) (fun X => X) Fr_id cx wo (by omega) rfl (by omega) dX2_removeFirst_54 ?_
          refine tope (y := (upd (upd (upd (upd (upd (upd (upd g (108 + 16 * r) (g (110 + 16 * r))) (109 + 16 * r) (g (111 + 16 * r))) (110 + 16 * r) (g (112 + 16 * r))) (111 + 16 * r) (g (113 + 16 * r))) (112 + 16 * r) (g (114 + 16 * r))) (113 + 16 * r) (g (115 + 16 * r))) (114 + 16 * r) (g (116 + 16 * r))) (117 + 16 * r)) (congrArg (upd (upd (upd (upd (upd (upd (upd g (108 + 16 * r) (g (110 + 16 * r))) (109 + 16 * r) (g (111 + 16 * r))) (110 + 16 * r) (g (112 + 16 * r))) (111 + 16 * r) (g (113 + 16 * r))) (112 + 16 * r) (g (114 + 16 * r))) (113 + 16 * r) (g (115 + 16 * r))) (114 + 16 * r) (g (116 + 16 * r))) (by omega)) ?_
          refine tope (y := (g (117 + 16 * r))) (show (upd (upd (upd (upd (upd (upd (upd g (108 + 16 * r) (g (110 + 16 * r))) (109 + 16 * r) (g (111 + 16 * r))) (110 + 16 * r) (g (112 + 16 * r))) (111 + 16 * r) (g (113 + 16 * r))) (112 + 16 * r) (g (114 + 16 * r))) (113 + 16 * r) (g (115 + 16 * r))) (114 + 16 * r) (g (116 + 16 * r))) (117 + 16 * r) = (g (117 + 16 * r)) from (rdN (by omega) (rdN (by omega) (rdN (by omega) (rdN (by omega) (rdN (by omega) (rdN (by omega) (rdN (by omega) rfl)))))))) ?_
          refine ast_tg (c := r) (n := 3) (fun X => X) Fr_id cx wo (by omega) rfl (by omega) dX2_removeFirst_55 (fun H locs gz hgz wo => ?_)
          rw [show 108 + 16 * r + 2 * 3 + 1 = 115 + 16 * r from by omega] at hgz
          subst hgz
          refine lv_iinc (v := 5) (lv' := [(1, .int 5), (0, .ref (ad (26 + r)))]) hx hb dX2_removeFirst_56 hl (k := 0) rfl (by decide) (by decide) rfl (fun ls hl => ?_)
          refine lv_goto (tgt := 2) hx hb dX2_removeFirst_59 (by decide) ?_
          refine lv_iload_n hx hb dX2_removeFirst_2 rfl (lv_at hl 0 rfl) ?_
          refine lv_aload_n hx hb dX2_removeFirst_3 rfl (lv_at hl 1 rfl) ?_
          refine gf_crane_orders (r := r) (fun X => X) Fr_id cx wo (by omega) m_108 dX2_removeFirst_4 ?_
          refine tope (y := (g (104 + r))) (show (upd (upd (upd (upd (upd (upd (upd (upd g (108 + 16 * r) (g (110 + 16 * r))) (109 + 16 * r) (g (111 + 16 * r))) (110 + 16 * r) (g (112 + 16 * r))) (111 + 16 * r) (g (113 + 16 * r))) (112 + 16 * r) (g (114 + 16 * r))) (113 + 16 * r) (g (115 + 16 * r))) (114 + 16 * r) (g (116 + 16 * r))) (115 + 16 * r) (g (117 + 16 * r))) (104 + r) = (g (104 + r)) from (rdN (by omega) (rdN (by omega) (rdN (by omega) (rdN (by omega) (rdN (by omega) (rdN (by omega) (rdN (by omega) (rdN (by omega) rfl))))))))) ?_
          refine lv_icmp_ge (tgt := 62) hx hb dX2_removeFirst_7 (by decide) (fun c_5 => ?_) (fun c_5 => ?_)
          · skip
            rw [if_pos c_5] at hM
            refine lv_aload_n hx hb dX2_removeFirst_62 rfl (lv_at hl 1 rfl) ?_
            refine lv_iconst (v := 0) hx hb dX2_removeFirst_63 (by decide) ?_
            refine lv_aload_n hx hb dX2_removeFirst_64 rfl (lv_at hl 1 rfl) ?_
            refine gf_crane_orders (r := r) (fun X => X) Fr_id cx wo (by omega) m_108 dX2_removeFirst_65 ?_
            refine tope (y := (g (104 + r))) (show (upd (upd (upd (upd (upd (upd (upd (upd g (108 + 16 * r) (g (110 + 16 * r))) (109 + 16 * r) (g (111 + 16 * r))) (110 + 16 * r) (g (112 + 16 * r))) (111 + 16 * r) (g (113 + 16 * r))) (112 + 16 * r) (g (114 + 16 * r))) (113 + 16 * r) (g (115 + 16 * r))) (114 + 16 * r) (g (116 + 16 * r))) (115 + 16 * r) (g (117 + 16 * r))) (104 + r) = (g (104 + r)) from (rdN (by omega) (rdN (by omega) (rdN (by omega) (rdN (by omega) (rdN (by omega) (rdN (by omega) (rdN (by omega) (rdN (by omega) rfl))))))))) ?_
            refine lv_iconst (v := 1) hx hb dX2_removeFirst_68 (by decide) ?_
            refine lv_isub hx hb dX2_removeFirst_69 ?_
            refine max_r cx m_416 dX2_removeFirst_70 hl.1 (by decide) (Nat.le_of_ble_eq_true rfl) (by decide) (by decide) ?_
            refine pf_crane_orders (r := r) (fun X => X) Fr_id cx wo (by omega) m_108 dX2_removeFirst_73 (fun H locs gz hgz wo => ?_)
            subst hgz
            exact r2_v cx hQ wo dX2_removeFirst_76 (by subst hM; exact ⟨rfl, rfl⟩)
          · skip
            rw [if_neg c_5] at hM
            refine lv_iload_n hx hb dX2_removeFirst_10 rfl (lv_at hl 0 rfl) ?_
            refine lv_aload_n hx hb dX2_removeFirst_11 rfl (lv_at hl 1 rfl) ?_
            refine gf_crane_whats (r := r) (fun X => X) Fr_id cx wo (by omega) m_104 dX2_removeFirst_12 ?_
            refine topv (y := .ref (ad (31 + r))) (congrArg (fun z => Value.ref (ad z)) (by omega)) ?_
            refine alen (v := 8) (fun X => X) Fr_id cx wo (by rw [aw_at G _ _ (j := 31 + r) (by omega), ac_wh G _ _ (by omega)]) (t0 := 0) rfl rfl dX2_removeFirst_15 ?_
            refine lv_icmp_ge (tgt := 62) hx hb dX2_removeFirst_16 (by decide) (fun h => absurd h (by decide)) (fun _ => ?_)
            refine lv_iload_n hx hb dX2_removeFirst_19 rfl (lv_at hl 0 rfl) ?_
            refine lv_aload_n hx hb dX2_removeFirst_20 rfl (lv_at hl 1 rfl) ?_
            refine gf_crane_targets (r := r) (fun X => X) Fr_id cx wo (by omega) m_105 dX2_removeFirst_21 ?_
            refine topv (y := .ref (ad (33 + r))) (congrArg (fun z => Value.ref (ad z)) (by omega)) ?_
            refine alen (v := 8) (fun X => X) Fr_id cx wo (by rw [aw_at G _ _ (j := 33 + r) (by omega), ac_tg G _ _ (by omega)]) (t0 := 0) rfl rfl dX2_removeFirst_24 ?_
            refine lv_icmp_ge (tgt := 62) hx hb dX2_removeFirst_25 (by decide) (fun h => absurd h (by decide)) (fun _ => ?_)
            refine lv_aload_n hx hb dX2_removeFirst_28 rfl (lv_at hl 1 rfl) ?_
            refine gf_crane_whats (r := r) (fun X => X) Fr_id cx wo (by omega) m_104 dX2_removeFirst_29 ?_
            refine topv (y := .ref (ad (31 + r))) (congrArg (fun z => Value.ref (ad z)) (by omega)) ?_
            refine lv_iload_n hx hb dX2_removeFirst_32 rfl (lv_at hl 0 rfl) ?_
            refine lv_iconst (v := 1) hx hb dX2_removeFirst_33 (by decide) ?_
            refine lv_isub hx hb dX2_removeFirst_34 ?_
            refine tope (y := 4) (by decide) ?_
            refine lv_aload_n hx hb dX2_removeFirst_35 rfl (lv_at hl 1 rfl) ?_
            refine gf_crane_whats (r := r) (fun X => X) Fr_id cx wo (by omega) m_104 dX2_removeFirst_36 ?_
            refine topv (y := .ref (ad (31 + r))) (congrArg (fun z => Value.ref (ad z)) (by omega)) ?_
            refine lv_iload_n hx hb dX2_removeFirst_39 rfl (lv_at hl 0 rfl) ?_
            refine ald_wh (c := r) (n := 5) (fun X => X) Fr_id cx wo (by omega) rfl (by omega) dX2_removeFirst_40 ?_
            refine tope (y := (upd (upd (upd (upd (upd (upd (upd (upd g (108 + 16 * r) (g (110 + 16 * r))) (109 + 16 * r) (g (111 + 16 * r))) (110 + 16 * r) (g (112 + 16 * r))) (111 + 16 * r) (g (113 + 16 * r))) (112 + 16 * r) (g (114 + 16 * r))) (113 + 16 * r) (g (115 + 16 * r))) (114 + 16 * r) (g (116 + 16 * r))) (115 + 16 * r) (g (117 + 16 * r))) (118 + 16 * r)) (congrArg (upd (upd (upd (upd (upd (upd (upd (upd g (108 + 16 * r) (g (110 + 16 * r))) (109 + 16 * r) (g (111 + 16 * r))) (110 + 16 * r) (g (112 + 16 * r))) (111 + 16 * r) (g (113 + 16 * r))) (112 + 16 * r) (g (114 + 16 * r))) (113 + 16 * r) (g (115 + 16 * r))) (114 + 16 * r) (g (116 + 16 * r))) (115 + 16 * r) (g (117 + 16 * r))) (by omega)) ?_
            refine tope (y := (g (118 + 16 * r))) (show (upd (upd (upd (upd (upd (upd (upd (upd g (108 + 16 * r) (g (110 + 16 * r))) (109 + 16 * r) (g (111 + 16 * r))) (110 + 16 * r) (g (112 + 16 * r))) (111 + 16 * r) (g (113 + 16 * r))) (112 + 16 * r) (g (114 + 16 * r))) (113 + 16 * r) (g (115 + 16 * r))) (114 + 16 * r) (g (116 + 16 * r))) (115 + 16 * r) (g (117 + 16 * r))) (118 + 16 * r) = (g (118 + 16 * r)) from (rdN (by omega) (rdN (by omega) (rdN (by omega) (rdN (by omega) (rdN (by omega) (rdN (by omega) (rdN (by omega) (rdN (by omega) rfl))))))))) ?_
            refine ast_wh (c := r) (n := 4) (fun X => X) Fr_id cx wo (by omega) rfl (by omega) dX2_removeFirst_41 (fun H locs gz hgz wo => ?_)
            rw [show 108 + 16 * r + 2 * 4 = 116 + 16 * r from by omega] at hgz
            subst hgz
            refine lv_aload_n hx hb dX2_removeFirst_42 rfl (lv_at hl 1 rfl) ?_
            refine gf_crane_targets (r := r) (fun X => X) Fr_id cx wo (by omega) m_105 dX2_removeFirst_43 ?_
            refine topv (y := .ref (ad (33 + r))) (congrArg (fun z => Value.ref (ad z)) (by omega)) ?_
            refine lv_iload_n hx hb dX2_removeFirst_46 rfl (lv_at hl 0 rfl) ?_
            refine lv_iconst (v := 1) hx hb dX2_removeFirst_47 (by decide) ?_
            refine lv_isub hx hb dX2_removeFirst_48 ?_
            refine tope (y := 4) (by decide) ?_
            refine lv_aload_n hx hb dX2_removeFirst_49 rfl (lv_at hl 1 rfl) ?_
            refine gf_crane_targets (r := r) (fun X => X) Fr_id cx wo (by omega) m_105 dX2_removeFirst_50 ?_
            refine topv (y := .ref (ad (33 + r))) (congrArg (fun z => Value.ref (ad z)) (by omega)) ?_
            refine lv_iload_n hx hb dX2_removeFirst_53 rfl (lv_at hl 0 rfl) ?_
            refine ald_tg (c := r) (n := 5) (fun X => X) Fr_id cx wo (by omega) rfl (by omega) dX2_removeFirst_54 ?_
            refine tope (y := (upd (upd (upd (upd (upd (upd (upd (upd (upd g (108 + 16 * r) (g (110 + 16 * r))) (109 + 16 * r) (g (111 + 16 * r))) (110 + 16 * r) (g (112 + 16 * r))) (111 + 16 * r) (g (113 + 16 * r))) (112 + 16 * r) (g (114 + 16 * r))) (113 + 16 * r) (g (115 + 16 * r))) (114 + 16 * r) (g (116 + 16 * r))) (115 + 16 * r) (g (117 + 16 * r))) (116 + 16 * r) (g (118 + 16 * r))) (119 + 16 * r)) (congrArg (upd (upd (upd (upd (upd (upd (upd (upd (upd g (108 + 16 * r) (g (110 + 16 * r))) (109 + 16 * r) (g (111 + 16 * r))) (110 + 16 * r) (g (112 + 16 * r))) (111 + 16 * r) (g (113 + 16 * r))) (112 + 16 * r) (g (114 + 16 * r))) (113 + 16 * r) (g (115 + 16 * r))) (114 + 16 * r) (g (116 + 16 * r))) (115 + 16 * r) (g (117 + 16 * r))) (116 + 16 * r) (g (118 + 16 * r))) (by omega)) ?_
            refine tope (y := (g (119 + 16 * r))) (show (upd (upd (upd (upd (upd (upd (upd (upd (upd g (108 + 16 * r) (g (110 + 16 * r))) (109 + 16 * r) (g (111 + 16 * r))) (110 + 16 * r) (g (112 + 16 * r))) (111 + 16 * r) (g (113 + 16 * r))) (112 + 16 * r) (g (114 + 16 * r))) (113 + 16 * r) (g (115 + 16 * r))) (114 + 16 * r) (g (116 + 16 * r))) (115 + 16 * r) (g (117 + 16 * r))) (116 + 16 * r) (g (118 + 16 * r))) (119 + 16 * r) = (g (119 + 16 * r)) from (rdN (by omega) (rdN (by omega) (rdN (by omega) (rdN (by omega) (rdN (by omega) (rdN (by omega) (rdN (by omega) (rdN (by omega) (rdN (by omega) rfl)))))))))) ?_
            refine ast_tg (c := r) (n := 4) (fun X => X) Fr_id cx wo (by omega) rfl (by omega) dX2_removeFirst_55 (fun H locs gz hgz wo => ?_)
            rw [show 108 + 16 * r + 2 * 4 + 1 = 117 + 16 * r from by omega] at hgz
            subst hgz
            refine lv_iinc (v := 6) (lv' := [(1, .int 6), (0, .ref (ad (26 + r)))]) hx hb dX2_removeFirst_56 hl (k := 0) rfl (by decide) (by decide) rfl (fun ls hl => ?_)
            refine lv_goto (tgt := 2) hx hb dX2_removeFirst_59 (by decide) ?_
            refine lv_iload_n hx hb dX2_removeFirst_2 rfl (lv_at hl 0 rfl) ?_
            refine lv_aload_n hx hb dX2_removeFirst_3 rfl (lv_at hl 1 rfl) ?_
            refine gf_crane_orders (r := r) (fun X => X) Fr_id cx wo (by omega) m_108 dX2_removeFirst_4 ?_
            refine tope (y := (g (104 + r))) (show (upd (upd (upd (upd (upd (upd (upd (upd (upd (upd g (108 + 16 * r) (g (110 + 16 * r))) (109 + 16 * r) (g (111 + 16 * r))) (110 + 16 * r) (g (112 + 16 * r))) (111 + 16 * r) (g (113 + 16 * r))) (112 + 16 * r) (g (114 + 16 * r))) (113 + 16 * r) (g (115 + 16 * r))) (114 + 16 * r) (g (116 + 16 * r))) (115 + 16 * r) (g (117 + 16 * r))) (116 + 16 * r) (g (118 + 16 * r))) (117 + 16 * r) (g (119 + 16 * r))) (104 + r) = (g (104 + r)) from (rdN (by omega) (rdN (by omega) (rdN (by omega) (rdN (by omega) (rdN (by omega) (rdN (by omega) (rdN (by omega) (rdN (by omega) (rdN (by omega) (rdN (by omega) rfl))))))))))) ?_
            refine lv_icmp_ge (tgt := 62) hx hb dX2_removeFirst_7 (by decide) (fun c_6 => ?_) (fun c_6 => ?_)
            · skip
              rw [if_pos c_6] at hM
              refine lv_aload_n hx hb dX2_removeFirst_62 rfl (lv_at hl 1 rfl) ?_
              refine lv_iconst (v := 0) hx hb dX2_removeFirst_63 (by decide) ?_
              refine lv_aload_n hx hb dX2_removeFirst_64 rfl (lv_at hl 1 rfl) ?_
              refine gf_crane_orders (r := r) (fun X => X) Fr_id cx wo (by omega) m_108 dX2_removeFirst_65 ?_
              refine tope (y := (g (104 + r))) (show (upd (upd (upd (upd (upd (upd (upd (upd (upd (upd g (108 + 16 * r) (g (110 + 16 * r))) (109 + 16 * r) (g (111 + 16 * r))) (110 + 16 * r) (g (112 + 16 * r))) (111 + 16 * r) (g (113 + 16 * r))) (112 + 16 * r) (g (114 + 16 * r))) (113 + 16 * r) (g (115 + 16 * r))) (114 + 16 * r) (g (116 + 16 * r))) (115 + 16 * r) (g (117 + 16 * r))) (116 + 16 * r) (g (118 + 16 * r))) (117 + 16 * r) (g (119 + 16 * r))) (104 + r) = (g (104 + r)) from (rdN (by omega) (rdN (by omega) (rdN (by omega) (rdN (by omega) (rdN (by omega) (rdN (by omega) (rdN (by omega) (rdN (by omega) (rdN (by omega) (rdN (by omega) rfl))))))))))) ?_
              refine lv_iconst (v := 1) hx hb dX2_removeFirst_68 (by decide) ?_
              refine lv_isub hx hb dX2_removeFirst_69 ?_
              refine max_r cx m_416 dX2_removeFirst_70 hl.1 (by decide) (Nat.le_of_ble_eq_true rfl) (by decide) (by decide) ?_
              refine pf_crane_orders (r := r) (fun X => X) Fr_id cx wo (by omega) m_108 dX2_removeFirst_73 (fun H locs gz hgz wo => ?_)
              subst hgz
              exact r2_v cx hQ wo dX2_removeFirst_76 (by subst hM; exact ⟨rfl, rfl⟩)
            · skip
              rw [if_neg c_6] at hM
              refine lv_iload_n hx hb dX2_removeFirst_10 rfl (lv_at hl 0 rfl) ?_
              refine lv_aload_n hx hb dX2_removeFirst_11 rfl (lv_at hl 1 rfl) ?_
              refine gf_crane_whats (r := r) (fun X => X) Fr_id cx wo (by omega) m_104 dX2_removeFirst_12 ?_
              refine topv (y := .ref (ad (31 + r))) (congrArg (fun z => Value.ref (ad z)) (by omega)) ?_
              refine alen (v := 8) (fun X => X) Fr_id cx wo (by rw [aw_at G _ _ (j := 31 + r) (by omega), ac_wh G _ _ (by omega)]) (t0 := 0) rfl rfl dX2_removeFirst_15 ?_
              refine lv_icmp_ge (tgt := 62) hx hb dX2_removeFirst_16 (by decide) (fun h => absurd h (by decide)) (fun _ => ?_)
              refine lv_iload_n hx hb dX2_removeFirst_19 rfl (lv_at hl 0 rfl) ?_
              refine lv_aload_n hx hb dX2_removeFirst_20 rfl (lv_at hl 1 rfl) ?_
              refine gf_crane_targets (r := r) (fun X => X) Fr_id cx wo (by omega) m_105 dX2_removeFirst_21 ?_
              refine topv (y := .ref (ad (33 + r))) (congrArg (fun z => Value.ref (ad z)) (by omega)) ?_
              refine alen (v := 8) (fun X => X) Fr_id cx wo (by rw [aw_at G _ _ (j := 33 + r) (by omega), ac_tg G _ _ (by omega)]) (t0 := 0) rfl rfl dX2_removeFirst_24 ?_
              refine lv_icmp_ge (tgt := 62) hx hb dX2_removeFirst_25 (by decide) (fun h => absurd h (by decide)) (fun _ => ?_)
              refine lv_aload_n hx hb dX2_removeFirst_28 rfl (lv_at hl 1 rfl) ?_
              refine gf_crane_whats (r := r) (fun X => X) Fr_id cx wo (by omega) m_104 dX2_removeFirst_29 ?_
              refine topv (y := .ref (ad (31 + r))) (congrArg (fun z => Value.ref (ad z)) (by omega)) ?_
              refine lv_iload_n hx hb dX2_removeFirst_32 rfl (lv_at hl 0 rfl) ?_
              refine lv_iconst (v := 1) hx hb dX2_removeFirst_33 (by decide) ?_
              refine lv_isub hx hb dX2_removeFirst_34 ?_
              refine tope (y := 5) (by decide) ?_
              refine lv_aload_n hx hb dX2_removeFirst_35 rfl (lv_at hl 1 rfl) ?_
              refine gf_crane_whats (r := r) (fun X => X) Fr_id cx wo (by omega) m_104 dX2_removeFirst_36 ?_
              refine topv (y := .ref (ad (31 + r))) (congrArg (fun z => Value.ref (ad z)) (by omega)) ?_
              refine lv_iload_n hx hb dX2_removeFirst_39 rfl (lv_at hl 0 rfl) ?_
              refine ald_wh (c := r) (n := 6) (fun X => X) Fr_id cx wo (by omega) rfl (by omega) dX2_removeFirst_40 ?_
              refine tope (y := (upd (upd (upd (upd (upd (upd (upd (upd (upd (upd g (108 + 16 * r) (g (110 + 16 * r))) (109 + 16 * r) (g (111 + 16 * r))) (110 + 16 * r) (g (112 + 16 * r))) (111 + 16 * r) (g (113 + 16 * r))) (112 + 16 * r) (g (114 + 16 * r))) (113 + 16 * r) (g (115 + 16 * r))) (114 + 16 * r) (g (116 + 16 * r))) (115 + 16 * r) (g (117 + 16 * r))) (116 + 16 * r) (g (118 + 16 * r))) (117 + 16 * r) (g (119 + 16 * r))) (120 + 16 * r)) (congrArg (upd (upd (upd (upd (upd (upd (upd (upd (upd (upd g (108 + 16 * r) (g (110 + 16 * r))) (109 + 16 * r) (g (111 + 16 * r))) (110 + 16 * r) (g (112 + 16 * r))) (111 + 16 * r) (g (113 + 16 * r))) (112 + 16 * r) (g (114 + 16 * r))) (113 + 16 * r) (g (115 + 16 * r))) (114 + 16 * r) (g (116 + 16 * r))) (115 + 16 * r) (g (117 + 16 * r))) (116 + 16 * r) (g (118 + 16 * r))) (117 + 16 * r) (g (119 + 16 * r))) (by omega)) ?_
              refine tope (y := (g (120 + 16 * r))) (show (upd (upd (upd (upd (upd (upd (upd (upd (upd (upd g (108 + 16 * r) (g (110 + 16 * r))) (109 + 16 * r) (g (111 + 16 * r))) (110 + 16 * r) (g (112 + 16 * r))) (111 + 16 * r) (g (113 + 16 * r))) (112 + 16 * r) (g (114 + 16 * r))) (113 + 16 * r) (g (115 + 16 * r))) (114 + 16 * r) (g (116 + 16 * r))) (115 + 16 * r) (g (117 + 16 * r))) (116 + 16 * r) (g (118 + 16 * r))) (117 + 16 * r) (g (119 + 16 * r))) (120 + 16 * r) = (g (120 + 16 * r)) from (rdN (by omega) (rdN (by omega) (rdN (by omega) (rdN (by omega) (rdN (by omega) (rdN (by omega) (rdN (by omega) (rdN (by omega) (rdN (by omega) (rdN (by omega) rfl))))))))))) ?_
              refine ast_wh (c := r) (n := 5) (fun X => X) Fr_id cx wo (by omega) rfl (by omega) dX2_removeFirst_41 (fun H locs gz hgz wo => ?_)
              rw [show 108 + 16 * r + 2 * 5 = 118 + 16 * r from by omega] at hgz
              subst hgz
              refine lv_aload_n hx hb dX2_removeFirst_42 rfl (lv_at hl 1 rfl) ?_
              refine gf_crane_targets (r := r) (fun X => X) Fr_id cx wo (by omega) m_105 dX2_removeFirst_43 ?_
              refine topv (y := .ref (ad (33 + r))) (congrArg (fun z => Value.ref (ad z)) (by omega)) ?_
              refine lv_iload_n hx hb dX2_removeFirst_46 rfl (lv_at hl 0 rfl) ?_
              refine lv_iconst (v := 1) hx hb dX2_removeFirst_47 (by decide) ?_
              refine lv_isub hx hb dX2_removeFirst_48 ?_
              refine tope (y := 5) (by decide) ?_
              refine lv_aload_n hx hb dX2_removeFirst_49 rfl (lv_at hl 1 rfl) ?_
              refine gf_crane_targets (r := r) (fun X => X) Fr_id cx wo (by omega) m_105 dX2_removeFirst_50 ?_
              refine topv (y := .ref (ad (33 + r))) (congrArg (fun z => Value.ref (ad z)) (by omega)) ?_
              refine lv_iload_n hx hb dX2_removeFirst_53 rfl (lv_at hl 0 rfl) ?_
              refine ald_tg (c := r) (n := 6) (fun X => X) Fr_id cx wo (by omega) rfl (by omega) dX2_removeFirst_54 ?_
              refine tope (y := (upd (upd (upd (upd (upd (upd (upd (upd (upd (upd (upd g (108 + 16 * r) (g (110 + 16 * r))) (109 + 16 * r) (g (111 + 16 * r))) (110 + 16 * r) (g (112 + 16 * r))) (111 + 16 * r) (g (113 + 16 * r))) (112 + 16 * r) (g (114 + 16 * r))) (113 + 16 * r) (g (115 + 16 * r))) (114 + 16 * r) (g (116 + 16 * r))) (115 + 16 * r) (g (117 + 16 * r))) (116 + 16 * r) (g (118 + 16 * r))) (117 + 16 * r) (g (119 + 16 * r))) (118 + 16 * r) (g (120 + 16 * r))) (121 + 16 * r)) (congrArg (upd (upd (upd (upd (upd (upd (upd (upd (upd (upd (upd g (108 + 16 * r) (g (110 + 16 * r))) (109 + 16 * r) (g (111 + 16 * r))) (110 + 16 * r) (g (112 + 16 * r))) (111 + 16 * r) (g (113 + 16 * r))) (112 + 16 * r) (g (114 + 16 * r))) (113 + 16 * r) (g (115 + 16 * r))) (114 + 16 * r) (g (116 + 16 * r))) (115 + 16 * r) (g (117 + 16 * r))) (116 + 16 * r) (g (118 + 16 * r))) (117 + 16 * r) (g (119 + 16 * r))) (118 + 16 * r) (g (120 + 16 * r))) (by omega)) ?_
              refine tope (y := (g (121 + 16 * r))) (show (upd (upd (upd (upd (upd (upd (upd (upd (upd (upd (upd g (108 + 16 * r) (g (110 + 16 * r))) (109 + 16 * r) (g (111 + 16 * r))) (110 + 16 * r) (g (112 + 16 * r))) (111 + 16 * r) (g (113 + 16 * r))) (112 + 16 * r) (g (114 + 16 * r))) (113 + 16 * r) (g (115 + 16 * r))) (114 + 16 * r) (g (116 + 16 * r))) (115 + 16 * r) (g (117 + 16 * r))) (116 + 16 * r) (g (118 + 16 * r))) (117 + 16 * r) (g (119 + 16 * r))) (118 + 16 * r) (g (120 + 16 * r))) (121 + 16 * r) = (g (121 + 16 * r)) from (rdN (by omega) (rdN (by omega) (rdN (by omega) (rdN (by omega) (rdN (by omega) (rdN (by omega) (rdN (by omega) (rdN (by omega) (rdN (by omega) (rdN (by omega) (rdN (by omega) rfl)))))))))))) ?_
              refine ast_tg (c := r) (n := 5) (fun X => X) Fr_id cx wo (by omega) rfl (by omega) dX2_removeFirst_55 (fun H locs gz hgz wo => ?_)
              rw [show 108 + 16 * r + 2 * 5 + 1 = 119 + 16 * r from by omega] at hgz
              subst hgz
              refine lv_iinc (v := 7) (lv' := [(1, .int 7), (0, .ref (ad (26 + r)))]) hx hb dX2_removeFirst_56 hl (k := 0) rfl (by decide) (by decide) rfl (fun ls hl => ?_)
              refine lv_goto (tgt := 2) hx hb dX2_removeFirst_59 (by decide) ?_
              refine lv_iload_n hx hb dX2_removeFirst_2 rfl (lv_at hl 0 rfl) ?_
              refine lv_aload_n hx hb dX2_removeFirst_3 rfl (lv_at hl 1 rfl) ?_
              refine gf_crane_orders (r := r) (fun X => X) Fr_id cx wo (by omega) m_108 dX2_removeFirst_4 ?_
              refine tope (y := (g (104 + r))) (show (upd (upd (upd (upd (upd (upd (upd (upd (upd (upd (upd (upd g (108 + 16 * r) (g (110 + 16 * r))) (109 + 16 * r) (g (111 + 16 * r))) (110 + 16 * r) (g (112 + 16 * r))) (111 + 16 * r) (g (113 + 16 * r))) (112 + 16 * r) (g (114 + 16 * r))) (113 + 16 * r) (g (115 + 16 * r))) (114 + 16 * r) (g (116 + 16 * r))) (115 + 16 * r) (g (117 + 16 * r))) (116 + 16 * r) (g (118 + 16 * r))) (117 + 16 * r) (g (119 + 16 * r))) (118 + 16 * r) (g (120 + 16 * r))) (119 + 16 * r) (g (121 + 16 * r))) (104 + r) = (g (104 + r)) from (rdN (by omega) (rdN (by omega) (rdN (by omega) (rdN (by omega) (rdN (by omega) (rdN (by omega) (rdN (by omega) (rdN (by omega) (rdN (by omega) (rdN (by omega) (rdN (by omega) (rdN (by omega) rfl))))))))))))) ?_
              refine lv_icmp_ge (tgt := 62) hx hb dX2_removeFirst_7 (by decide) (fun c_7 => ?_) (fun c_7 => ?_)
              · skip
                rw [if_pos c_7] at hM
                refine lv_aload_n hx hb dX2_removeFirst_62 rfl (lv_at hl 1 rfl) ?_
                refine lv_iconst (v := 0) hx hb dX2_removeFirst_63 (by decide) ?_
                refine lv_aload_n hx hb dX2_removeFirst_64 rfl (lv_at hl 1 rfl) ?_
                refine gf_crane_orders (r := r) (fun X => X) Fr_id cx wo (by omega) m_108 dX2_removeFirst_65 ?_
                refine tope (y := (g (104 + r))) (show (upd (upd (upd (upd (upd (upd (upd (upd (upd (upd (upd (upd g (108 + 16 * r) (g (110 + 16 * r))) (109 + 16 * r) (g (111 + 16 * r))) (110 + 16 * r) (g (112 + 16 * r))) (111 + 16 * r) (g (113 + 16 * r))) (112 + 16 * r) (g (114 + 16 * r))) (113 + 16 * r) (g (115 + 16 * r))) (114 + 16 * r) (g (116 + 16 * r))) (115 + 16 * r) (g (117 + 16 * r))) (116 + 16 * r) (g (118 + 16 * r))) (117 + 16 * r) (g (119 + 16 * r))) (118 + 16 * r) (g (120 + 16 * r))) (119 + 16 * r) (g (121 + 16 * r))) (104 + r) = (g (104 + r)) from (rdN (by omega) (rdN (by omega) (rdN (by omega) (rdN (by omega) (rdN (by omega) (rdN (by omega) (rdN (by omega) (rdN (by omega) (rdN (by omega) (rdN (by omega) (rdN (by omega) (rdN (by omega) rfl))))))))))))) ?_
                refine lv_iconst (v := 1) hx hb dX2_removeFirst_68 (by decide) ?_
                refine lv_isub hx hb dX2_removeFirst_69 ?_
                refine max_r cx m_416 dX2_removeFirst_70 hl.1 (by decide) (Nat.le_of_ble_eq_true rfl) (by decide) (by decide) ?_
                refine pf_crane_orders (r := r) (fun X => X) Fr_id cx wo (by omega) m_108 dX2_removeFirst_73 (fun H locs gz hgz wo => ?_)
                subst hgz
                exact r2_v cx hQ wo dX2_removeFirst_76 (by subst hM; exact ⟨rfl, rfl⟩)
              · skip
                rw [if_neg c_7] at hM
                refine lv_iload_n hx hb dX2_removeFirst_10 rfl (lv_at hl 0 rfl) ?_
                refine lv_aload_n hx hb dX2_removeFirst_11 rfl (lv_at hl 1 rfl) ?_
                refine gf_crane_whats (r := r) (fun X => X) Fr_id cx wo (by omega) m_104 dX2_removeFirst_12 ?_
                refine topv (y := .ref (ad (31 + r))) (congrArg (fun z => Value.ref (ad z)) (by omega)) ?_
                refine alen (v := 8) (fun X => X) Fr_id cx wo (by rw [aw_at G _ _ (j := 31 + r) (by omega), ac_wh G _ _ (by omega)]) (t0 := 0) rfl rfl dX2_removeFirst_15 ?_
                refine lv_icmp_ge (tgt := 62) hx hb dX2_removeFirst_16 (by decide) (fun h => absurd h (by decide)) (fun _ => ?_)
                refine lv_iload_n hx hb dX2_removeFirst_19 rfl (lv_at hl 0 rfl) ?_
                refine lv_aload_n hx hb dX2_removeFirst_20 rfl (lv_at hl 1 rfl) ?_
                refine gf_crane_targets (r := r) (fun X => X) Fr_id cx wo (by omega) m_105 dX2_removeFirst_21 ?_
                refine topv (y := .ref (ad (33 + r))) (congrArg (fun z => Value.ref (ad z)) (by omega)) ?_
                refine alen (v := 8) (fun X => X) Fr_id cx wo (by rw [aw_at G _ _ (j := 33 + r) (by omega), ac_tg G _ _ (by omega)]) (t0 := 0) rfl rfl dX2_removeFirst_24 ?_
                refine lv_icmp_ge (tgt := 62) hx hb dX2_removeFirst_25 (by decide) (fun h => absurd h (by decide)) (fun _ => ?_)
                refine lv_aload_n hx hb dX2_removeFirst_28 rfl (lv_at hl 1 rfl) ?_
                refine gf_crane_whats (r := r) (fun X => X) Fr_id cx wo (by omega) m_104 dX2_removeFirst_29 ?_
                refine topv (y := .ref (ad (31 + r))) (congrArg (fun z => Value.ref (ad z)) (by omega)) ?_
                refine lv_iload_n hx hb dX2_removeFirst_32 rfl (lv_at hl 0 rfl) ?_
                refine lv_iconst (v := 1) hx hb dX2_removeFirst_33 (by decide) ?_
                refine lv_isub hx hb dX2_removeFirst_34 ?_
                refine tope (y := 6) (by decide) ?_
                refine lv_aload_n hx hb dX2_removeFirst_35 rfl (lv_at hl 1 rfl) ?_
                refine gf_crane_whats (r := r) (fun X => X) Fr_id cx wo (by omega) m_104 dX2_removeFirst_36 ?_
                refine topv (y := .ref (ad (31 + r))) (congrArg (fun z => Value.ref (ad z)) (by omega)) ?_
                refine lv_iload_n hx hb dX2_removeFirst_39 rfl (lv_at hl 0 rfl) ?_
                refine ald_wh (c := r) (n := 7) (fun X => X) Fr_id cx wo (by omega) rfl (by omega) dX2_removeFirst_40 ?_
                refine tope (y := (upd (upd (upd (upd (upd (upd (upd (upd (upd (upd (upd (upd g (108 + 16 * r) (g (110 + 16 * r))) (109 + 16 * r) (g (111 + 16 * r))) (110 + 16 * r) (g (112 + 16 * r))) (111 + 16 * r) (g (113 + 16 * r))) (112 + 16 * r) (g (114 + 16 * r))) (113 + 16 * r) (g (115 + 16 * r))) (114 + 16 * r) (g (116 + 16 * r))) (115 + 16 * r) (g (117 + 16 * r))) (116 + 16 * r) (g (118 + 16 * r))) (117 + 16 * r) (g (119 + 16 * r))) (118 + 16 * r) (g (120 + 16 * r))) (119 + 16 * r) (g (121 + 16 * r))) (122 + 16 * r)) (congrArg (upd (upd (upd (upd (upd (upd (upd (upd (upd (upd (upd (upd g (108 + 16 * r) (g (110 + 16 * r))) (109 + 16 * r) (g (111 + 16 * r))) (110 + 16 * r) (g (112 + 16 * r))) (111 + 16 * r) (g (113 + 16 * r))) (112 + 16 * r) (g (114 + 16 * r))) (113 + 16 * r) (g (115 + 16 * r))) (114 + 16 * r) (g (116 + 16 * r))) (115 + 16 * r) (g (117 + 16 * r))) (116 + 16 * r) (g (118 + 16 * r))) (117 + 16 * r) (g (119 + 16 * r))) (118 + 16 * r) (g (120 + 16 * r))) (119 + 16 * r) (g (121 + 16 * r))) (by omega)) ?_
                refine tope (y := (g (122 + 16 * r))) (show (upd (upd (upd (upd (upd (upd (upd (upd (upd (upd (upd (upd g (108 + 16 * r) (g (110 + 16 * r))) (109 + 16 * r) (g (111 + 16 * r))) (110 + 16 * r) (g (112 + 16 * r))) (111 + 16 * r) (g (113 + 16 * r))) (112 + 16 * r) (g (114 + 16 * r))) (113 + 16 * r) (g (115 + 16 * r))) (114 + 16 * r) (g (116 + 16 * r))) (115 + 16 * r) (g (117 + 16 * r))) (116 + 16 * r) (g (118 + 16 * r))) (117 + 16 * r) (g (119 + 16 * r))) (118 + 16 * r) (g (120 + 16 * r))) (119 + 16 * r) (g (121 + 16 * r))) (122 + 16 * r) = (g (122 + 16 * r)) from (rdN (by omega) (rdN (by omega) (rdN (by omega) (rdN (by omega) (rdN (by omega) (rdN (by omega) (rdN (by omega) (rdN (by omega) (rdN (by omega) (rdN (by omega) (rdN (by omega) (rdN (by omega) rfl))))))))))))) ?_
                refine ast_wh (c := r) (n := 6) (fun X => X) Fr_id cx wo (by omega) rfl (by omega) dX2_removeFirst_41 (fun H locs gz hgz wo => ?_)
                rw [show 108 + 16 * r + 2 * 6 = 120 + 16 * r from by omega] at hgz
                subst hgz
                refine lv_aload_n hx hb dX2_removeFirst_42 rfl (lv_at hl 1 rfl) ?_
                refine gf_crane_targets (r := r) (fun X => X) Fr_id cx wo (by omega) m_105 dX2_removeFirst_43 ?_
                refine topv (y := .ref (ad (33 + r))) (congrArg (fun z => Value.ref (ad z)) (by omega)) ?_
                refine lv_iload_n hx hb dX2_removeFirst_46 rfl (lv_at hl 0 rfl) ?_
                refine lv_iconst (v := 1) hx hb dX2_removeFirst_47 (by decide) ?_
                refine lv_isub hx hb dX2_removeFirst_48 ?_
                refine tope (y := 6) (by decide) ?_
                refine lv_aload_n hx hb dX2_removeFirst_49 rfl (lv_at hl 1 rfl) ?_
                refine gf_crane_targets (r := r) (fun X => X) Fr_id cx wo (by omega) m_105 dX2_removeFirst_50 ?_
                refine topv (y := .ref (ad (33 + r))) (congrArg (fun z => Value.ref (ad z)) (by omega)) ?_
                refine lv_iload_n hx hb dX2_removeFirst_53 rfl (lv_at hl 0 rfl) ?_
                refine ald_tg (c := r) (n := 7) (fun X => X) Fr_id cx wo (by omega) rfl (by omega) dX2_removeFirst_54 ?_
                refine tope (y := (upd (upd (upd (upd (upd (upd (upd (upd (upd (upd (upd (upd (upd g (108 + 16 * r) (g (110 + 16 * r))) (109 + 16 * r) (g (111 + 16 * r))) (110 + 16 * r) (g (112 + 16 * r))) (111 + 16 * r) (g (113 + 16 * r))) (112 + 16 * r) (g (114 + 16 * r))) (113 + 16 * r) (g (115 + 16 * r))) (114 + 16 * r) (g (116 + 16 * r))) (115 + 16 * r) (g (117 + 16 * r))) (116 + 16 * r) (g (118 + 16 * r))) (117 + 16 * r) (g (119 + 16 * r))) (118 + 16 * r) (g (120 + 16 * r))) (119 + 16 * r) (g (121 + 16 * r))) (120 + 16 * r) (g (122 + 16 * r))) (123 + 16 * r)) (congrArg (upd (upd (upd (upd (upd (upd (upd (upd (upd (upd (upd (upd (upd g (108 + 16 * r) (g (110 + 16 * r))) (109 + 16 * r) (g (111 + 16 * r))) (110 + 16 * r) (g (112 + 16 * r))) (111 + 16 * r) (g (113 + 16 * r))) (112 + 16 * r) (g (114 + 16 * r))) (113 + 16 * r) (g (115 + 16 * r))) (114 + 16 * r) (g (116 + 16 * r))) (115 + 16 * r) (g (117 + 16 * r))) (116 + 16 * r) (g (118 + 16 * r))) (117 + 16 * r) (g (119 + 16 * r))) (118 + 16 * r) (g (120 + 16 * r))) (119 + 16 * r) (g (121 + 16 * r))) (120 + 16 * r) (g (122 + 16 * r))) (by omega)) ?_
                refine tope (y := (g (123 + 16 * r))) (show (upd (upd (upd (upd (upd (upd (upd (upd (upd (upd (upd (upd (upd g (108 + 16 * r) (g (110 + 16 * r))) (109 + 16 * r) (g (111 + 16 * r))) (110 + 16 * r) (g (112 + 16 * r))) (111 + 16 * r) (g (113 + 16 * r))) (112 + 16 * r) (g (114 + 16 * r))) (113 + 16 * r) (g (115 + 16 * r))) (114 + 16 * r) (g (116 + 16 * r))) (115 + 16 * r) (g (117 + 16 * r))) (116 + 16 * r) (g (118 + 16 * r))) (117 + 16 * r) (g (119 + 16 * r))) (118 + 16 * r) (g (120 + 16 * r))) (119 + 16 * r) (g (121 + 16 * r))) (120 + 16 * r) (g (122 + 16 * r))) (123 + 16 * r) = (g (123 + 16 * r)) from (rdN (by omega) (rdN (by omega) (rdN (by omega) (rdN (by omega) (rdN (by omega) (rdN (by omega) (rdN (by omega) (rdN (by omega) (rdN (by omega) (rdN (by omega) (rdN (by omega) (rdN (by omega) (rdN (by omega) rfl)))))))))))))) ?_
                refine ast_tg (c := r) (n := 6) (fun X => X) Fr_id cx wo (by omega) rfl (by omega) dX2_removeFirst_55 (fun H locs gz hgz wo => ?_)
                rw [show 108 + 16 * r + 2 * 6 + 1 = 121 + 16 * r from by omega] at hgz
                subst hgz
                refine lv_iinc (v := 8) (lv' := [(1, .int 8), (0, .ref (ad (26 + r)))]) hx hb dX2_removeFirst_56 hl (k := 0) rfl (by decide) (by decide) rfl (fun ls hl => ?_)
                refine lv_goto (tgt := 2) hx hb dX2_removeFirst_59 (by decide) ?_
                refine lv_iload_n hx hb dX2_removeFirst_2 rfl (lv_at hl 0 rfl) ?_
                refine lv_aload_n hx hb dX2_removeFirst_3 rfl (lv_at hl 1 rfl) ?_
                refine gf_crane_orders (r := r) (fun X => X) Fr_id cx wo (by omega) m_108 dX2_removeFirst_4 ?_
                refine tope (y := (g (104 + r))) (show (upd (upd (upd (upd (upd (upd (upd (upd (upd (upd (upd (upd (upd (upd g (108 + 16 * r) (g (110 + 16 * r))) (109 + 16 * r) (g (111 + 16 * r))) (110 + 16 * r) (g (112 + 16 * r))) (111 + 16 * r) (g (113 + 16 * r))) (112 + 16 * r) (g (114 + 16 * r))) (113 + 16 * r) (g (115 + 16 * r))) (114 + 16 * r) (g (116 + 16 * r))) (115 + 16 * r) (g (117 + 16 * r))) (116 + 16 * r) (g (118 + 16 * r))) (117 + 16 * r) (g (119 + 16 * r))) (118 + 16 * r) (g (120 + 16 * r))) (119 + 16 * r) (g (121 + 16 * r))) (120 + 16 * r) (g (122 + 16 * r))) (121 + 16 * r) (g (123 + 16 * r))) (104 + r) = (g (104 + r)) from (rdN (by omega) (rdN (by omega) (rdN (by omega) (rdN (by omega) (rdN (by omega) (rdN (by omega) (rdN (by omega) (rdN (by omega) (rdN (by omega) (rdN (by omega) (rdN (by omega) (rdN (by omega) (rdN (by omega) (rdN (by omega) rfl))))))))))))))) ?_
                refine lv_icmp_ge (tgt := 62) hx hb dX2_removeFirst_7 (by decide) (fun c_8 => ?_) (fun c_8 => ?_)
                · skip
                  rw [if_pos c_8] at hM
                  refine lv_aload_n hx hb dX2_removeFirst_62 rfl (lv_at hl 1 rfl) ?_
                  refine lv_iconst (v := 0) hx hb dX2_removeFirst_63 (by decide) ?_
                  refine lv_aload_n hx hb dX2_removeFirst_64 rfl (lv_at hl 1 rfl) ?_
                  refine gf_crane_orders (r := r) (fun X => X) Fr_id cx wo (by omega) m_108 dX2_removeFirst_65 ?_
                  refine tope (y := (g (104 + r))) (show (upd (upd (upd (upd (upd (upd (upd (upd (upd (upd (upd (upd (upd (upd g (108 + 16 * r) (g (110 + 16 * r))) (109 + 16 * r) (g (111 + 16 * r))) (110 + 16 * r) (g (112 + 16 * r))) (111 + 16 * r) (g (113 + 16 * r))) (112 + 16 * r) (g (114 + 16 * r))) (113 + 16 * r) (g (115 + 16 * r))) (114 + 16 * r) (g (116 + 16 * r))) (115 + 16 * r) (g (117 + 16 * r))) (116 + 16 * r) (g (118 + 16 * r))) (117 + 16 * r) (g (119 + 16 * r))) (118 + 16 * r) (g (120 + 16 * r))) (119 + 16 * r) (g (121 + 16 * r))) (120 + 16 * r) (g (122 + 16 * r))) (121 + 16 * r) (g (123 + 16 * r))) (104 + r) = (g (104 + r)) from (rdN (by omega) (rdN (by omega) (rdN (by omega) (rdN (by omega) (rdN (by omega) (rdN (by omega) (rdN (by omega) (rdN (by omega) (rdN (by omega) (rdN (by omega) (rdN (by omega) (rdN (by omega) (rdN (by omega) (rdN (by omega) rfl))))))))))))))) ?_
                  refine lv_iconst (v := 1) hx hb dX2_removeFirst_68 (by decide) ?_
                  refine lv_isub hx hb dX2_removeFirst_69 ?_
                  refine max_r cx m_416 dX2_removeFirst_70 hl.1 (by decide) (Nat.le_of_ble_eq_true rfl) (by decide) (by decide) ?_
                  refine pf_crane_orders (r := r) (fun X => X) Fr_id cx wo (by omega) m_108 dX2_removeFirst_73 (fun H locs gz hgz wo => ?_)
                  subst hgz
                  exact r2_v cx hQ wo dX2_removeFirst_76 (by subst hM; exact ⟨rfl, rfl⟩)
                · skip
                  rw [if_neg c_8] at hM
                  refine lv_iload_n hx hb dX2_removeFirst_10 rfl (lv_at hl 0 rfl) ?_
                  refine lv_aload_n hx hb dX2_removeFirst_11 rfl (lv_at hl 1 rfl) ?_
                  refine gf_crane_whats (r := r) (fun X => X) Fr_id cx wo (by omega) m_104 dX2_removeFirst_12 ?_
                  refine topv (y := .ref (ad (31 + r))) (congrArg (fun z => Value.ref (ad z)) (by omega)) ?_
                  refine alen (v := 8) (fun X => X) Fr_id cx wo (by rw [aw_at G _ _ (j := 31 + r) (by omega), ac_wh G _ _ (by omega)]) (t0 := 0) rfl rfl dX2_removeFirst_15 ?_
                  refine lv_icmp_ge (tgt := 62) hx hb dX2_removeFirst_16 (by decide) (fun _ => ?_) (fun h => absurd (show ¬ _ from h) (by decide))
                  refine lv_aload_n hx hb dX2_removeFirst_62 rfl (lv_at hl 1 rfl) ?_
                  refine lv_iconst (v := 0) hx hb dX2_removeFirst_63 (by decide) ?_
                  refine lv_aload_n hx hb dX2_removeFirst_64 rfl (lv_at hl 1 rfl) ?_
                  refine gf_crane_orders (r := r) (fun X => X) Fr_id cx wo (by omega) m_108 dX2_removeFirst_65 ?_
                  refine tope (y := (g (104 + r))) (show (upd (upd (upd (upd (upd (upd (upd (upd (upd (upd (upd (upd (upd (upd g (108 + 16 * r) (g (110 + 16 * r))) (109 + 16 * r) (g (111 + 16 * r))) (110 + 16 * r) (g (112 + 16 * r))) (111 + 16 * r) (g (113 + 16 * r))) (112 + 16 * r) (g (114 + 16 * r))) (113 + 16 * r) (g (115 + 16 * r))) (114 + 16 * r) (g (116 + 16 * r))) (115 + 16 * r) (g (117 + 16 * r))) (116 + 16 * r) (g (118 + 16 * r))) (117 + 16 * r) (g (119 + 16 * r))) (118 + 16 * r) (g (120 + 16 * r))) (119 + 16 * r) (g (121 + 16 * r))) (120 + 16 * r) (g (122 + 16 * r))) (121 + 16 * r) (g (123 + 16 * r))) (104 + r) = (g (104 + r)) from (rdN (by omega) (rdN (by omega) (rdN (by omega) (rdN (by omega) (rdN (by omega) (rdN (by omega) (rdN (by omega) (rdN (by omega) (rdN (by omega) (rdN (by omega) (rdN (by omega) (rdN (by omega) (rdN (by omega) (rdN (by omega) rfl))))))))))))))) ?_
                  refine lv_iconst (v := 1) hx hb dX2_removeFirst_68 (by decide) ?_
                  refine lv_isub hx hb dX2_removeFirst_69 ?_
                  refine max_r cx m_416 dX2_removeFirst_70 hl.1 (by decide) (Nat.le_of_ble_eq_true rfl) (by decide) (by decide) ?_
                  refine pf_crane_orders (r := r) (fun X => X) Fr_id cx wo (by omega) m_108 dX2_removeFirst_73 (fun H locs gz hgz wo => ?_)
                  subst hgz
                  exact r2_v cx hQ wo dX2_removeFirst_76 (by subst hM; exact ⟨rfl, rfl⟩)
abbrev rm_X5_mixHeat : Room := { frames := 1, cells := 0, slots := 0, locals := 20 }
def m_X5_mixHeat (g : St) (v : Nat) (a : Int32) (b : Int32) : St :=
  if b ≤ 0 then g
  else if ((m_X4_all g (1 + v)) + b) ≤ 0 then g
  else (upd g (76 + v) ((((g (76 + v)) * (m_X4_all g (1 + v))) + (a * b)) / ((m_X4_all g (1 + v)) + b)))
set_option maxHeartbeats 4000000 in
set_option maxRecDepth 100000 in
theorem c_X5_mixHeat (l : Launch) (G : GG) (ad : Nat → Nat) (g : St) {v : Nat} (hv : v < 3) (a : Int32) (b : Int32) : Ct l G yX5_mixHeat cX5_mixHeat 5 (none : Option Jvm.ClassFile.FieldType) rm_X5_mixHeat [.ref (ad (19 + v)), .int a, .int b] (aw G ad g) (fun rv W1 => rv = none ∧ W1 = aw G ad (m_X5_mixHeat g v a b)) := by
  refine Ct.mk2 (by decide) (Nat.le_of_ble_eq_true rfl) ?_
  intro p e s m args below meth c A H locs ls Q cx wo hl hQ
  obtain ⟨hx, hb, hml, hr, hlo, hown, hts, hnm, kn, hA⟩ := id cx
  have hl : lv_has ls 5 [(0, .ref (ad (19 + v))), (1, .int a), (2, .int b)] := hl
  generalize hM : m_X5_mixHeat g v a b = M at hQ
  unfold m_X5_mixHeat at hM
  refine lv_aload_n hx hb dX5_mixHeat_0 rfl (lv_at hl 0 rfl) ?_
  refine gf_vessel_stuff (v := v) (fun X => X) Fr_id cx wo (by omega) m_196 dX5_mixHeat_1 ?_
  refine topv (y := .ref (ad (1 + v))) (congrArg (fun z => Value.ref (ad z)) (by omega)) ?_
  refine call_V (As := []) (rest := []) (fun X => X) Fr_id cx (c_X4_all l G ad _ (t := 1 + v) (by omega) (by omega)) fx_X4_all m_327 m_316 m_317 ⟨by decide, by decide⟩ wo (at_stuff G _ _ (t := 1 + v) (by omega) (by omega)) rfl rfl rfl hl.1 rfl (Nat.le_of_ble_eq_true rfl) dX5_mixHeat_4 ⟨by decide, by decide⟩ (fun v W1 H locs hp wo => ?_)
  obtain ⟨rfl, rfl⟩ := hp
  refine nrm_i ?_
  refine lv_istore_n (lv' := [(3, .int (m_X4_all g (1 + v))), (0, .ref (ad (19 + v))), (1, .int a), (2, .int b)]) hx hb dX5_mixHeat_7 rfl hl (by decide) rfl (fun ls hl => ?_)
  refine lv_iload_n hx hb dX5_mixHeat_8 rfl (lv_at hl 0 rfl) ?_
  refine lv_iload_n hx hb dX5_mixHeat_9 rfl (lv_at hl 3 rfl) ?_
  refine lv_iadd hx hb dX5_mixHeat_10 ?_
  refine lv_istore (lv' := [(4, .int ((m_X4_all g (1 + v)) + b)), (3, .int (m_X4_all g (1 + v))), (0, .ref (ad (19 + v))), (1, .int a), (2, .int b)]) hx hb dX5_mixHeat_11 hl (by decide) rfl (fun ls hl => ?_)
  refine lv_iload_n hx hb dX5_mixHeat_13 rfl (lv_at hl 4 rfl) ?_
  refine lv_if_le (tgt := 39) hx hb dX5_mixHeat_14 (by decide) (fun c_1 => ?_) (fun c_1 => ?_)
  · skip
    rw [if_pos c_1] at hM
    exact r2_v cx hQ wo dX5_mixHeat_39 (by subst hM; exact ⟨rfl, rfl⟩)
  · skip
    rw [if_neg c_1] at hM
    refine lv_iload hx hb dX5_mixHeat_17 (lv_at hl 0 rfl) ?_
    refine lv_if_le (tgt := 39) hx hb dX5_mixHeat_19 (by decide) (fun c_2 => ?_) (fun c_2 => ?_)
    · skip
      rw [if_pos c_2] at hM
      exact r2_v cx hQ wo dX5_mixHeat_39 (by subst hM; exact ⟨rfl, rfl⟩)
    · skip
      rw [if_neg c_2] at hM
      refine lv_aload_n hx hb dX5_mixHeat_22 rfl (lv_at hl 2 rfl) ?_
      refine lv_aload_n hx hb dX5_mixHeat_23 rfl (lv_at hl 2 rfl) ?_
      refine gf_vessel_heat (v := v) (fun X => X) Fr_id cx wo (by omega) m_199 dX5_mixHeat_24 ?_
      refine lv_iload_n hx hb dX5_mixHeat_27 rfl (lv_at hl 1 rfl) ?_
      refine lv_imul hx hb dX5_mixHeat_28 ?_
      refine lv_iload_n hx hb dX5_mixHeat_29 rfl (lv_at hl 3 rfl) ?_
      refine lv_iload_n hx hb dX5_mixHeat_30 rfl (lv_at hl 4 rfl) ?_
      refine lv_imul hx hb dX5_mixHeat_31 ?_
      refine lv_iadd hx hb dX5_mixHeat_32 ?_
      refine lv_iload hx hb dX5_mixHeat_33 (lv_at hl 0 rfl) ?_
      refine lv_idiv hx hb dX5_mixHeat_35 (fun hz => c_2 (by rw [hz]; decide)) ?_
      refine pf_vessel_heat (v := v) (fun X => X) Fr_id cx wo (by omega) m_199 dX5_mixHeat_36 (fun H locs gz hgz wo => ?_)
      subst hgz
      exact r2_v cx hQ wo dX5_mixHeat_39 (by subst hM; exact ⟨rfl, rfl⟩)
abbrev rm_X3_freeze : Room := { frames := 1, cells := 0, slots := 0, locals := 22 }
def m_X3_freeze (g : St) (d : Nat) (n : Int32) : St :=
  (upd (upd (upd (upd (upd (upd (upd (upd g (16 + 4 * d) ((g (16 + 4 * d)) + (-(mn n (g (16 + 4 * d)))))) (32 + 4 * d) ((g (32 + 4 * d)) + (mn n (g (16 + 4 * d))))) (17 + 4 * d) ((g (17 + 4 * d)) + (-(mn (n - (mn n (g (16 + 4 * d)))) (g (17 + 4 * d)))))) (33 + 4 * d) ((g (33 + 4 * d)) + (mn (n - (mn n (g (16 + 4 * d)))) (g (17 + 4 * d))))) (18 + 4 * d) ((g (18 + 4 * d)) + (-(mn ((n - (mn n (g (16 + 4 * d)))) - (mn (n - (mn n (g (16 + 4 * d)))) (g (17 + 4 * d)))) (g (18 + 4 * d)))))) (34 + 4 * d) ((g (34 + 4 * d)) + (mn ((n - (mn n (g (16 + 4 * d)))) - (mn (n - (mn n (g (16 + 4 * d)))) (g (17 + 4 * d)))) (g (18 + 4 * d))))) (19 + 4 * d) ((g (19 + 4 * d)) + (-(mn (((n - (mn n (g (16 + 4 * d)))) - (mn (n - (mn n (g (16 + 4 * d)))) (g (17 + 4 * d)))) - (mn ((n - (mn n (g (16 + 4 * d)))) - (mn (n - (mn n (g (16 + 4 * d)))) (g (17 + 4 * d)))) (g (18 + 4 * d)))) (g (19 + 4 * d)))))) (35 + 4 * d) ((g (35 + 4 * d)) + (mn (((n - (mn n (g (16 + 4 * d)))) - (mn (n - (mn n (g (16 + 4 * d)))) (g (17 + 4 * d)))) - (mn ((n - (mn n (g (16 + 4 * d)))) - (mn (n - (mn n (g (16 + 4 * d)))) (g (17 + 4 * d)))) (g (18 + 4 * d)))) (g (19 + 4 * d)))))
set_option maxHeartbeats 4000000 in
set_option maxRecDepth 100000 in
theorem c_X3_freeze (l : Launch) (G : GG) (ad : Nat → Nat) (g : St) {d : Nat} (hd : d < 4) (n : Int32) : Ct l G yX3_freeze cX3_freeze 5 (none : Option Jvm.ClassFile.FieldType) rm_X3_freeze [.ref (ad (22 + d)), .int n] (aw G ad g) (fun rv W1 => rv = none ∧ W1 = aw G ad (m_X3_freeze g d n)) := by
  refine Ct.mk2 (by decide) (Nat.le_of_ble_eq_true rfl) ?_
  intro p e s m args below meth c A H locs ls Q cx wo hl hQ
  obtain ⟨hx, hb, hml, hr, hlo, hown, hts, hnm, kn, hA⟩ := id cx
  have hl : lv_has ls 5 [(0, .ref (ad (22 + d))), (1, .int n)] := hl
  generalize hM : m_X3_freeze g d n = M at hQ
  unfold m_X3_freeze at hM
  refine lv_iload_n hx hb dX3_freeze_0 rfl (lv_at hl 1 rfl) ?_
  refine lv_istore_n (lv' := [(2, .int n), (0, .ref (ad (22 + d))), (1, .int n)]) hx hb dX3_freeze_1 rfl hl (by decide) rfl (fun ls hl => ?_)
  refine lv_iconst (v := 1) hx hb dX3_freeze_2 (by decide) ?_
  refine lv_istore_n (lv' := [(3, .int 1), (2, .int n), (0, .ref (ad (22 + d))), (1, .int n)]) hx hb dX3_freeze_3 rfl hl (by decide) rfl (fun ls hl => ?_)
  refine lv_iload_n hx hb dX3_freeze_4 rfl (lv_at hl 0 rfl) ?_
  refine lv_iconst (v := 4) hx hb dX3_freeze_5 (by decide) ?_
  refine lv_icmp_gt (tgt := 55) hx hb dX3_freeze_6 (by decide) (fun h => absurd h (by decide)) (fun _ => ?_)
  refine lv_iload_n hx hb dX3_freeze_9 rfl (lv_at hl 1 rfl) ?_
  refine lv_aload_n hx hb dX3_freeze_10 rfl (lv_at hl 2 rfl) ?_
  refine gf_ladle_stuff (d := d) (fun X => X) Fr_id cx wo (by omega) m_229 dX3_freeze_11 ?_
  refine topv (y := .ref (ad (4 + d))) (congrArg (fun z => Value.ref (ad z)) (by omega)) ?_
  refine lv_iload_n hx hb dX3_freeze_14 rfl (lv_at hl 0 rfl) ?_
  refine call_V (As := [.int 1]) (rest := [.int n]) (fun X => X) Fr_id cx (c_X4_of_1 l G ad _ (t := 4 + d) (i := 16 + 4 * d) (by omega) (by omega) (by omega)) fx_X4_of m_487 m_488 m_489 ⟨by decide, by decide⟩ wo (at_stuff G _ _ (t := 4 + d) (by omega) (by omega)) rfl rfl rfl hl.1 rfl (Nat.le_of_ble_eq_true rfl) dX3_freeze_15 ⟨by decide, by decide⟩ (fun v W1 H locs hp wo => ?_)
  obtain ⟨rfl, rfl⟩ := hp
  refine nrm_i ?_
  refine min_r cx m_479 dX3_freeze_18 hl.1 (by decide) (Nat.le_of_ble_eq_true rfl) (by decide) (by decide) ?_
  refine lv_istore (lv' := [(4, .int (mn n (g (16 + 4 * d)))), (3, .int 1), (2, .int n), (0, .ref (ad (22 + d))), (1, .int n)]) hx hb dX3_freeze_21 hl (by decide) rfl (fun ls hl => ?_)
  refine lv_aload_n hx hb dX3_freeze_23 rfl (lv_at hl 3 rfl) ?_
  refine gf_ladle_stuff (d := d) (fun X => X) Fr_id cx wo (by omega) m_229 dX3_freeze_24 ?_
  refine topv (y := .ref (ad (4 + d))) (congrArg (fun z => Value.ref (ad z)) (by omega)) ?_
  refine lv_iload_n hx hb dX3_freeze_27 rfl (lv_at hl 1 rfl) ?_
  refine lv_iload hx hb dX3_freeze_28 (lv_at hl 0 rfl) ?_
  refine lv_ineg hx hb dX3_freeze_30 ?_
  refine call_V (As := [.int 1, .int (-(mn n (g (16 + 4 * d))))]) (rest := []) (fun X => X) Fr_id cx (c_X4_add_1 l G ad _ (t := 4 + d) (i := 16 + 4 * d) (by omega) (by omega) (by omega) (-(mn n (g (16 + 4 * d))))) fx_X4_add m_491 m_362 m_363 ⟨by decide, by decide⟩ wo (at_stuff G _ _ (t := 4 + d) (by omega) (by omega)) rfl rfl rfl hl.1 rfl (Nat.le_of_ble_eq_true rfl) dX3_freeze_31 ⟨by decide, by decide⟩ (fun v W1 H locs hp wo => ?_)
  obtain ⟨rfl, rfl⟩ := hp
  rw [show (upd g (16 + 4 * d) (g (16 + 4 * d) + (-(mn n (g (16 + 4 * d)))))) = (upd g (16 + 4 * d) ((g (16 + 4 * d)) + (-(mn n (g (16 + 4 * d)))))) from by simp (disch := omega) only [pk_un, pk_us]] at wo
  refine nrm_v ?_
  refine lv_aload_n hx hb dX3_freeze_34 rfl (lv_at hl 3 rfl) ?_
  refine gf_ladle_skull (d := d) (fun X => X) Fr_id cx wo (by omega) m_231 dX3_freeze_35 ?_
  refine topv (y := .ref (ad (8 + d))) (congrArg (fun z => Value.ref (ad z)) (by omega)) ?_
  refine lv_iload_n hx hb dX3_freeze_38 rfl (lv_at hl 1 rfl) ?_
  refine lv_iload hx hb dX3_freeze_39 (lv_at hl 0 rfl) ?_
  refine call_V (As := [.int 1, .int (mn n (g (16 + 4 * d)))]) (rest := []) (fun X => X) Fr_id cx (c_X4_add_1 l G ad _ (t := 8 + d) (i := 32 + 4 * d) (by omega) (by omega) (by omega) (mn n (g (16 + 4 * d)))) fx_X4_add m_491 m_362 m_363 ⟨by decide, by decide⟩ wo (at_stuff G _ _ (t := 8 + d) (by omega) (by omega)) rfl rfl rfl hl.1 rfl (Nat.le_of_ble_eq_true rfl) dX3_freeze_41 ⟨by decide, by decide⟩ (fun v W1 H locs hp wo => ?_)
  obtain ⟨rfl, rfl⟩ := hp
  rw [show (upd (upd g (16 + 4 * d) ((g (16 + 4 * d)) + (-(mn n (g (16 + 4 * d)))))) (32 + 4 * d) ((upd g (16 + 4 * d) ((g (16 + 4 * d)) + (-(mn n (g (16 + 4 * d)))))) (32 + 4 * d) + (mn n (g (16 + 4 * d))))) = (upd (upd g (16 + 4 * d) ((g (16 + 4 * d)) + (-(mn n (g (16 + 4 * d)))))) (32 + 4 * d) ((g (32 + 4 * d)) + (mn n (g (16 + 4 * d))))) from by simp (disch := omega) only [pk_un, pk_us]] at wo
  refine nrm_v ?_
  refine lv_iload_n hx hb dX3_freeze_44 rfl (lv_at hl 2 rfl) ?_
  refine lv_iload hx hb dX3_freeze_45 (lv_at hl 0 rfl) ?_
  refine lv_isub hx hb dX3_freeze_47 ?_
  refine lv_istore_n (lv' := [(2, .int (n - (mn n (g (16 + 4 * d))))), (4, .int (mn n (g (16 + 4 * d)))), (3, .int 1), (0, .ref (ad (22 + d))), (1, .int n)]) hx hb dX3_freeze_48 rfl hl (by decide) rfl (fun ls hl => ?_)
  refine lv_iinc (v := 2) (lv' := [(3, .int 2), (2, .int (n - (mn n (g (16 + 4 * d))))), (4, .int (mn n (g (16 + 4 * d)))), (0, .ref (ad (22 + d))), (1, .int n)]) hx hb dX3_freeze_49 hl (k := 2) rfl (by decide) (by decide) rfl (fun ls hl => ?_)
  refine lv_goto (tgt := 4) hx hb dX3_freeze_52 (by decide) ?_
  refine lv_iload_n hx hb dX3_freeze_4 rfl (lv_at hl 0 rfl) ?_
  refine lv_iconst (v := 4) hx hb dX3_freeze_5 (by decide) ?_
  refine lv_icmp_gt (tgt := 55) hx hb dX3_freeze_6 (by decide) (fun h => absurd h (by decide)) (fun _ => ?_)
  refine lv_iload_n hx hb dX3_freeze_9 rfl (lv_at hl 1 rfl) ?_
  refine lv_aload_n hx hb dX3_freeze_10 rfl (lv_at hl 3 rfl) ?_
  refine gf_ladle_stuff (d := d) (fun X => X) Fr_id cx wo (by omega) m_229 dX3_freeze_11 ?_
  refine topv (y := .ref (ad (4 + d))) (congrArg (fun z => Value.ref (ad z)) (by omega)) ?_
  refine lv_iload_n hx hb dX3_freeze_14 rfl (lv_at hl 0 rfl) ?_
  refine call_V (As := [.int 2]) (rest := [.int (n - (mn n (g (16 + 4 * d))))]) (fun X => X) Fr_id cx (c_X4_of_2 l G ad _ (t := 4 + d) (i := 17 + 4 * d) (by omega) (by omega) (by omega)) fx_X4_of m_487 m_488 m_489 ⟨by decide, by decide⟩ wo (at_stuff G _ _ (t := 4 + d) (by omega) (by omega)) rfl rfl rfl hl.1 rfl (Nat.le_of_ble_eq_true rfl) dX3_freeze_15 ⟨by decide, by decide⟩ (fun v W1 H locs hp wo => ?_)
  obtain ⟨rfl, rfl⟩ := hp
  refine nrm_i ?_
  refine tope (y := (g (17 + 4 * d))) (by simp (disch := omega) only [pk_un, pk_us]) ?_
  refine min_r cx m_479 dX3_freeze_18 hl.1 (by decide) (Nat.le_of_ble_eq_true rfl) (by decide) (by decide) ?_
  refine lv_istore (lv' := [(4, .int (mn (n - (mn n (g (16 + 4 * d)))) (g (17 + 4 * d)))), (3, .int 2), (2, .int (n - (mn n (g (16 + 4 * d))))), (0, .ref (ad (22 + d))), (1, .int n)]) hx hb dX3_freeze_21 hl (by decide) rfl (fun ls hl => ?_)
  refine lv_aload_n hx hb dX3_freeze_23 rfl (lv_at hl 3 rfl) ?_
  refine gf_ladle_stuff (d := d) (fun X => X) Fr_id cx wo (by omega) m_229 dX3_freeze_24 ?_
  refine topv (y := .ref (ad (4 + d))) (congrArg (fun z => Value.ref (ad z)) (by omega)) ?_
  refine lv_iload_n hx hb dX3_freeze_27 rfl (lv_at hl 1 rfl) ?_
  refine lv_iload hx hb dX3_freeze_28 (lv_at hl 0 rfl) ?_
  refine lv_ineg hx hb dX3_freeze_30 ?_
  refine call_V (As := [.int 2, .int (-(mn (n - (mn n (g (16 + 4 * d)))) (g (17 + 4 * d))))]) (rest := []) (fun X => X) Fr_id cx (c_X4_add_2 l G ad _ (t := 4 + d) (i := 17 + 4 * d) (by omega) (by omega) (by omega) (-(mn (n - (mn n (g (16 + 4 * d)))) (g (17 + 4 * d))))) fx_X4_add m_491 m_362 m_363 ⟨by decide, by decide⟩ wo (at_stuff G _ _ (t := 4 + d) (by omega) (by omega)) rfl rfl rfl hl.1 rfl (Nat.le_of_ble_eq_true rfl) dX3_freeze_31 ⟨by decide, by decide⟩ (fun v W1 H locs hp wo => ?_)
  obtain ⟨rfl, rfl⟩ := hp
  rw [show (upd (upd (upd g (16 + 4 * d) ((g (16 + 4 * d)) + (-(mn n (g (16 + 4 * d)))))) (32 + 4 * d) ((g (32 + 4 * d)) + (mn n (g (16 + 4 * d))))) (17 + 4 * d) ((upd (upd g (16 + 4 * d) ((g (16 + 4 * d)) + (-(mn n (g (16 + 4 * d)))))) (32 + 4 * d) ((g (32 + 4 * d)) + (mn n (g (16 + 4 * d))))) (17 + 4 * d) + (-(mn (n - (mn n (g (16 + 4 * d)))) (g (17 + 4 * d)))))) = (upd (upd (upd g (16 + 4 * d) ((g (16 + 4 * d)) + (-(mn n (g (16 + 4 * d)))))) (32 + 4 * d) ((g (32 + 4 * d)) + (mn n (g (16 + 4 * d))))) (17 + 4 * d) ((g (17 + 4 * d)) + (-(mn (n - (mn n (g (16 + 4 * d)))) (g (17 + 4 * d)))))) from by simp (disch := omega) only [pk_un, pk_us]] at wo
  refine nrm_v ?_
  refine lv_aload_n hx hb dX3_freeze_34 rfl (lv_at hl 3 rfl) ?_
  refine gf_ladle_skull (d := d) (fun X => X) Fr_id cx wo (by omega) m_231 dX3_freeze_35 ?_
  refine topv (y := .ref (ad (8 + d))) (congrArg (fun z => Value.ref (ad z)) (by omega)) ?_
  refine lv_iload_n hx hb dX3_freeze_38 rfl (lv_at hl 1 rfl) ?_
  refine lv_iload hx hb dX3_freeze_39 (lv_at hl 0 rfl) ?_
  refine call_V (As := [.int 2, .int (mn (n - (mn n (g (16 + 4 * d)))) (g (17 + 4 * d)))]) (rest := []) (fun X => X) Fr_id cx (c_X4_add_2 l G ad _ (t := 8 + d) (i := 33 + 4 * d) (by omega) (by omega) (by omega) (mn (n - (mn n (g (16 + 4 * d)))) (g (17 + 4 * d)))) fx_X4_add m_491 m_362 m_363 ⟨by decide, by decide⟩ wo (at_stuff G _ _ (t := 8 + d) (by omega) (by omega)) rfl rfl rfl hl.1 rfl (Nat.le_of_ble_eq_true rfl) dX3_freeze_41 ⟨by decide, by decide⟩ (fun v W1 H locs hp wo => ?_)
  obtain ⟨rfl, rfl⟩ := hp
  rw [show (upd (upd (upd (upd g (16 + 4 * d) ((g (16 + 4 * d)) + (-(mn n (g (16 + 4 * d)))))) (32 + 4 * d) ((g (32 + 4 * d)) + (mn n (g (16 + 4 * d))))) (17 + 4 * d) ((g (17 + 4 * d)) + (-(mn (n - (mn n (g (16 + 4 * d)))) (g (17 + 4 * d)))))) (33 + 4 * d) ((upd (upd (upd g (16 + 4 * d) ((g (16 + 4 * d)) + (-(mn n (g (16 + 4 * d)))))) (32 + 4 * d) ((g (32 + 4 * d)) + (mn n (g (16 + 4 * d))))) (17 + 4 * d) ((g (17 + 4 * d)) + (-(mn (n - (mn n (g (16 + 4 * d)))) (g (17 + 4 * d)))))) (33 + 4 * d) + (mn (n - (mn n (g (16 + 4 * d)))) (g (17 + 4 * d))))) = (upd (upd (upd (upd g (16 + 4 * d) ((g (16 + 4 * d)) + (-(mn n (g (16 + 4 * d)))))) (32 + 4 * d) ((g (32 + 4 * d)) + (mn n (g (16 + 4 * d))))) (17 + 4 * d) ((g (17 + 4 * d)) + (-(mn (n - (mn n (g (16 + 4 * d)))) (g (17 + 4 * d)))))) (33 + 4 * d) ((g (33 + 4 * d)) + (mn (n - (mn n (g (16 + 4 * d)))) (g (17 + 4 * d))))) from by simp (disch := omega) only [pk_un, pk_us]] at wo
  refine nrm_v ?_
  refine lv_iload_n hx hb dX3_freeze_44 rfl (lv_at hl 2 rfl) ?_
  refine lv_iload hx hb dX3_freeze_45 (lv_at hl 0 rfl) ?_
  refine lv_isub hx hb dX3_freeze_47 ?_
  refine lv_istore_n (lv' := [(2, .int ((n - (mn n (g (16 + 4 * d)))) - (mn (n - (mn n (g (16 + 4 * d)))) (g (17 + 4 * d))))), (4, .int (mn (n - (mn n (g (16 + 4 * d)))) (g (17 + 4 * d)))), (3, .int 2), (0, .ref (ad (22 + d))), (1, .int n)]) hx hb dX3_freeze_48 rfl hl (by decide) rfl (fun ls hl => ?_)
  refine lv_iinc (v := 3) (lv' := [(3, .int 3), (2, .int ((n - (mn n (g (16 + 4 * d)))) - (mn (n - (mn n (g (16 + 4 * d)))) (g (17 + 4 * d))))), (4, .int (mn (n - (mn n (g (16 + 4 * d)))) (g (17 + 4 * d)))), (0, .ref (ad (22 + d))), (1, .int n)]) hx hb dX3_freeze_49 hl (k := 2) rfl (by decide) (by decide) rfl (fun ls hl => ?_)
  refine lv_goto (tgt := 4) hx hb dX3_freeze_52 (by decide) ?_
  refine lv_iload_n hx hb dX3_freeze_4 rfl (lv_at hl 0 rfl) ?_
  refine lv_iconst (v := 4) hx hb dX3_freeze_5 (by decide) ?_
  refine lv_icmp_gt (tgt := 55) hx hb dX3_freeze_6 (by decide) (fun h => absurd h (by decide)) (fun _ => ?_)
  refine lv_iload_n hx hb dX3_freeze_9 rfl (lv_at hl 1 rfl) ?_
  refine lv_aload_n hx hb dX3_freeze_10 rfl (lv_at hl 3 rfl) ?_
  refine gf_ladle_stuff (d := d) (fun X => X) Fr_id cx wo (by omega) m_229 dX3_freeze_11 ?_
  refine topv (y := .ref (ad (4 + d))) (congrArg (fun z => Value.ref (ad z)) (by omega)) ?_
  refine lv_iload_n hx hb dX3_freeze_14 rfl (lv_at hl 0 rfl) ?_
  refine call_V (As := [.int 3]) (rest := [.int ((n - (mn n (g (16 + 4 * d)))) - (mn (n - (mn n (g (16 + 4 * d)))) (g (17 + 4 * d))))]) (fun X => X) Fr_id cx (c_X4_of_3 l G ad _ (t := 4 + d) (i := 18 + 4 * d) (by omega) (by omega) (by omega)) fx_X4_of m_487 m_488 m_489 ⟨by decide, by decide⟩ wo (at_stuff G _ _ (t := 4 + d) (by omega) (by omega)) rfl rfl rfl hl.1 rfl (Nat.le_of_ble_eq_true rfl) dX3_freeze_15 ⟨by decide, by decide⟩ (fun v W1 H locs hp wo => ?_)
  obtain ⟨rfl, rfl⟩ := hp
  refine nrm_i ?_
  refine tope (y := (g (18 + 4 * d))) (by simp (disch := omega) only [pk_un, pk_us]) ?_
  refine min_r cx m_479 dX3_freeze_18 hl.1 (by decide) (Nat.le_of_ble_eq_true rfl) (by decide) (by decide) ?_
  refine lv_istore (lv' := [(4, .int (mn ((n - (mn n (g (16 + 4 * d)))) - (mn (n - (mn n (g (16 + 4 * d)))) (g (17 + 4 * d)))) (g (18 + 4 * d)))), (3, .int 3), (2, .int ((n - (mn n (g (16 + 4 * d)))) - (mn (n - (mn n (g (16 + 4 * d)))) (g (17 + 4 * d))))), (0, .ref (ad (22 + d))), (1, .int n)]) hx hb dX3_freeze_21 hl (by decide) rfl (fun ls hl => ?_)
  refine lv_aload_n hx hb dX3_freeze_23 rfl (lv_at hl 3 rfl) ?_
  refine gf_ladle_stuff (d := d) (fun X => X) Fr_id cx wo (by omega) m_229 dX3_freeze_24 ?_
  refine topv (y := .ref (ad (4 + d))) (congrArg (fun z => Value.ref (ad z)) (by omega)) ?_
  refine lv_iload_n hx hb dX3_freeze_27 rfl (lv_at hl 1 rfl) ?_
  refine lv_iload hx hb dX3_freeze_28 (lv_at hl 0 rfl) ?_
  refine lv_ineg hx hb dX3_freeze_30 ?_
  refine call_V (As := [.int 3, .int (-(mn ((n - (mn n (g (16 + 4 * d)))) - (mn (n - (mn n (g (16 + 4 * d)))) (g (17 + 4 * d)))) (g (18 + 4 * d))))]) (rest := []) (fun X => X) Fr_id cx (c_X4_add_3 l G ad _ (t := 4 + d) (i := 18 + 4 * d) (by omega) (by omega) (by omega) (-(mn ((n - (mn n (g (16 + 4 * d)))) - (mn (n - (mn n (g (16 + 4 * d)))) (g (17 + 4 * d)))) (g (18 + 4 * d))))) fx_X4_add m_491 m_362 m_363 ⟨by decide, by decide⟩ wo (at_stuff G _ _ (t := 4 + d) (by omega) (by omega)) rfl rfl rfl hl.1 rfl (Nat.le_of_ble_eq_true rfl) dX3_freeze_31 ⟨by decide, by decide⟩ (fun v W1 H locs hp wo => ?_)
  obtain ⟨rfl, rfl⟩ := hp
  rw [show (upd (upd (upd (upd (upd g (16 + 4 * d) ((g (16 + 4 * d)) + (-(mn n (g (16 + 4 * d)))))) (32 + 4 * d) ((g (32 + 4 * d)) + (mn n (g (16 + 4 * d))))) (17 + 4 * d) ((g (17 + 4 * d)) + (-(mn (n - (mn n (g (16 + 4 * d)))) (g (17 + 4 * d)))))) (33 + 4 * d) ((g (33 + 4 * d)) + (mn (n - (mn n (g (16 + 4 * d)))) (g (17 + 4 * d))))) (18 + 4 * d) ((upd (upd (upd (upd g (16 + 4 * d) ((g (16 + 4 * d)) + (-(mn n (g (16 + 4 * d)))))) (32 + 4 * d) ((g (32 + 4 * d)) + (mn n (g (16 + 4 * d))))) (17 + 4 * d) ((g (17 + 4 * d)) + (-(mn (n - (mn n (g (16 + 4 * d)))) (g (17 + 4 * d)))))) (33 + 4 * d) ((g (33 + 4 * d)) + (mn (n - (mn n (g (16 + 4 * d)))) (g (17 + 4 * d))))) (18 + 4 * d) + (-(mn ((n - (mn n (g (16 + 4 * d)))) - (mn (n - (mn n (g (16 + 4 * d)))) (g (17 + 4 * d)))) (g (18 + 4 * d)))))) = (upd (upd (upd (upd (upd g (16 + 4 * d) ((g (16 + 4 * d)) + (-(mn n (g (16 + 4 * d)))))) (32 + 4 * d) ((g (32 + 4 * d)) + (mn n (g (16 + 4 * d))))) (17 + 4 * d) ((g (17 + 4 * d)) + (-(mn (n - (mn n (g (16 + 4 * d)))) (g (17 + 4 * d)))))) (33 + 4 * d) ((g (33 + 4 * d)) + (mn (n - (mn n (g (16 + 4 * d)))) (g (17 + 4 * d))))) (18 + 4 * d) ((g (18 + 4 * d)) + (-(mn ((n - (mn n (g (16 + 4 * d)))) - (mn (n - (mn n (g (16 + 4 * d)))) (g (17 + 4 * d)))) (g (18 + 4 * d)))))) from by simp (disch := omega) only [pk_un, pk_us]] at wo
  refine nrm_v ?_
  refine lv_aload_n hx hb dX3_freeze_34 rfl (lv_at hl 3 rfl) ?_
  refine gf_ladle_skull (d := d) (fun X => X) Fr_id cx wo (by omega) m_231 dX3_freeze_35 ?_
  refine topv (y := .ref (ad (8 + d))) (congrArg (fun z => Value.ref (ad z)) (by omega)) ?_
  refine lv_iload_n hx hb dX3_freeze_38 rfl (lv_at hl 1 rfl) ?_
  refine lv_iload hx hb dX3_freeze_39 (lv_at hl 0 rfl) ?_
  refine call_V (As := [.int 3, .int (mn ((n - (mn n (g (16 + 4 * d)))) - (mn (n - (mn n (g (16 + 4 * d)))) (g (17 + 4 * d)))) (g (18 + 4 * d)))]) (rest := []) (fun X => X) Fr_id cx (c_X4_add_3 l G ad _ (t := 8 + d) (i := 34 + 4 * d) (by omega) (by omega) (by omega) (mn ((n - (mn n (g (16 + 4 * d)))) - (mn (n - (mn n (g (16 + 4 * d)))) (g (17 + 4 * d)))) (g (18 + 4 * d)))) fx_X4_add m_491 m_362 m_363 ⟨by decide, by decide⟩ wo (at_stuff G _ _ (t := 8 + d) (by omega) (by omega)) rfl rfl rfl hl.1 rfl (Nat.le_of_ble_eq_true rfl) dX3_freeze_41 ⟨by decide, by decide⟩ (fun v W1 H locs hp wo => ?_)
  obtain ⟨rfl, rfl⟩ := hp
  rw [show (upd (upd (upd (upd (upd (upd g (16 + 4 * d) ((g (16 + 4 * d)) + (-(mn n (g (16 + 4 * d)))))) (32 + 4 * d) ((g (32 + 4 * d)) + (mn n (g (16 + 4 * d))))) (17 + 4 * d) ((g (17 + 4 * d)) + (-(mn (n - (mn n (g (16 + 4 * d)))) (g (17 + 4 * d)))))) (33 + 4 * d) ((g (33 + 4 * d)) + (mn (n - (mn n (g (16 + 4 * d)))) (g (17 + 4 * d))))) (18 + 4 * d) ((g (18 + 4 * d)) + (-(mn ((n - (mn n (g (16 + 4 * d)))) - (mn (n - (mn n (g (16 + 4 * d)))) (g (17 + 4 * d)))) (g (18 + 4 * d)))))) (34 + 4 * d) ((upd (upd (upd (upd (upd g (16 + 4 * d) ((g (16 + 4 * d)) + (-(mn n (g (16 + 4 * d)))))) (32 + 4 * d) ((g (32 + 4 * d)) + (mn n (g (16 + 4 * d))))) (17 + 4 * d) ((g (17 + 4 * d)) + (-(mn (n - (mn n (g (16 + 4 * d)))) (g (17 + 4 * d)))))) (33 + 4 * d) ((g (33 + 4 * d)) + (mn (n - (mn n (g (16 + 4 * d)))) (g (17 + 4 * d))))) (18 + 4 * d) ((g (18 + 4 * d)) + (-(mn ((n - (mn n (g (16 + 4 * d)))) - (mn (n - (mn n (g (16 + 4 * d)))) (g (17 + 4 * d)))) (g (18 + 4 * d)))))) (34 + 4 * d) + (mn ((n - (mn n (g (16 + 4 * d)))) - (mn (n - (mn n (g (16 + 4 * d)))) (g (17 + 4 * d)))) (g (18 + 4 * d))))) = (upd (upd (upd (upd (upd (upd g (16 + 4 * d) ((g (16 + 4 * d)) + (-(mn n (g (16 + 4 * d)))))) (32 + 4 * d) ((g (32 + 4 * d)) + (mn n (g (16 + 4 * d))))) (17 + 4 * d) ((g (17 + 4 * d)) + (-(mn (n - (mn n (g (16 + 4 * d)))) (g (17 + 4 * d)))))) (33 + 4 * d) ((g (33 + 4 * d)) + (mn (n - (mn n (g (16 + 4 * d)))) (g (17 + 4 * d))))) (18 + 4 * d) ((g (18 + 4 * d)) + (-(mn ((n - (mn n (g (16 + 4 * d)))) - (mn (n - (mn n (g (16 + 4 * d)))) (g (17 + 4 * d)))) (g (18 + 4 * d)))))) (34 + 4 * d) ((g (34 + 4 * d)) + (mn ((n - (mn n (g (16 + 4 * d)))) - (mn (n - (mn n (g (16 + 4 * d)))) (g (17 + 4 * d)))) (g (18 + 4 * d))))) from by simp (disch := omega) only [pk_un, pk_us]] at wo
  refine nrm_v ?_
  refine lv_iload_n hx hb dX3_freeze_44 rfl (lv_at hl 2 rfl) ?_
  refine lv_iload hx hb dX3_freeze_45 (lv_at hl 0 rfl) ?_
  refine lv_isub hx hb dX3_freeze_47 ?_
  refine lv_istore_n (lv' := [(2, .int (((n - (mn n (g (16 + 4 * d)))) - (mn (n - (mn n (g (16 + 4 * d)))) (g (17 + 4 * d)))) - (mn ((n - (mn n (g (16 + 4 * d)))) - (mn (n - (mn n (g (16 + 4 * d)))) (g (17 + 4 * d)))) (g (18 + 4 * d))))), (4, .int (mn ((n - (mn n (g (16 + 4 * d)))) - (mn (n - (mn n (g (16 + 4 * d)))) (g (17 + 4 * d)))) (g (18 + 4 * d)))), (3, .int 3), (0, .ref (ad (22 + d))), (1, .int n)]) hx hb dX3_freeze_48 rfl hl (by decide) rfl (fun ls hl => ?_)
  refine lv_iinc (v := 4) (lv' := [(3, .int 4), (2, .int (((n - (mn n (g (16 + 4 * d)))) - (mn (n - (mn n (g (16 + 4 * d)))) (g (17 + 4 * d)))) - (mn ((n - (mn n (g (16 + 4 * d)))) - (mn (n - (mn n (g (16 + 4 * d)))) (g (17 + 4 * d)))) (g (18 + 4 * d))))), (4, .int (mn ((n - (mn n (g (16 + 4 * d)))) - (mn (n - (mn n (g (16 + 4 * d)))) (g (17 + 4 * d)))) (g (18 + 4 * d)))), (0, .ref (ad (22 + d))), (1, .int n)]) hx hb dX3_freeze_49 hl (k := 2) rfl (by decide) (by decide) rfl (fun ls hl => ?_)
  refine lv_goto (tgt := 4) hx hb dX3_freeze_52 (by decide) ?_
  refine lv_iload_n hx hb dX3_freeze_4 rfl (lv_at hl 0 rfl) ?_
  refine lv_iconst (v := 4) hx hb dX3_freeze_5 (by decide) ?_
  refine lv_icmp_gt (tgt := 55) hx hb dX3_freeze_6 (by decide) (fun h => absurd h (by decide)) (fun _ => ?_)
  refine lv_iload_n hx hb dX3_freeze_9 rfl (lv_at hl 1 rfl) ?_
  refine lv_aload_n hx hb dX3_freeze_10 rfl (lv_at hl 3 rfl) ?_
  refine gf_ladle_stuff (d := d) (fun X => X) Fr_id cx wo (by omega) m_229 dX3_freeze_11 ?_
  refine topv (y := .ref (ad (4 + d))) (congrArg (fun z => Value.ref (ad z)) (by omega)) ?_
  refine lv_iload_n hx hb dX3_freeze_14 rfl (lv_at hl 0 rfl) ?_
  refine call_V (As := [.int 4]) (rest := [.int (((n - (mn n (g (16 + 4 * d)))) - (mn (n - (mn n (g (16 + 4 * d)))) (g (17 + 4 * d)))) - (mn ((n - (mn n (g (16 + 4 * d)))) - (mn (n - (mn n (g (16 + 4 * d)))) (g (17 + 4 * d)))) (g (18 + 4 * d))))]) (fun X => X) Fr_id cx (c_X4_of_4 l G ad _ (t := 4 + d) (i := 19 + 4 * d) (by omega) (by omega) (by omega)) fx_X4_of m_487 m_488 m_489 ⟨by decide, by decide⟩ wo (at_stuff G _ _ (t := 4 + d) (by omega) (by omega)) rfl rfl rfl hl.1 rfl (Nat.le_of_ble_eq_true rfl) dX3_freeze_15 ⟨by decide, by decide⟩ (fun v W1 H locs hp wo => ?_)
  obtain ⟨rfl, rfl⟩ := hp
  refine nrm_i ?_
  refine tope (y := (g (19 + 4 * d))) (by simp (disch := omega) only [pk_un, pk_us]) ?_
  refine min_r cx m_479 dX3_freeze_18 hl.1 (by decide) (Nat.le_of_ble_eq_true rfl) (by decide) (by decide) ?_
  refine lv_istore (lv' := [(4, .int (mn (((n - (mn n (g (16 + 4 * d)))) - (mn (n - (mn n (g (16 + 4 * d)))) (g (17 + 4 * d)))) - (mn ((n - (mn n (g (16 + 4 * d)))) - (mn (n - (mn n (g (16 + 4 * d)))) (g (17 + 4 * d)))) (g (18 + 4 * d)))) (g (19 + 4 * d)))), (3, .int 4), (2, .int (((n - (mn n (g (16 + 4 * d)))) - (mn (n - (mn n (g (16 + 4 * d)))) (g (17 + 4 * d)))) - (mn ((n - (mn n (g (16 + 4 * d)))) - (mn (n - (mn n (g (16 + 4 * d)))) (g (17 + 4 * d)))) (g (18 + 4 * d))))), (0, .ref (ad (22 + d))), (1, .int n)]) hx hb dX3_freeze_21 hl (by decide) rfl (fun ls hl => ?_)
  refine lv_aload_n hx hb dX3_freeze_23 rfl (lv_at hl 3 rfl) ?_
  refine gf_ladle_stuff (d := d) (fun X => X) Fr_id cx wo (by omega) m_229 dX3_freeze_24 ?_
  refine topv (y := .ref (ad (4 + d))) (congrArg (fun z => Value.ref (ad z)) (by omega)) ?_
  refine lv_iload_n hx hb dX3_freeze_27 rfl (lv_at hl 1 rfl) ?_
  refine lv_iload hx hb dX3_freeze_28 (lv_at hl 0 rfl) ?_
  refine lv_ineg hx hb dX3_freeze_30 ?_
  refine call_V (As := [.int 4, .int (-(mn (((n - (mn n (g (16 + 4 * d)))) - (mn (n - (mn n (g (16 + 4 * d)))) (g (17 + 4 * d)))) - (mn ((n - (mn n (g (16 + 4 * d)))) - (mn (n - (mn n (g (16 + 4 * d)))) (g (17 + 4 * d)))) (g (18 + 4 * d)))) (g (19 + 4 * d))))]) (rest := []) (fun X => X) Fr_id cx (c_X4_add_4 l G ad _ (t := 4 + d) (i := 19 + 4 * d) (by omega) (by omega) (by omega) (-(mn (((n - (mn n (g (16 + 4 * d)))) - (mn (n - (mn n (g (16 + 4 * d)))) (g (17 + 4 * d)))) - (mn ((n - (mn n (g (16 + 4 * d)))) - (mn (n - (mn n (g (16 + 4 * d)))) (g (17 + 4 * d)))) (g (18 + 4 * d)))) (g (19 + 4 * d))))) fx_X4_add m_491 m_362 m_363 ⟨by decide, by decide⟩ wo (at_stuff G _ _ (t := 4 + d) (by omega) (by omega)) rfl rfl rfl hl.1 rfl (Nat.le_of_ble_eq_true rfl) dX3_freeze_31 ⟨by decide, by decide⟩ (fun v W1 H locs hp wo => ?_)
  obtain ⟨rfl, rfl⟩ := hp
  rw [show (upd (upd (upd (upd (upd (upd (upd g (16 + 4 * d) ((g (16 + 4 * d)) + (-(mn n (g (16 + 4 * d)))))) (32 + 4 * d) ((g (32 + 4 * d)) + (mn n (g (16 + 4 * d))))) (17 + 4 * d) ((g (17 + 4 * d)) + (-(mn (n - (mn n (g (16 + 4 * d)))) (g (17 + 4 * d)))))) (33 + 4 * d) ((g (33 + 4 * d)) + (mn (n - (mn n (g (16 + 4 * d)))) (g (17 + 4 * d))))) (18 + 4 * d) ((g (18 + 4 * d)) + (-(mn ((n - (mn n (g (16 + 4 * d)))) - (mn (n - (mn n (g (16 + 4 * d)))) (g (17 + 4 * d)))) (g (18 + 4 * d)))))) (34 + 4 * d) ((g (34 + 4 * d)) + (mn ((n - (mn n (g (16 + 4 * d)))) - (mn (n - (mn n (g (16 + 4 * d)))) (g (17 + 4 * d)))) (g (18 + 4 * d))))) (19 + 4 * d) ((upd (upd (upd (upd (upd (upd g (16 + 4 * d) ((g (16 + 4 * d)) + (-(mn n (g (16 + 4 * d)))))) (32 + 4 * d) ((g (32 + 4 * d)) + (mn n (g (16 + 4 * d))))) (17 + 4 * d) ((g (17 + 4 * d)) + (-(mn (n - (mn n (g (16 + 4 * d)))) (g (17 + 4 * d)))))) (33 + 4 * d) ((g (33 + 4 * d)) + (mn (n - (mn n (g (16 + 4 * d)))) (g (17 + 4 * d))))) (18 + 4 * d) ((g (18 + 4 * d)) + (-(mn ((n - (mn n (g (16 + 4 * d)))) - (mn (n - (mn n (g (16 + 4 * d)))) (g (17 + 4 * d)))) (g (18 + 4 * d)))))) (34 + 4 * d) ((g (34 + 4 * d)) + (mn ((n - (mn n (g (16 + 4 * d)))) - (mn (n - (mn n (g (16 + 4 * d)))) (g (17 + 4 * d)))) (g (18 + 4 * d))))) (19 + 4 * d) + (-(mn (((n - (mn n (g (16 + 4 * d)))) - (mn (n - (mn n (g (16 + 4 * d)))) (g (17 + 4 * d)))) - (mn ((n - (mn n (g (16 + 4 * d)))) - (mn (n - (mn n (g (16 + 4 * d)))) (g (17 + 4 * d)))) (g (18 + 4 * d)))) (g (19 + 4 * d)))))) = (upd (upd (upd (upd (upd (upd (upd g (16 + 4 * d) ((g (16 + 4 * d)) + (-(mn n (g (16 + 4 * d)))))) (32 + 4 * d) ((g (32 + 4 * d)) + (mn n (g (16 + 4 * d))))) (17 + 4 * d) ((g (17 + 4 * d)) + (-(mn (n - (mn n (g (16 + 4 * d)))) (g (17 + 4 * d)))))) (33 + 4 * d) ((g (33 + 4 * d)) + (mn (n - (mn n (g (16 + 4 * d)))) (g (17 + 4 * d))))) (18 + 4 * d) ((g (18 + 4 * d)) + (-(mn ((n - (mn n (g (16 + 4 * d)))) - (mn (n - (mn n (g (16 + 4 * d)))) (g (17 + 4 * d)))) (g (18 + 4 * d)))))) (34 + 4 * d) ((g (34 + 4 * d)) + (mn ((n - (mn n (g (16 + 4 * d)))) - (mn (n - (mn n (g (16 + 4 * d)))) (g (17 + 4 * d)))) (g (18 + 4 * d))))) (19 + 4 * d) ((g (19 + 4 * d)) + (-(mn (((n - (mn n (g (16 + 4 * d)))) - (mn (n - (mn n (g (16 + 4 * d)))) (g (17 + 4 * d)))) - (mn ((n - (mn n (g (16 + 4 * d)))) - (mn (n - (mn n (g (16 + 4 * d)))) (g (17 + 4 * d)))) (g (18 + 4 * d)))) (g (19 + 4 * d)))))) from by simp (disch := omega) only [pk_un, pk_us]] at wo
  refine nrm_v ?_
  refine lv_aload_n hx hb dX3_freeze_34 rfl (lv_at hl 3 rfl) ?_
  refine gf_ladle_skull (d := d) (fun X => X) Fr_id cx wo (by omega) m_231 dX3_freeze_35 ?_
  refine topv (y := .ref (ad (8 + d))) (congrArg (fun z => Value.ref (ad z)) (by omega)) ?_
  refine lv_iload_n hx hb dX3_freeze_38 rfl (lv_at hl 1 rfl) ?_
  refine lv_iload hx hb dX3_freeze_39 (lv_at hl 0 rfl) ?_
  refine call_V (As := [.int 4, .int (mn (((n - (mn n (g (16 + 4 * d)))) - (mn (n - (mn n (g (16 + 4 * d)))) (g (17 + 4 * d)))) - (mn ((n - (mn n (g (16 + 4 * d)))) - (mn (n - (mn n (g (16 + 4 * d)))) (g (17 + 4 * d)))) (g (18 + 4 * d)))) (g (19 + 4 * d)))]) (rest := []) (fun X => X) Fr_id cx (c_X4_add_4 l G ad _ (t := 8 + d) (i := 35 + 4 * d) (by omega) (by omega) (by omega) (mn (((n - (mn n (g (16 + 4 * d)))) - (mn (n - (mn n (g (16 + 4 * d)))) (g (17 + 4 * d)))) - (mn ((n - (mn n (g (16 + 4 * d)))) - (mn (n - (mn n (g (16 + 4 * d)))) (g (17 + 4 * d)))) (g (18 + 4 * d)))) (g (19 + 4 * d)))) fx_X4_add m_491 m_362 m_363 ⟨by decide, by decide⟩ wo (at_stuff G _ _ (t := 8 + d) (by omega) (by omega)) rfl rfl rfl hl.1 rfl (Nat.le_of_ble_eq_true rfl) dX3_freeze_41 ⟨by decide, by decide⟩ (fun v W1 H locs hp wo => ?_)
  obtain ⟨rfl, rfl⟩ := hp
  rw [show (upd (upd (upd (upd (upd (upd (upd (upd g (16 + 4 * d) ((g (16 + 4 * d)) + (-(mn n (g (16 + 4 * d)))))) (32 + 4 * d) ((g (32 + 4 * d)) + (mn n (g (16 + 4 * d))))) (17 + 4 * d) ((g (17 + 4 * d)) + (-(mn (n - (mn n (g (16 + 4 * d)))) (g (17 + 4 * d)))))) (33 + 4 * d) ((g (33 + 4 * d)) + (mn (n - (mn n (g (16 + 4 * d)))) (g (17 + 4 * d))))) (18 + 4 * d) ((g (18 + 4 * d)) + (-(mn ((n - (mn n (g (16 + 4 * d)))) - (mn (n - (mn n (g (16 + 4 * d)))) (g (17 + 4 * d)))) (g (18 + 4 * d)))))) (34 + 4 * d) ((g (34 + 4 * d)) + (mn ((n - (mn n (g (16 + 4 * d)))) - (mn (n - (mn n (g (16 + 4 * d)))) (g (17 + 4 * d)))) (g (18 + 4 * d))))) (19 + 4 * d) ((g (19 + 4 * d)) + (-(mn (((n - (mn n (g (16 + 4 * d)))) - (mn (n - (mn n (g (16 + 4 * d)))) (g (17 + 4 * d)))) - (mn ((n - (mn n (g (16 + 4 * d)))) - (mn (n - (mn n (g (16 + 4 * d)))) (g (17 + 4 * d)))) (g (18 + 4 * d)))) (g (19 + 4 * d)))))) (35 + 4 * d) ((upd (upd (upd (upd (upd (upd (upd g (16 + 4 * d) ((g (16 + 4 * d)) + (-(mn n (g (16 + 4 * d)))))) (32 + 4 * d) ((g (32 + 4 * d)) + (mn n (g (16 + 4 * d))))) (17 + 4 * d) ((g (17 + 4 * d)) + (-(mn (n - (mn n (g (16 + 4 * d)))) (g (17 + 4 * d)))))) (33 + 4 * d) ((g (33 + 4 * d)) + (mn (n - (mn n (g (16 + 4 * d)))) (g (17 + 4 * d))))) (18 + 4 * d) ((g (18 + 4 * d)) + (-(mn ((n - (mn n (g (16 + 4 * d)))) - (mn (n - (mn n (g (16 + 4 * d)))) (g (17 + 4 * d)))) (g (18 + 4 * d)))))) (34 + 4 * d) ((g (34 + 4 * d)) + (mn ((n - (mn n (g (16 + 4 * d)))) - (mn (n - (mn n (g (16 + 4 * d)))) (g (17 + 4 * d)))) (g (18 + 4 * d))))) (19 + 4 * d) ((g (19 + 4 * d)) + (-(mn (((n - (mn n (g (16 + 4 * d)))) - (mn (n - (mn n (g (16 + 4 * d)))) (g (17 + 4 * d)))) - (mn ((n - (mn n (g (16 + 4 * d)))) - (mn (n - (mn n (g (16 + 4 * d)))) (g (17 + 4 * d)))) (g (18 + 4 * d)))) (g (19 + 4 * d)))))) (35 + 4 * d) + (mn (((n - (mn n (g (16 + 4 * d)))) - (mn (n - (mn n (g (16 + 4 * d)))) (g (17 + 4 * d)))) - (mn ((n - (mn n (g (16 + 4 * d)))) - (mn (n - (mn n (g (16 + 4 * d)))) (g (17 + 4 * d)))) (g (18 + 4 * d)))) (g (19 + 4 * d))))) = (upd (upd (upd (upd (upd (upd (upd (upd g (16 + 4 * d) ((g (16 + 4 * d)) + (-(mn n (g (16 + 4 * d)))))) (32 + 4 * d) ((g (32 + 4 * d)) + (mn n (g (16 + 4 * d))))) (17 + 4 * d) ((g (17 + 4 * d)) + (-(mn (n - (mn n (g (16 + 4 * d)))) (g (17 + 4 * d)))))) (33 + 4 * d) ((g (33 + 4 * d)) + (mn (n - (mn n (g (16 + 4 * d)))) (g (17 + 4 * d))))) (18 + 4 * d) ((g (18 + 4 * d)) + (-(mn ((n - (mn n (g (16 + 4 * d)))) - (mn (n - (mn n (g (16 + 4 * d)))) (g (17 + 4 * d)))) (g (18 + 4 * d)))))) (34 + 4 * d) ((g (34 + 4 * d)) + (mn ((n - (mn n (g (16 + 4 * d)))) - (mn (n - (mn n (g (16 + 4 * d)))) (g (17 + 4 * d)))) (g (18 + 4 * d))))) (19 + 4 * d) ((g (19 + 4 * d)) + (-(mn (((n - (mn n (g (16 + 4 * d)))) - (mn (n - (mn n (g (16 + 4 * d)))) (g (17 + 4 * d)))) - (mn ((n - (mn n (g (16 + 4 * d)))) - (mn (n - (mn n (g (16 + 4 * d)))) (g (17 + 4 * d)))) (g (18 + 4 * d)))) (g (19 + 4 * d)))))) (35 + 4 * d) ((g (35 + 4 * d)) + (mn (((n - (mn n (g (16 + 4 * d)))) - (mn (n - (mn n (g (16 + 4 * d)))) (g (17 + 4 * d)))) - (mn ((n - (mn n (g (16 + 4 * d)))) - (mn (n - (mn n (g (16 + 4 * d)))) (g (17 + 4 * d)))) (g (18 + 4 * d)))) (g (19 + 4 * d))))) from by simp (disch := omega) only [pk_un, pk_us]] at wo
  refine nrm_v ?_
  refine lv_iload_n hx hb dX3_freeze_44 rfl (lv_at hl 2 rfl) ?_
  refine lv_iload hx hb dX3_freeze_45 (lv_at hl 0 rfl) ?_
  refine lv_isub hx hb dX3_freeze_47 ?_
  refine lv_istore_n (lv' := [(2, .int ((((n - (mn n (g (16 + 4 * d)))) - (mn (n - (mn n (g (16 + 4 * d)))) (g (17 + 4 * d)))) - (mn ((n - (mn n (g (16 + 4 * d)))) - (mn (n - (mn n (g (16 + 4 * d)))) (g (17 + 4 * d)))) (g (18 + 4 * d)))) - (mn (((n - (mn n (g (16 + 4 * d)))) - (mn (n - (mn n (g (16 + 4 * d)))) (g (17 + 4 * d)))) - (mn ((n - (mn n (g (16 + 4 * d)))) - (mn (n - (mn n (g (16 + 4 * d)))) (g (17 + 4 * d)))) (g (18 + 4 * d)))) (g (19 + 4 * d))))), (4, .int (mn (((n - (mn n (g (16 + 4 * d)))) - (mn (n - (mn n (g (16 + 4 * d)))) (g (17 + 4 * d)))) - (mn ((n - (mn n (g (16 + 4 * d)))) - (mn (n - (mn n (g (16 + 4 * d)))) (g (17 + 4 * d)))) (g (18 + 4 * d)))) (g (19 + 4 * d)))), (3, .int 4), (0, .ref (ad (22 + d))), (1, .int n)]) hx hb dX3_freeze_48 rfl hl (by decide) rfl (fun ls hl => ?_)
  refine lv_iinc (v := 5) (lv' := [(3, .int 5), (2, .int ((((n - (mn n (g (16 + 4 * d)))) - (mn (n - (mn n (g (16 + 4 * d)))) (g (17 + 4 * d)))) - (mn ((n - (mn n (g (16 + 4 * d)))) - (mn (n - (mn n (g (16 + 4 * d)))) (g (17 + 4 * d)))) (g (18 + 4 * d)))) - (mn (((n - (mn n (g (16 + 4 * d)))) - (mn (n - (mn n (g (16 + 4 * d)))) (g (17 + 4 * d)))) - (mn ((n - (mn n (g (16 + 4 * d)))) - (mn (n - (mn n (g (16 + 4 * d)))) (g (17 + 4 * d)))) (g (18 + 4 * d)))) (g (19 + 4 * d))))), (4, .int (mn (((n - (mn n (g (16 + 4 * d)))) - (mn (n - (mn n (g (16 + 4 * d)))) (g (17 + 4 * d)))) - (mn ((n - (mn n (g (16 + 4 * d)))) - (mn (n - (mn n (g (16 + 4 * d)))) (g (17 + 4 * d)))) (g (18 + 4 * d)))) (g (19 + 4 * d)))), (0, .ref (ad (22 + d))), (1, .int n)]) hx hb dX3_freeze_49 hl (k := 2) rfl (by decide) (by decide) rfl (fun ls hl => ?_)
  refine lv_goto (tgt := 4) hx hb dX3_freeze_52 (by decide) ?_
  refine lv_iload_n hx hb dX3_freeze_4 rfl (lv_at hl 0 rfl) ?_
  refine lv_iconst (v := 4) hx hb dX3_freeze_5 (by decide) ?_
  refine lv_icmp_gt (tgt := 55) hx hb dX3_freeze_6 (by decide) (fun _ => ?_) (fun h => absurd (show ¬ _ from h) (by decide))
  exact r2_v cx hQ wo dX3_freeze_55 (by subst hM; exact ⟨rfl, rfl⟩)
