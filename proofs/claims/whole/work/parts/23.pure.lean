/-! the class's numbers g and the reference's numbers f: what ties them, what always holds of f -/
def Pl (i : Nat) : Prop := i < 48 ∨ (52 ≤ i ∧ i < 92) ∨ (96 ≤ i ∧ i < 102) ∨ (104 ≤ i ∧ i < 108) ∨ i = 140 ∨ (142 ≤ i ∧ i ≤ 146) ∨ i = 148 ∨ i = 149
def cv (x : Int32) : Int32 := if x < 0 then (-4) else x
def RG (f g : St) : Prop := (∀ i, Pl i → g i = f i) ∧ (∀ d, d < 4 → g (92 + d) = cv (f (92 + d))) ∧ g 48 = f 48 - 5 * f 143 ∧ (∀ r k, r < 2 → k < (f (104 + r)).toNatClampNeg → g (108 + 16 * r + 2 * k) = f (108 + 16 * r + 2 * k) ∧ g (109 + 16 * r + 2 * k) = f (109 + 16 * r + 2 * k))
/-- amounts -/
def Ia (f : St) : Prop := (∀ i, i < 48 → 0 ≤ (f i).toInt) ∧ (f 0).toInt + (f 1).toInt + (f 2).toInt + (f 3).toInt ≤ 600 ∧ (∀ v, v < 3 → (f (4 + 4 * v)).toInt + (f (5 + 4 * v)).toInt + (f (6 + 4 * v)).toInt + (f (7 + 4 * v)).toInt ≤ 300) ∧ (∀ d, d < 4 → (f (32 + 4 * d)).toInt + (f (33 + 4 * d)).toInt + (f (34 + 4 * d)).toInt + (f (35 + 4 * d)).toInt ≤ 20 ∧ (f (16 + 4 * d)).toInt + (f (17 + 4 * d)).toInt + (f (18 + 4 * d)).toInt + (f (19 + 4 * d)).toInt + (f (32 + 4 * d)).toInt + (f (33 + 4 * d)).toInt + (f (34 + 4 * d)).toInt + (f (35 + 4 * d)).toInt ≤ 100)
/-- sorts -/
def Is (f : St) : Prop := ∀ d, d < 4 → (f (96 + d) = 0 → f (16 + 4 * d) = 0 ∧ f (17 + 4 * d) = 0 ∧ f (18 + 4 * d) = 0 ∧ f (19 + 4 * d) = 0) ∧ (f (96 + d) = 3 → f (17 + 4 * d) = 0 ∧ f (18 + 4 * d) = 0 ∧ f (19 + 4 * d) = 0)
/-- who carries what, and where -/
def Ic (f : St) : Prop := (∀ d, d < 4 → f (92 + d) = -1 ∨ f (92 + d) = 0 ∨ f (92 + d) = 1) ∧ (∀ r, r < 2 → f (102 + r) = -1 ∨ ∃ d, d < 4 ∧ f (102 + r) = nI d) ∧ (∀ r d, r < 2 → d < 4 → (f (102 + r) = nI d ↔ f (92 + d) = nI r)) ∧ (∀ r d, r < 2 → d < 4 → f (92 + d) = nI r → f (88 + d) = f (100 + r))
/-- orders -/
def Io (f : St) : Prop := (∀ r, r < 2 → ∃ n, n ≤ 8 ∧ f (104 + r) = nI n) ∧ (∀ r k, r < 2 → k < (f (104 + r)).toNatClampNeg → ∃ w, w ≤ 7 ∧ f (108 + 16 * r + 2 * k) = nI w)
/-- the rest -/
def Ir (f : St) : Prop := (∀ i, i = 79 ∨ i = 80 ∨ i = 81 ∨ i = 149 → f i = 0 ∨ f i = 1) ∧ f 49 = 0 ∧ f 50 = 0 ∧ f 51 = 0 ∧ f 141 = f 70
def Iv (f : St) : Prop := Ia f ∧ Is f ∧ Ic f ∧ Io f ∧ Ir f
def RI (f g : St) : Prop := RG f g ∧ Iv f
theorem RI.p {f g : St} (H : RI f g) : ∀ i, (i < 48 ∨ (52 ≤ i ∧ i < 92) ∨ (96 ≤ i ∧ i < 102) ∨ (104 ≤ i ∧ i < 108) ∨ i = 140 ∨ (142 ≤ i ∧ i ≤ 146) ∨ i = 148 ∨ i = 149) → g i = f i := H.1.1
theorem in_or (x : Int32) (lo hi : Nat) (hk : hi + 1 < 2 ^ 31 := by decide) (hlo : lo ≤ hi := by decide) : (m_X7_in x (nI lo) (nI hi) = true ∧ ∃ k, lo ≤ k ∧ k ≤ hi ∧ x = nI k) ∨ (¬ m_X7_in x (nI lo) (nI hi) = true ∧ ∀ k, lo ≤ k → k ≤ hi → x ≠ nI k) := by
  by_cases h : m_X7_in x (nI lo) (nI hi) = true
  · exact Or.inl ⟨h, _, (inb h hk hlo).2.1, (inb h hk hlo).2.2, (inb h hk hlo).1⟩
  · refine Or.inr ⟨h, fun k h1 h2 e => h ?_⟩
    subst e
    unfold m_X7_in
    rw [if_neg (nI_nlt h1 (by omega)), if_neg (nI_nlt h2 (by omega))]
theorem cnum (g : St) (x : Int32) : (m_X7_in x 0 1 = true ∧ ∃ r, r < 2 ∧ x = nI r ∧ m_X0_craneNumbered g x = some r) ∨ (¬ m_X7_in x 0 1 = true ∧ m_X0_craneNumbered g x = none) := by
  rcases in_or x 0 1 with ⟨h, k, h1, h2, rfl⟩ | ⟨h, hk⟩
  · refine Or.inl ⟨h, k, by omega, rfl, ?_⟩
    obtain rfl | rfl : k = 0 ∨ k = 1 := by omega
    · rfl
    · rfl
  · refine Or.inr ⟨h, ?_⟩
    unfold m_X0_craneNumbered
    rw [if_neg (show ¬ x = 0 from hk 0 (by decide) (by decide)), if_neg (show ¬ x = 1 from hk 1 (by decide) (by decide))]
theorem vnum (g : St) (x : Int32) : (m_X7_in x 0 2 = true ∧ ∃ v, v < 3 ∧ x = nI v ∧ m_X0_vesselNumbered g x = some v) ∨ (¬ m_X7_in x 0 2 = true ∧ m_X0_vesselNumbered g x = none) := by
  rcases in_or x 0 2 with ⟨h, k, h1, h2, rfl⟩ | ⟨h, hk⟩
  · refine Or.inl ⟨h, k, by omega, rfl, ?_⟩
    unfold m_X0_vesselNumbered
    rw [if_pos (show m_X6_isBetween 0 (nI k) 2 = true from h), nI_clamp (by omega)]
  · refine Or.inr ⟨h, ?_⟩
    unfold m_X0_vesselNumbered
    rw [if_neg (show ¬ m_X6_isBetween 0 x 2 = true from h)]
theorem lnum (g : St) (x : Int32) : (m_X7_in x 0 3 = true ∧ ∃ d, d < 4 ∧ x = nI d ∧ m_X0_ladleNumbered g x = some d) ∨ (¬ m_X7_in x 0 3 = true ∧ m_X0_ladleNumbered g x = none) := by
  rcases in_or x 0 3 with ⟨h, k, h1, h2, rfl⟩ | ⟨h, hk⟩
  · refine Or.inl ⟨h, k, by omega, rfl, ?_⟩
    unfold m_X0_ladleNumbered
    rw [if_pos (show m_X6_isBetween 0 (nI k) 3 = true from h), nI_clamp (by omega)]
  · refine Or.inr ⟨h, ?_⟩
    unfold m_X0_ladleNumbered
    rw [if_neg (show ¬ m_X6_isBetween 0 x 3 = true from h)]
theorem oneIf_b {x : Int32} (h : x = 0 ∨ x = 1) : m_X6_oneIf x = x := by rcases h with rfl | rfl <;> rfl
theorem L_bool {f g : St} (H : RI f g) : ∀ i, i = 79 ∨ i = 80 ∨ i = 81 ∨ i = 149 → g i = 0 ∨ g i = 1 := by
  intro i hi
  rw [H.p i (by omega)]
  exact H.2.2.2.2.2.1 i hi
theorem RG_pl {f g : St} (H : RG f g) {i : Nat} (hi : Pl i) (h1 : i ≠ 143) (h2 : i ≠ 104) (h3 : i ≠ 105) (x : Int32) : RG (upd f i x) (upd g i x) := by
  obtain ⟨a, b, c, d⟩ := H
  unfold Pl at hi
  refine ⟨fun j hj => ?_, fun e he => ?_, ?_, fun r k hr hk => ?_⟩
  · by_cases e : j = i
    · subst e; rw [pk_us, pk_us]
    · rw [pk_un e, pk_un e]; exact a j hj
  · rw [pk_un (by omega), pk_un (by omega)]; exact b e he
  · rw [pk_un (by omega), pk_un (by omega), pk_un (by omega)]; exact c
  · rw [pk_un (show 104 + r ≠ i by omega)] at hk
    have hb : k < 8 ∨ True := Or.inr trivial
    by_cases hx : 108 + 16 * r + 2 * k = i ∨ 109 + 16 * r + 2 * k = i
    · rcases hx with hx | hx
      · exact ⟨by rw [hx, pk_us, pk_us], by
          by_cases h9 : 109 + 16 * r + 2 * k = i
          · rw [h9, pk_us, pk_us]
          · rw [pk_un h9, pk_un h9]; exact (d r k hr hk).2⟩
      · exact ⟨by
          by_cases h9 : 108 + 16 * r + 2 * k = i
          · rw [h9, pk_us, pk_us]
          · rw [pk_un h9, pk_un h9]; exact (d r k hr hk).1, by rw [hx, pk_us, pk_us]⟩
    · rw [pk_un (by omega), pk_un (by omega), pk_un (by omega), pk_un (by omega)]; exact d r k hr hk
/-- the numbers that the invariant doesn't speak of -/
def Fre (i : Nat) : Prop := i = 48 ∨ (52 ≤ i ∧ i ≤ 69) ∨ (71 ≤ i ∧ i ≤ 78) ∨ (82 ≤ i ∧ i ≤ 87) ∨ i = 106 ∨ i = 107 ∨ i = 140 ∨ (142 ≤ i ∧ i ≤ 148)
theorem cnt8 {f : St} (H : Io f) {r : Nat} (hr : r < 2) : (f (104 + r)).toNatClampNeg ≤ 8 := by
  obtain ⟨n, h1, h2⟩ := H.1 r hr
  rw [h2, nI_clamp (by omega)]; exact h1
theorem Iv_fre {f : St} (H : Iv f) {i : Nat} (hi : Fre i) (x : Int32) : Iv (upd f i x) := by
  obtain ⟨⟨a1, a2, a3, a4⟩, s, ⟨c1, c2, c3, c4⟩, hIo, ⟨r1, r2, r3, r4, r5⟩⟩ := H
  obtain ⟨o1, o2⟩ := id hIo
  unfold Fre at hi
  have e : ∀ j, j < 48 → upd f i x j = f j := fun j hj => pk_un (by omega)
  refine ⟨⟨fun j hj => by rw [e j hj]; exact a1 j hj, ?_, fun v hv => ?_, fun d hd => ?_⟩, fun d hd => ?_, ⟨fun d hd => ?_, fun r hr => ?_, fun r d hr hd => ?_, fun r d hr hd => ?_⟩, ⟨fun r hr => ?_, fun r k hr hk => ?_⟩, ⟨fun j hj => ?_, ?_, ?_, ?_, ?_⟩⟩
  · simp (disch := omega) only [e]; exact a2
  · simp (disch := omega) only [e]; exact a3 v hv
  · simp (disch := omega) only [e]; exact a4 d hd
  · simp (disch := omega) only [e, pk_un]; exact s d hd
  · simp (disch := omega) only [pk_un]; exact c1 d hd
  · simp (disch := omega) only [pk_un]; exact c2 r hr
  · simp (disch := omega) only [pk_un]; exact c3 r d hr hd
  · simp (disch := omega) only [pk_un]; exact c4 r d hr hd
  · simp (disch := omega) only [pk_un]; exact o1 r hr
  · rw [pk_un (by omega)] at hk
    have := cnt8 hIo hr
    rw [pk_un (by omega)]; exact o2 r k hr hk
  · rw [pk_un (by omega)]; exact r1 j hj
  · rw [pk_un (by omega)]; exact r2
  · rw [pk_un (by omega)]; exact r3
  · rw [pk_un (by omega)]; exact r4
  · rw [pk_un (by omega), pk_un (by omega)]; exact r5
theorem Iv_bit {f : St} (H : Iv f) {i : Nat} (hi : i = 79 ∨ i = 80 ∨ i = 81 ∨ i = 149) {x : Int32} (hx : x = 0 ∨ x = 1) : Iv (upd f i x) := by
  obtain ⟨⟨a1, a2, a3, a4⟩, s, ⟨c1, c2, c3, c4⟩, hIo, ⟨r1, r2, r3, r4, r5⟩⟩ := H
  obtain ⟨o1, o2⟩ := id hIo
  have e : ∀ j, j < 48 → upd f i x j = f j := fun j hj => pk_un (by omega)
  refine ⟨⟨fun j hj => by rw [e j hj]; exact a1 j hj, ?_, fun v hv => ?_, fun d hd => ?_⟩, fun d hd => ?_, ⟨fun d hd => ?_, fun r hr => ?_, fun r d hr hd => ?_, fun r d hr hd => ?_⟩, ⟨fun r hr => ?_, fun r k hr hk => ?_⟩, ⟨fun j hj => ?_, ?_, ?_, ?_, ?_⟩⟩
  · simp (disch := omega) only [e]; exact a2
  · simp (disch := omega) only [e]; exact a3 v hv
  · simp (disch := omega) only [e]; exact a4 d hd
  · simp (disch := omega) only [e, pk_un]; exact s d hd
  · simp (disch := omega) only [pk_un]; exact c1 d hd
  · simp (disch := omega) only [pk_un]; exact c2 r hr
  · simp (disch := omega) only [pk_un]; exact c3 r d hr hd
  · simp (disch := omega) only [pk_un]; exact c4 r d hr hd
  · simp (disch := omega) only [pk_un]; exact o1 r hr
  · rw [pk_un (by omega)] at hk
    have := cnt8 hIo hr
    rw [pk_un (by omega)]; exact o2 r k hr hk
  · by_cases q : j = i
    · subst q; rw [pk_us]; exact hx
    · rw [pk_un q]; exact r1 j hj
  · rw [pk_un (by omega)]; exact r2
  · rw [pk_un (by omega)]; exact r3
  · rw [pk_un (by omega)]; exact r4
  · rw [pk_un (by omega), pk_un (by omega)]; exact r5
theorem L_cong {f f' g : St} (h : ∀ i, i < 150 → f' i = f i) (H : RI f g) : RI f' g := by
  obtain ⟨⟨g1, g2, g3, g4⟩, ⟨a1, a2, a3, a4⟩, s, ⟨c1, c2, c3, c4⟩, hIo, ⟨r1, r2, r3, r4, r5⟩⟩ := H
  obtain ⟨o1, o2⟩ := id hIo
  refine ⟨⟨fun i hi => ?_, fun d hd => ?_, ?_, fun r k hr hk => ?_⟩, ⟨fun j hj => ?_, ?_, fun v hv => ?_, fun d hd => ?_⟩, fun d hd => ?_, ⟨fun d hd => ?_, fun r hr => ?_, fun r d hr hd => ?_, fun r d hr hd => ?_⟩, ⟨fun r hr => ?_, fun r k hr hk => ?_⟩, ⟨fun j hj => ?_, ?_, ?_, ?_, ?_⟩⟩
  · rw [h i (by unfold Pl at hi; omega)]; exact g1 i hi
  · rw [h _ (by omega)]; exact g2 d hd
  · rw [h 48 (by omega), h 143 (by omega)]; exact g3
  · rw [h _ (by omega)] at hk
    have := cnt8 hIo hr
    rw [h _ (by omega), h _ (by omega)]; exact g4 r k hr hk
  · rw [h _ (by omega)]; exact a1 j hj
  · simp (disch := omega) only [h]; exact a2
  · simp (disch := omega) only [h]; exact a3 v hv
  · simp (disch := omega) only [h]; exact a4 d hd
  · simp (disch := omega) only [h]; exact s d hd
  · simp (disch := omega) only [h]; exact c1 d hd
  · simp (disch := omega) only [h]; exact c2 r hr
  · simp (disch := omega) only [h]; exact c3 r d hr hd
  · simp (disch := omega) only [h]; exact c4 r d hr hd
  · simp (disch := omega) only [h]; exact o1 r hr
  · rw [h _ (by omega)] at hk
    have := cnt8 hIo hr
    rw [h _ (by omega)]; exact o2 r k hr hk
  · rw [h _ (by omega)]; exact r1 j hj
  · rw [h _ (by omega)]; exact r2
  · rw [h _ (by omega)]; exact r3
  · rw [h _ (by omega)]; exact r4
  · rw [h _ (by omega), h _ (by omega)]; exact r5
theorem L_fed {f g : St} (H : RI f g) {x : Int32} (hx : x = 0 ∨ x = 1) : (m_X6_fed g x).1 = (m_X7_fed f x).1 ∧ RI (m_X7_fed f x).2 (m_X6_fed g x).2 := by
  unfold m_X6_fed m_X7_fed
  have hb := H.2.2.2.2.2.1 149 (by omega)
  rw [H.p 149 (by omega)]
  refine ⟨?_, ?_⟩
  · rcases hx with rfl | rfl
    · rw [if_pos rfl]; exact oneIf_b hb
    · rw [if_neg (by decide)]; exact oneIf_b hb
  · rcases hx with rfl | rfl
    · rw [if_pos rfl]; exact ⟨RG_pl H.1 (by unfold Pl; omega) (by decide) (by decide) (by decide) 0, Iv_bit H.2 (by omega) (by simp)⟩
    · rw [if_neg (by decide)]; exact ⟨RG_pl H.1 (by unfold Pl; omega) (by decide) (by decide) (by decide) 1, Iv_bit H.2 (by omega) (by simp)⟩
theorem L_limit {f g : St} (H : RI f g) (x : Int32) : (m_X6_limit g x).1 = (m_X7_limit f x).1 ∧ RI (m_X7_limit f x).2 (m_X6_limit g x).2 := by
  unfold m_X6_limit m_X7_limit
  rcases in_or x 0 30 with ⟨h, k, h1, h2, rfl⟩ | ⟨h, hk⟩
  · rw [if_pos (show m_X6_isBetween 0 (nI k) 30 = true from h), if_pos (show m_X7_in (nI k) 0 30 = true from h), nI_clamp (by omega), H.p 148 (by omega)]
    exact ⟨rfl, RG_pl H.1 (by unfold Pl; omega) (by decide) (by decide) (by decide) _, Iv_fre H.2 (by unfold Fre; omega) _⟩
  · rw [if_neg (show ¬ m_X6_isBetween 0 x 30 = true from h), if_neg (show ¬ m_X7_in x 0 30 = true from h)]
    exact ⟨rfl, H⟩
theorem all_sum {f g : St} (H : RI f g) {t a : Nat} (h : 4 * t = a) (ha : a < 45) : m_X4_all g t = m_X7_sum f a := by
  subst h
  unfold m_X4_all m_X7_sum
  rw [H.p _ (by omega), H.p _ (by omega), H.p _ (by omega), H.p _ (by omega)]
theorem L_blow {f g : St} (H : RI f g) (x : Int32) {y : Int32} (hy : y = 0 ∨ y = 1) : (m_X6_blow g x y).1 = (m_X7_blow f x y).1 ∧ RI (m_X7_blow f x y).2 (m_X6_blow g x y).2 := by
  unfold m_X6_blow m_X7_blow
  rcases vnum g x with ⟨h, v, hv, rfl, e⟩ | ⟨h, e⟩
  · simp only [e, Option.isSome_some, Option.getD_some, if_true, if_pos h]
    rw [nI_clamp (by omega), H.p (79 + v) (by omega), all_sum H (t := 1 + v) (a := 4 + 4 * v) (by omega) (by omega)]
    have hb := H.2.2.2.2.2.1 (79 + v) (by omega)
    have hR : ∀ z : Int32, z = 0 ∨ z = 1 → RI (upd f (79 + v) z) (upd g (79 + v) z) := fun z hz => ⟨RG_pl H.1 (by unfold Pl; omega) (by omega) (by omega) (by omega) z, Iv_bit H.2 (by omega) hz⟩
    rcases hy with rfl | rfl
    · rw [if_pos rfl, if_pos rfl]; exact ⟨oneIf_b hb, hR 0 (Or.inl rfl)⟩
    · have h10 : ¬ (1 : Int32) = 0 := by decide
      rw [if_neg h10, if_neg h10]
      by_cases c : m_X7_sum f (4 + 4 * v) = 0
      · rw [if_pos c, if_pos c]; exact ⟨rfl, H⟩
      · rw [if_neg c, if_neg c]; exact ⟨oneIf_b hb, hR 1 (Or.inr rfl)⟩
  · simp only [e, Option.isSome_none, if_neg h]
    exact ⟨rfl, H⟩
theorem L_ordq {f g : St} (H : RI f g) : ∀ r, r < 2 → f (104 + r) = nI (f (104 + r)).toNatClampNeg ∧ (f (104 + r)).toNatClampNeg ≤ 8 := by
  intro r hr
  obtain ⟨n, h1, h2⟩ := H.2.2.2.2.1.1 r hr
  rw [h2, nI_clamp (by omega)]
  exact ⟨rfl, h1⟩
theorem addT {x y : Int32} (h : -2147483648 ≤ x.toInt + y.toInt) (h2 : x.toInt + y.toInt < 2147483648) : (x + y).toInt = x.toInt + y.toInt := by
  rw [Int32.toInt_add, Int.bmod_eq_of_le (by omega) (by omega)]
theorem subT {x y : Int32} (h : -2147483648 ≤ x.toInt - y.toInt) (h2 : x.toInt - y.toInt < 2147483648) : (x - y).toInt = x.toInt - y.toInt := by
  rw [Int32.toInt_sub, Int.bmod_eq_of_le (by omega) (by omega)]
theorem T0 : (0 : Int32).toInt = 0 := rfl
theorem eqT {x y : Int32} : x = y ↔ x.toInt = y.toInt := Int32.toInt_inj.symm
theorem leT {x y : Int32} : x ≤ y ↔ x.toInt ≤ y.toInt := Int32.le_iff_toInt_le
theorem ltT {x y : Int32} : x < y ↔ x.toInt < y.toInt := Int32.lt_iff_toInt_lt
theorem sumT {f : St} {a : Nat} {x0 x1 x2 x3 : Int32} (e0 : f a = x0) (e1 : f (1 + a) = x1) (e2 : f (2 + a) = x2) (e3 : f (3 + a) = x3) (h0 : 0 ≤ x0.toInt) (h1 : 0 ≤ x1.toInt) (h2 : 0 ≤ x2.toInt) (h3 : 0 ≤ x3.toInt) (hs : x0.toInt + x1.toInt + x2.toInt + x3.toInt ≤ 1000) : (m_X7_sum f a).toInt = x0.toInt + x1.toInt + x2.toInt + x3.toInt := by
  unfold m_X7_sum
  rw [e0, e1, e2, e3, addT, addT, addT] <;> (try rw [addT]) <;> (try rw [addT]) <;> omega
theorem fx {f : St} {i j : Nat} (h : i = j) : f i = f j := by rw [h]
theorem sumF {f : St} (H : Ia f) : (m_X7_sum f 0).toInt = (f 0).toInt + (f 1).toInt + (f 2).toInt + (f 3).toInt ∧ 0 ≤ (m_X7_sum f 0).toInt ∧ (m_X7_sum f 0).toInt ≤ 600 := by
  have e := sumT (f := f) (a := 0) (x0 := f 0) (x1 := f 1) (x2 := f 2) (x3 := f 3) rfl rfl rfl rfl (H.1 _ (by omega)) (H.1 _ (by omega)) (H.1 _ (by omega)) (H.1 _ (by omega)) (by have := H.2.1; omega)
  have := H.1 0 (by omega); have := H.1 1 (by omega); have := H.1 2 (by omega); have := H.1 3 (by omega); have := H.2.1
  omega
theorem sumV {f : St} (H : Ia f) {v : Nat} (hv : v < 3) : (m_X7_sum f (4 + 4 * v)).toInt = (f (4 + 4 * v)).toInt + (f (5 + 4 * v)).toInt + (f (6 + 4 * v)).toInt + (f (7 + 4 * v)).toInt ∧ 0 ≤ (m_X7_sum f (4 + 4 * v)).toInt ∧ (m_X7_sum f (4 + 4 * v)).toInt ≤ 300 := by
  have h5 := H.2.2.1 v hv
  have e := sumT (f := f) (a := 4 + 4 * v) rfl (fx (j := 5 + 4 * v) (by omega)) (fx (j := 6 + 4 * v) (by omega)) (fx (j := 7 + 4 * v) (by omega)) (H.1 _ (by omega)) (H.1 _ (by omega)) (H.1 _ (by omega)) (H.1 _ (by omega)) (by omega)
  have := H.1 (4 + 4 * v) (by omega); have := H.1 (5 + 4 * v) (by omega); have := H.1 (6 + 4 * v) (by omega); have := H.1 (7 + 4 * v) (by omega)
  omega
theorem sumL {f : St} (H : Ia f) {d : Nat} (hd : d < 4) : (m_X7_sum f (16 + 4 * d)).toInt = (f (16 + 4 * d)).toInt + (f (17 + 4 * d)).toInt + (f (18 + 4 * d)).toInt + (f (19 + 4 * d)).toInt ∧ (m_X7_sum f (32 + 4 * d)).toInt = (f (32 + 4 * d)).toInt + (f (33 + 4 * d)).toInt + (f (34 + 4 * d)).toInt + (f (35 + 4 * d)).toInt ∧ 0 ≤ (m_X7_sum f (16 + 4 * d)).toInt ∧ 0 ≤ (m_X7_sum f (32 + 4 * d)).toInt ∧ (m_X7_sum f (32 + 4 * d)).toInt ≤ 20 ∧ (m_X7_sum f (16 + 4 * d)).toInt + (m_X7_sum f (32 + 4 * d)).toInt ≤ 100 := by
  obtain ⟨h5, h6⟩ := H.2.2.2 d hd
  have := H.1 (16 + 4 * d) (by omega); have := H.1 (17 + 4 * d) (by omega); have := H.1 (18 + 4 * d) (by omega); have := H.1 (19 + 4 * d) (by omega)
  have := H.1 (32 + 4 * d) (by omega); have := H.1 (33 + 4 * d) (by omega); have := H.1 (34 + 4 * d) (by omega); have := H.1 (35 + 4 * d) (by omega)
  have e := sumT (f := f) (a := 16 + 4 * d) rfl (fx (j := 17 + 4 * d) (by omega)) (fx (j := 18 + 4 * d) (by omega)) (fx (j := 19 + 4 * d) (by omega)) (H.1 _ (by omega)) (H.1 _ (by omega)) (H.1 _ (by omega)) (H.1 _ (by omega)) (by omega)
  have e2 := sumT (f := f) (a := 32 + 4 * d) rfl (fx (j := 33 + 4 * d) (by omega)) (fx (j := 34 + 4 * d) (by omega)) (fx (j := 35 + 4 * d) (by omega)) (H.1 _ (by omega)) (H.1 _ (by omega)) (H.1 _ (by omega)) (H.1 _ (by omega)) (by omega)
  omega
theorem roomT {f : St} (H : Ia f) {d : Nat} (hd : d < 4) : (m_X7_room f d).toInt = 100 - (m_X7_sum f (32 + 4 * d)).toInt - (m_X7_sum f (16 + 4 * d)).toInt := by
  obtain ⟨_, _, h1, h2, h3, h4⟩ := sumL H hd
  unfold m_X7_room
  have e1 : ((100 : Int32) - m_X7_sum f (32 + 4 * d)).toInt = 100 - (m_X7_sum f (32 + 4 * d)).toInt := by
    rw [subT] <;> rw [show (100 : Int32).toInt = 100 from rfl] <;> omega
  rw [subT] <;> rw [e1] <;> omega
theorem L_coldz {f g : St} (H : RI f g) : ∀ v k, v < 3 → 1 ≤ k → k ≤ 50 → ¬ m_X7_sum f (4 + 4 * v) = 0 → m_X7_sum f (4 + 4 * v) + nI k ≤ 300 → ¬ m_X7_sum f (4 + 4 * v) + nI k = 0 := by
  intro v k hv h1 h2 _ _ h
  obtain ⟨_, a, b⟩ := sumV H.2.1 hv
  rw [eqT, addT, nI_toInt (by omega), T0] at h <;> (try rw [nI_toInt (by omega)]) <;> omega
theorem Iv_of {f f' : St} (h : ∀ i, 48 ≤ i → i < 150 → Fre i ∨ (96 ≤ i ∧ i < 100) ∨ i = 70 ∨ i = 141 ∨ f' i = f i) (ha : Ia f') (hs : Is f') (h5 : f' 141 = f' 70) (H : Iv f) : Iv f' := by
  obtain ⟨-, -, ⟨c1, c2, c3, c4⟩, hIo, ⟨r1, r2, r3, r4, r5⟩⟩ := H
  obtain ⟨o1, o2⟩ := id hIo
  have e : ∀ i, (i = 49 ∨ i = 50 ∨ i = 51 ∨ (79 ≤ i ∧ i ≤ 81) ∨ (88 ≤ i ∧ i < 96) ∨ (100 ≤ i ∧ i < 106) ∨ (108 ≤ i ∧ i < 140) ∨ i = 149) → f' i = f i := by
    intro i hi
    rcases h i (by omega) (by omega) with q | q | q | q | q
    · unfold Fre at q; omega
    · omega
    · omega
    · omega
    · exact q
  refine ⟨ha, hs, ⟨fun d hd => ?_, fun r hr => ?_, fun r d hr hd => ?_, fun r d hr hd => ?_⟩, ⟨fun r hr => ?_, fun r k hr hk => ?_⟩, ⟨fun j hj => ?_, ?_, ?_, ?_, h5⟩⟩
  · rw [e _ (by omega)]; exact c1 d hd
  · rw [e _ (by omega)]; exact c2 r hr
  · rw [e (102 + r) (by omega), e (92 + d) (by omega)]; exact c3 r d hr hd
  · rw [e (92 + d) (by omega), e (88 + d) (by omega), e (100 + r) (by omega)]; exact c4 r d hr hd
  · rw [e _ (by omega)]; exact o1 r hr
  · rw [e _ (by omega)] at hk
    have := cnt8 hIo hr
    rw [e _ (by omega)]; exact o2 r k hr hk
  · rw [e _ (by omega)]; exact r1 j hj
  · rw [e _ (by omega)]; exact r2
  · rw [e _ (by omega)]; exact r3
  · rw [e _ (by omega)]; exact r4
theorem L_cold {f g : St} (H : RI f g) (x y : Int32) : (m_X6_cold g x y).1 = (m_X7_cold f x y).1 ∧ RI (m_X7_cold f x y).2 (m_X6_cold g x y).2 := by
  unfold m_X6_cold m_X7_cold
  rcases vnum g x with ⟨h, v, hv, rfl, e⟩ | ⟨h, e⟩
  rotate_left
  · simp only [e, Option.isSome_none, if_neg h]
    exact ⟨rfl, H⟩
  simp only [e, Option.isSome_some, Option.getD_some, if_true, if_pos h]
  rcases in_or y 1 50 with ⟨h2, k, h3, h4, rfl⟩ | ⟨h2, hk⟩
  rotate_left
  · rw [if_neg (show ¬ m_X6_isBetween 1 y 50 = true from h2), if_neg (show ¬ m_X7_in y 1 50 = true from h2)]
    exact ⟨rfl, H⟩
  rw [if_pos (show m_X6_isBetween 1 (nI k) 50 = true from h2), if_pos (show m_X7_in (nI k) 1 50 = true from h2)]
  rw [nI_clamp (by omega), nI_clamp (by omega), all_sum H (t := 1 + v) (a := 4 + 4 * v) (by omega) (by omega)]
  by_cases c : m_X7_sum f (4 + 4 * v) = 0
  · rw [if_pos c, if_pos c]; exact ⟨rfl, H⟩
  rw [if_neg c, if_neg c]
  by_cases c2 : m_X7_sum f (4 + 4 * v) + nI k ≤ 300
  rotate_left
  · rw [if_neg c2, if_neg c2]; exact ⟨rfl, H⟩
  rw [if_pos c2, if_pos c2]
  obtain ⟨e1, a, b⟩ := sumV H.2.1 hv
  have hs : (m_X7_sum f (4 + 4 * v) + nI k).toInt = (m_X7_sum f (4 + 4 * v)).toInt + k := by
    rw [addT] <;> rw [nI_toInt (by omega)] <;> omega
  have hle : (m_X7_sum f (4 + 4 * v)).toInt + k ≤ 300 := by rw [leT, hs] at c2; exact c2
  have hm : m_X5_mixHeat g v 0 (nI k) = upd g (76 + v) (f (76 + v) * m_X7_sum f (4 + 4 * v) / (m_X7_sum f (4 + 4 * v) + nI k)) := by
    unfold m_X5_mixHeat
    rw [all_sum H (t := 1 + v) (a := 4 + 4 * v) (by omega) (by omega), if_neg (by rw [leT, nI_toInt (by omega), T0]; omega), if_neg (by rw [leT, hs, T0]; omega), H.p (76 + v) (by omega), Int32.zero_mul, Int32.add_zero]
  rw [hm]
  simp (disch := omega) only [pk_us, pk_un]
  rw [H.p (4 + 4 * v) (by omega), H.p 64 (by omega)]
  refine ⟨trivial, ?_, ?_⟩
  · exact RG_pl (RG_pl (RG_pl H.1 (by unfold Pl; omega) (by omega) (by omega) (by omega) _) (by unfold Pl; omega) (by omega) (by omega) (by omega) _) (by unfold Pl; omega) (by omega) (by omega) (by omega) _
  · have hk2 : (f (4 + 4 * v) + nI k).toInt = (f (4 + 4 * v)).toInt + k := by
      have := H.2.1.1 (4 + 4 * v) (by omega); have := H.2.1.1 (5 + 4 * v) (by omega); have := H.2.1.1 (6 + 4 * v) (by omega); have := H.2.1.1 (7 + 4 * v) (by omega)
      rw [addT] <;> rw [nI_toInt (by omega)] <;> omega
    refine Iv_of (f := f) (fun i h1 h2 => ?_) ⟨fun i hi => ?_, ?_, fun w hw => ?_, fun d hd => ?_⟩ (fun d hd => ?_) ?_ H.2
    · by_cases q : i = 64
      · left; unfold Fre; omega
      by_cases q2 : i = 76 + v
      · left; unfold Fre; omega
      right; right; right; right
      rw [pk_un (by omega), pk_un (by omega), pk_un (by omega)]
    · by_cases q : i = 4 + 4 * v
      · subst q
        rw [pk_un (by omega), pk_us, hk2]
        have := H.2.1.1 (4 + 4 * v) (by omega); omega
      · rw [pk_un (by omega), pk_un q, pk_un (by omega)]; exact H.2.1.1 i hi
    · simp (disch := omega) only [pk_un]; exact H.2.1.2.1
    · by_cases q : w = v
      · subst q
        simp (disch := omega) only [pk_un, pk_us]
        rw [hk2]; omega
      · simp (disch := omega) only [pk_un]; exact H.2.1.2.2.1 w hw
    · simp (disch := omega) only [pk_un]; exact H.2.1.2.2.2 d hd
    · simp (disch := omega) only [pk_un]; exact H.2.2.1 d hd
    · simp (disch := omega) only [pk_un]; exact H.2.2.2.2.2.2.2.2.2
theorem Iv_ord {f : St} (H : Iv f) {r n : Nat} (hr : r < 2) (hn : f (104 + r) = nI n) (h8 : n < 8) {w : Nat} (hw : w ≤ 7) (z : Int32) : Iv (upd (upd (upd f (108 + 16 * r + 2 * n) (nI w)) (109 + 16 * r + 2 * n) z) (104 + r) (nI (1 + n))) := by
  obtain ⟨⟨a1, a2, a3, a4⟩, s, ⟨c1, c2, c3, c4⟩, hIo, ⟨r1, r2, r3, r4, r5⟩⟩ := H
  obtain ⟨o1, o2⟩ := id hIo
  refine ⟨⟨fun j hj => ?_, ?_, fun v hv => ?_, fun d hd => ?_⟩, fun d hd => ?_, ⟨fun d hd => ?_, fun r hr => ?_, fun r d hr hd => ?_, fun r d hr hd => ?_⟩, ⟨fun r' hr' => ?_, fun r' k hr' hk => ?_⟩, ⟨fun j hj => ?_, ?_, ?_, ?_, ?_⟩⟩
  · simp (disch := omega) only [pk_un]; exact a1 j hj
  · simp (disch := omega) only [pk_un]; exact a2
  · simp (disch := omega) only [pk_un]; exact a3 v hv
  · simp (disch := omega) only [pk_un]; exact a4 d hd
  · simp (disch := omega) only [pk_un]; exact s d hd
  · simp (disch := omega) only [pk_un]; exact c1 d hd
  · simp (disch := omega) only [pk_un]; exact c2 r hr
  · simp (disch := omega) only [pk_un]; exact c3 r d hr hd
  · simp (disch := omega) only [pk_un]; exact c4 r d hr hd
  · by_cases q : r' = r
    · subst q; rw [pk_us]; exact ⟨1 + n, by omega, rfl⟩
    · simp (disch := omega) only [pk_un]; exact o1 r' hr'
  · by_cases q : r' = r
    · subst q
      rw [pk_us, nI_clamp (by omega)] at hk
      by_cases q2 : k = n
      · subst q2
        rw [pk_un (by omega), pk_un (by omega), pk_us]; exact ⟨w, hw, rfl⟩
      · rw [pk_un (by omega), pk_un (by omega), pk_un (by omega)]
        exact o2 r' k hr' (by rw [hn, nI_clamp (by omega)]; omega)
    · rw [pk_un (by omega), pk_un (by omega), pk_un (by omega)] at hk
      have := cnt8 hIo hr'
      rw [pk_un (by omega), pk_un (by omega), pk_un (by omega)]; exact o2 r' k hr' hk
  · simp (disch := omega) only [pk_un]; exact r1 j hj
  · simp (disch := omega) only [pk_un]; exact r2
  · simp (disch := omega) only [pk_un]; exact r3
  · simp (disch := omega) only [pk_un]; exact r4
  · simp (disch := omega) only [pk_un]; exact r5
theorem RG_ord {f g : St} (H : RI f g) {r n : Nat} (hr : r < 2) (hn : f (104 + r) = nI n) (h8 : n < 8) (y z : Int32) : RG (upd (upd (upd f (108 + 16 * r + 2 * n) y) (109 + 16 * r + 2 * n) z) (104 + r) (nI (1 + n))) (upd (upd (upd g (108 + 16 * r + 2 * n) y) (109 + 16 * r + 2 * n) z) (104 + r) (nI (1 + n))) := by
  have hIo := H.2.2.2.2.1
  obtain ⟨⟨a, b, c, d⟩, -⟩ := H
  refine ⟨fun j hj => ?_, fun e he => ?_, ?_, fun r' k hr' hk => ?_⟩
  · unfold Pl at hj
    by_cases q : j = 104 + r
    · subst q; rw [pk_us, pk_us]
    · rw [pk_un q, pk_un q, pk_un (by omega), pk_un (by omega), pk_un (by omega), pk_un (by omega)]; exact a j hj
  · simp (disch := omega) only [pk_un]; exact b e he
  · simp (disch := omega) only [pk_un]; exact c
  · by_cases q : r' = r
    · subst q
      rw [pk_us, nI_clamp (by omega)] at hk
      by_cases q2 : k = n
      · subst q2
        simp (disch := omega) only [pk_un, pk_us]; exact ⟨trivial, trivial⟩
      · simp (disch := omega) only [pk_un]
        exact d r' k hr' (by rw [hn, nI_clamp (by omega)]; omega)
    · rw [pk_un (by omega), pk_un (by omega), pk_un (by omega)] at hk
      have := cnt8 hIo hr'
      simp (disch := omega) only [pk_un]; exact d r' k hr' hk
theorem add_ord {f g : St} (H : RI f g) {r : Nat} (hr : r < 2) {w : Nat} (hw : w ≤ 7) (z : Int32) :
    ((if (m_X2_addOrder g r (nI w) z).1 = true then ((m_X2_addOrder g r (nI w) z).2 (104 + r), (m_X2_addOrder g r (nI w) z).2) else ((-3), (m_X2_addOrder g r (nI w) z).2)) : Int32 × St).1 = (if nI (f (104 + r)).toNatClampNeg = 8 then ((-3), f) else (nI (1 + (f (104 + r)).toNatClampNeg), upd (upd (upd f (108 + 16 * r + 2 * (f (104 + r)).toNatClampNeg) (nI w)) (109 + 16 * r + 2 * (f (104 + r)).toNatClampNeg) z) (104 + r) (nI (1 + (f (104 + r)).toNatClampNeg))) : Int32 × St).1 ∧
    RI ((if nI (f (104 + r)).toNatClampNeg = 8 then ((-3), f) else (nI (1 + (f (104 + r)).toNatClampNeg), upd (upd (upd f (108 + 16 * r + 2 * (f (104 + r)).toNatClampNeg) (nI w)) (109 + 16 * r + 2 * (f (104 + r)).toNatClampNeg) z) (104 + r) (nI (1 + (f (104 + r)).toNatClampNeg))) : Int32 × St).2) ((if (m_X2_addOrder g r (nI w) z).1 = true then ((m_X2_addOrder g r (nI w) z).2 (104 + r), (m_X2_addOrder g r (nI w) z).2) else ((-3), (m_X2_addOrder g r (nI w) z).2)) : Int32 × St).2 := by
  obtain ⟨n, h8, hn⟩ := H.2.2.2.2.1.1 r hr
  have hg : g (104 + r) = nI n := by rw [H.p (104 + r) (by omega), hn]
  rw [hn, nI_clamp (by omega)]
  unfold m_X2_addOrder
  rw [hg, if_neg (nI_pos (by omega))]
  by_cases c : n = 8
  · subst c
    rw [if_pos (show (8 : Int32) ≤ nI 8 from by decide), if_pos (show nI 8 = 8 from rfl)]
    exact ⟨rfl, H⟩
  · rw [if_neg (show ¬ 8 ≤ nI n from nI_ge (b := 8) (by omega) (by omega)), if_pos (show nI n < 8 from nI_lt (b := 8) (by omega) (by omega)), if_neg (show ¬ nI n = 8 from fun q => c ((nI_eq (b := 8) (by omega) (by omega)).mp q)), nI_clamp (by omega)]
    have e1 : nI n + 1 = nI (1 + n) := by rw [nI_1, Nat.add_comm]
    simp only [if_true, e1, pk_us]
    exact ⟨trivial, RG_ord H hr hn (by omega) _ _, Iv_ord H.2 hr hn (by omega) hw z⟩
theorem L_order {f g : St} (H : RI f g) (x y z : Int32) : (m_X6_order g x y z).1 = (m_X7_order f x y z).1 ∧ RI (m_X7_order f x y z).2 (m_X6_order g x y z).2 := by
  unfold m_X6_order m_X7_order
  rcases cnum g x with ⟨h, r, hr, rfl, e⟩ | ⟨h, e⟩
  rotate_left
  · simp only [e, Option.isSome_none, if_neg h]
    exact ⟨rfl, H⟩
  simp only [e, Option.isSome_some, Option.getD_some, if_true, if_pos h]
  rcases in_or y 0 7 with ⟨h2, w, -, h4, rfl⟩ | ⟨h2, hk⟩
  rotate_left
  · rw [if_neg (show ¬ m_X6_isBetween 0 y 7 = true from h2), if_neg (show ¬ m_X7_in y 0 7 = true from h2)]
    exact ⟨rfl, H⟩
  rw [if_pos (show m_X6_isBetween 0 (nI w) 7 = true from h2), if_pos (show m_X7_in (nI w) 0 7 = true from h2)]
  rw [nI_clamp (show r < 2 ^ 31 by omega), nI_clamp (show w < 2 ^ 31 by omega)]
  by_cases c : nI w = 0
  · rw [if_pos c, if_pos c]
    rcases in_or z 0 15 with ⟨h5, q, -, h6, rfl⟩ | ⟨h5, hk⟩
    · rw [if_pos (show m_X6_isBetween 0 (nI q) 15 = true from h5), if_pos (show m_X7_in (nI q) 0 15 = true from h5), nI_clamp (show q < 2 ^ 31 by omega)]
      exact add_ord H hr h4 _
    · rw [if_neg (show ¬ m_X6_isBetween 0 z 15 = true from h5), if_neg (show ¬ m_X7_in z 0 15 = true from h5)]
      exact ⟨rfl, H⟩
  · rw [if_neg c, if_neg c]
    exact add_ord H hr h4 _
theorem L_drop {f g : St} (H : RI f g) (x : Int32) : (m_X6_drop g x).1 = (m_X7_drop f x).1 ∧ RI (m_X7_drop f x).2 (m_X6_drop g x).2 := by
  unfold m_X6_drop m_X7_drop
  rcases cnum g x with ⟨h, r, hr, rfl, e⟩ | ⟨h, e⟩
  rotate_left
  · simp only [e, Option.isSome_none, if_neg h]
    exact ⟨rfl, H⟩
  simp only [e, Option.isSome_some, Option.getD_some, if_true, if_pos h]
  rw [nI_clamp (show r < 2 ^ 31 by omega), H.p (104 + r) (by omega)]
  refine ⟨rfl, ?_⟩
  obtain ⟨⟨a, b, c, d⟩, ⟨a1, a2, a3, a4⟩, s, ⟨c1, c2, c3, c4⟩, hIo, ⟨r1, r2, r3, r4, r5⟩⟩ := H
  obtain ⟨o1, o2⟩ := id hIo
  refine ⟨⟨fun j hj => ?_, fun e he => ?_, ?_, fun r' k hr' hk => ?_⟩, ⟨fun j hj => ?_, ?_, fun v hv => ?_, fun d hd => ?_⟩, fun d hd => ?_, ⟨fun d hd => ?_, fun r hr => ?_, fun r d hr hd => ?_, fun r d hr hd => ?_⟩, ⟨fun r' hr' => ?_, fun r' k hr' hk => ?_⟩, ⟨fun j hj => ?_, ?_, ?_, ?_, ?_⟩⟩
  · by_cases q : j = 104 + r
    · subst q; rw [pk_us, pk_us]
    · rw [pk_un q, pk_un q]; exact a j hj
  · simp (disch := omega) only [pk_un]; exact b e he
  · simp (disch := omega) only [pk_un]; exact c
  · by_cases q : r' = r
    · subst q
      rw [pk_us] at hk
      exact absurd hk (Nat.not_lt_zero _)
    · rw [pk_un (by omega)] at hk
      have := cnt8 hIo hr'
      simp (disch := omega) only [pk_un]; exact d r' k hr' hk
  · simp (disch := omega) only [pk_un]; exact a1 j hj
  · simp (disch := omega) only [pk_un]; exact a2
  · simp (disch := omega) only [pk_un]; exact a3 v hv
  · simp (disch := omega) only [pk_un]; exact a4 d hd
  · simp (disch := omega) only [pk_un]; exact s d hd
  · simp (disch := omega) only [pk_un]; exact c1 d hd
  · simp (disch := omega) only [pk_un]; exact c2 r hr
  · simp (disch := omega) only [pk_un]; exact c3 r d hr hd
  · simp (disch := omega) only [pk_un]; exact c4 r d hr hd
  · by_cases q : r' = r
    · subst q; rw [pk_us]; exact ⟨0, by omega, rfl⟩
    · simp (disch := omega) only [pk_un]; exact o1 r' hr'
  · by_cases q : r' = r
    · subst q
      rw [pk_us] at hk
      exact absurd hk (Nat.not_lt_zero _)
    · rw [pk_un (by omega)] at hk
      have := cnt8 hIo hr'
      rw [pk_un (by omega)]; exact o2 r' k hr' hk
  · simp (disch := omega) only [pk_un]; exact r1 j hj
  · simp (disch := omega) only [pk_un]; exact r2
  · simp (disch := omega) only [pk_un]; exact r3
  · simp (disch := omega) only [pk_un]; exact r4
  · simp (disch := omega) only [pk_un]; exact r5
theorem f0z {i : Nat} (h : i < 76) : f0 i = 0 := by
  unfold f0
  simp (disch := omega) only [pk_un]
theorem L_init : RI f0 g0 := by
  have e4 : ∀ r, r < 2 → f0 (104 + r) = 0 := fun r hr => by
    obtain rfl | rfl : r = 0 ∨ r = 1 := by omega
    · decide +kernel
    · decide +kernel
  refine ⟨⟨fun i hi => ?_, fun d hd => ?_, by decide +kernel, fun r k hr hk => ?_⟩, ⟨fun i hi => ?_, ?_, fun v hv => ?_, fun d hd => ?_⟩, fun d hd => ?_, ⟨fun d hd => ?_, fun r hr => ?_, fun r d hr hd => ?_, fun r d hr hd => ?_⟩, ⟨fun r hr => ?_, fun r k hr hk => ?_⟩, ⟨fun i hi => ?_, by decide +kernel, by decide +kernel, by decide +kernel, by decide +kernel⟩⟩
  · unfold Pl at hi
    unfold g0
    (repeat' (refine itl (fun h1 => ?_) (fun h1 => ?_))) <;> first | (subst h1; decide +kernel) | (subst h1; omega) | (unfold f0; simp (disch := omega) only [pk_un])
  · obtain rfl | rfl | rfl | rfl : d = 0 ∨ d = 1 ∨ d = 2 ∨ d = 3 := by omega
    all_goals decide +kernel
  · rw [e4 r hr] at hk
    exact absurd hk (Nat.not_lt_zero _)
  · rw [f0z (by omega)]; decide
  · simp (disch := omega) only [f0z]; decide
  · simp (disch := omega) only [f0z]; decide
  · simp (disch := omega) only [f0z]; decide
  · simp (disch := omega) only [f0z]; exact ⟨fun _ => ⟨trivial, trivial, trivial, trivial⟩, fun _ => ⟨trivial, trivial, trivial⟩⟩
  · obtain rfl | rfl | rfl | rfl : d = 0 ∨ d = 1 ∨ d = 2 ∨ d = 3 := by omega
    all_goals decide +kernel
  · obtain rfl | rfl : r = 0 ∨ r = 1 := by omega
    all_goals exact Or.inl (by decide +kernel)
  · have a1 : ¬ f0 (102 + r) = nI d := by
      obtain rfl | rfl : r = 0 ∨ r = 1 := by omega
      all_goals (obtain rfl | rfl | rfl | rfl : d = 0 ∨ d = 1 ∨ d = 2 ∨ d = 3 := by omega) <;> decide +kernel
    have a2 : ¬ f0 (92 + d) = nI r := by
      obtain rfl | rfl : r = 0 ∨ r = 1 := by omega
      all_goals (obtain rfl | rfl | rfl | rfl : d = 0 ∨ d = 1 ∨ d = 2 ∨ d = 3 := by omega) <;> decide +kernel
    exact ⟨fun h => absurd h a1, fun h => absurd h a2⟩
  · have a2 : ¬ f0 (92 + d) = nI r := by
      obtain rfl | rfl : r = 0 ∨ r = 1 := by omega
      all_goals (obtain rfl | rfl | rfl | rfl : d = 0 ∨ d = 1 ∨ d = 2 ∨ d = 3 := by omega) <;> decide +kernel
    exact fun h => absurd h a2
  · exact ⟨0, by omega, by rw [e4 r hr]; rfl⟩
  · rw [e4 r hr] at hk
    exact absurd hk (Nat.not_lt_zero _)
  · rcases hi with rfl | rfl | rfl | rfl
    all_goals exact Or.inl (by decide +kernel)
/-- the carrier as the class has it -/
theorem cv_eq {x : Int32} (h : x = -1 ∨ x = 0 ∨ x = 1) {r : Nat} (hr : r < 2) : cv x = nI r ↔ x = nI r := by
  obtain rfl | rfl : r = 0 ∨ r = 1 := by omega
  · rcases h with rfl | rfl | rfl <;> decide
  · rcases h with rfl | rfl | rfl <;> decide
theorem cv_no {x : Int32} (h : x = -1 ∨ x = 0 ∨ x = 1) : cv x = (-4) ↔ x < 0 := by rcases h with rfl | rfl | rfl <;> decide
theorem carr_d {f g : St} (H : RI f g) {d r : Nat} (hd : d < 4) (hr : r < 2) : g (92 + d) = nI r ↔ f (102 + r) = nI d := by
  rw [H.1.2.1 d hd, cv_eq (H.2.2.2.1.1 d hd) hr]
  exact (H.2.2.2.1.2.2.1 r d hr hd).symm
theorem numOn {f g : St} (H : RI f g) {r : Nat} (hr : r < 2) : m_X0_numberOfLadleOn g r = if 0 ≤ f (102 + r) then f (102 + r) else (-4) := by
  have h0 := carr_d H (d := 0) (by omega) hr
  have h1 := carr_d H (d := 1) (by omega) hr
  have h2 := carr_d H (d := 2) (by omega) hr
  have h3 := carr_d H (d := 3) (by omega) hr
  unfold m_X0_numberOfLadleOn
  rcases H.2.2.2.1.2.1 r hr with e | ⟨d, hd, e⟩
  · rw [e] at h0 h1 h2 h3 ⊢
    rw [if_neg (fun q => absurd (h0.mp q) (by decide)), if_neg (fun q => absurd (h1.mp q) (by decide)), if_neg (fun q => absurd (h2.mp q) (by decide)), if_neg (fun q => absurd (h3.mp q) (by decide)), if_neg (by decide)]
  · rw [e] at h0 h1 h2 h3 ⊢
    rw [if_pos (nI_pos' (by omega))]
    obtain rfl | rfl | rfl | rfl : d = 0 ∨ d = 1 ∨ d = 2 ∨ d = 3 := by omega
    · rw [if_pos (h0.mpr rfl)]; rfl
    · rw [if_neg (fun q => absurd (h0.mp q) (by decide)), if_pos (h1.mpr rfl)]; rfl
    · rw [if_neg (fun q => absurd (h0.mp q) (by decide)), if_neg (fun q => absurd (h1.mp q) (by decide)), if_pos (h2.mpr rfl)]; rfl
    · rw [if_neg (fun q => absurd (h0.mp q) (by decide)), if_neg (fun q => absurd (h1.mp q) (by decide)), if_neg (fun q => absurd (h2.mp q) (by decide)), if_pos (h3.mpr rfl)]; rfl
theorem L_crane {f g : St} (H : RI f g) (x y : Int32) : m_X6_crane g x y = m_X7_crane f x y := by
  unfold m_X6_crane m_X7_crane
  rcases cnum g x with ⟨h, r, hr, rfl, e⟩ | ⟨h, e⟩
  rotate_left
  · simp only [e, Option.isSome_none, if_neg h]; rfl
  simp only [e, Option.isSome_some, Option.getD_some, if_true, if_pos h]
  rw [nI_clamp (show r < 2 ^ 31 by omega), numOn H hr]
  rcases in_or y 0 4 with ⟨h2, w, -, h4, rfl⟩ | ⟨h2, hk⟩
  · rw [if_pos (show m_X7_in (nI w) 0 4 = true from h2), nI_clamp (show w < 2 ^ 31 by omega)]
    unfold m_X2_answer m_X2_firstWhat
    rw [H.p (100 + r) (by omega), H.p (104 + r) (by omega), H.p (106 + r) (by omega)]
    obtain ⟨n, hn8, hn⟩ := H.2.2.2.2.1.1 r hr
    have hw : nI w = 3 → (if f (104 + r) ≤ 0 then (-4) else g (108 + 16 * r) : Int32) = if f (104 + r) = 0 then (-4) else f (108 + 16 * r) := by
      intro _
      rw [hn]
      by_cases c : n = 0
      · subst c; rfl
      · have c1 : ¬ nI n ≤ 0 := nI_nle (by omega) (by omega)
        have c2 : ¬ nI n = 0 := nI_ne0 (by omega) (by omega)
        rw [if_neg c1, if_neg c2]
        exact (H.1.2.2.2 r 0 hr (by rw [hn, nI_clamp (by omega)]; omega)).1
    obtain rfl | rfl | rfl | rfl | rfl : w = 0 ∨ w = 1 ∨ w = 2 ∨ w = 3 ∨ w = 4 := by omega
    · rfl
    · rfl
    · rfl
    · exact hw rfl
    · rfl
  · rw [if_neg (show ¬ m_X7_in y 0 4 = true from h2)]
    unfold m_X2_answer
    rw [if_neg (show ¬ y = 1 from hk 1 (by decide) (by decide)), if_neg (show ¬ y = 0 from hk 0 (by decide) (by decide)), if_neg (show ¬ y = 1 from hk 1 (by decide) (by decide)), if_neg (show ¬ y = 2 from hk 2 (by decide) (by decide)), if_neg (show ¬ y = 3 from hk 3 (by decide) (by decide)), if_neg (show ¬ y = 4 from hk 4 (by decide) (by decide))]
theorem L_ladle {f g : St} (H : RI f g) (x y : Int32) : m_X6_ladle g x y = m_X7_ladle f x y := by
  unfold m_X6_ladle m_X7_ladle
  rcases lnum g x with ⟨h, d, hd, rfl, e⟩ | ⟨h, e⟩
  rotate_left
  · simp only [e, Option.isSome_none, if_neg h]; rfl
  simp only [e, Option.isSome_some, Option.getD_some, if_true, if_pos h]
  rw [nI_clamp (show d < 2 ^ 31 by omega)]
  rcases in_or y 0 11 with ⟨h2, w, -, h4, rfl⟩ | ⟨h2, hk⟩
  · rw [if_pos (show m_X7_in (nI w) 0 11 = true from h2), nI_clamp (show w < 2 ^ 31 by omega)]
    have hc : g (92 + d) = if 0 ≤ f (92 + d) then f (92 + d) else (-4) := by
      rw [H.1.2.1 d hd]
      rcases H.2.2.2.1.1 d hd with q | q | q <;> rw [q] <;> decide
    unfold m_X3_answer m_X4_of
    rw [hc, H.p (88 + d) (by omega), H.p (96 + d) (by omega), H.p (4 * (4 + d)) (by omega), H.p (1 + 4 * (4 + d)) (by omega), H.p (2 + 4 * (4 + d)) (by omega), H.p (3 + 4 * (4 + d)) (by omega), H.p (4 * (8 + d)) (by omega), H.p (1 + 4 * (8 + d)) (by omega), H.p (2 + 4 * (8 + d)) (by omega), H.p (3 + 4 * (8 + d)) (by omega)]
    obtain rfl | rfl | rfl | rfl | rfl | rfl | rfl | rfl | rfl | rfl | rfl | rfl : w = 0 ∨ w = 1 ∨ w = 2 ∨ w = 3 ∨ w = 4 ∨ w = 5 ∨ w = 6 ∨ w = 7 ∨ w = 8 ∨ w = 9 ∨ w = 10 ∨ w = 11 := by omega
    · rfl
    · rfl
    · rfl
    · rfl
    · exact fx (f := f) (i := 4 * (4 + d)) (j := 12 + 4 * d + 4) (by omega)
    · exact fx (f := f) (i := 1 + 4 * (4 + d)) (j := 12 + 4 * d + 5) (by omega)
    · exact fx (f := f) (i := 2 + 4 * (4 + d)) (j := 12 + 4 * d + 6) (by omega)
    · exact fx (f := f) (i := 3 + 4 * (4 + d)) (j := 12 + 4 * d + 7) (by omega)
    · exact fx (f := f) (i := 4 * (8 + d)) (j := 24 + 4 * d + 8) (by omega)
    · exact fx (f := f) (i := 1 + 4 * (8 + d)) (j := 24 + 4 * d + 9) (by omega)
    · exact fx (f := f) (i := 2 + 4 * (8 + d)) (j := 24 + 4 * d + 10) (by omega)
    · exact fx (f := f) (i := 3 + 4 * (8 + d)) (j := 24 + 4 * d + 11) (by omega)
  · rw [if_neg (show ¬ m_X7_in y 0 11 = true from h2)]
    unfold m_X3_answer
    have q : ∀ k, k ≤ 11 → ¬ y = nI k := fun k hk2 => hk k (by omega) hk2
    rw [if_neg (show ¬ y = 0 from q 0 (by decide)), if_neg (show ¬ y = 1 from q 1 (by decide)), if_neg (show ¬ y = 2 from q 2 (by decide)), if_neg (show ¬ y = 3 from q 3 (by decide)), if_neg (show ¬ y = 4 from q 4 (by decide)), if_neg (show ¬ y = 5 from q 5 (by decide)), if_neg (show ¬ y = 6 from q 6 (by decide)), if_neg (show ¬ y = 7 from q 7 (by decide)), if_neg (show ¬ y = 8 from q 8 (by decide)), if_neg (show ¬ y = 9 from q 9 (by decide)), if_neg (show ¬ y = 10 from q 10 (by decide)), if_neg (show ¬ y = 11 from q 11 (by decide))]
theorem L_vessel {f g : St} (H : RI f g) (x y : Int32) : m_X6_vessel g x y = m_X7_vessel f x y := by
  unfold m_X6_vessel m_X7_vessel
  rcases vnum g x with ⟨h, v, hv, rfl, e⟩ | ⟨h, e⟩
  rotate_left
  · simp only [e, Option.isSome_none, if_neg h]; rfl
  simp only [e, Option.isSome_some, Option.getD_some, if_true, if_pos h]
  rw [nI_clamp (show v < 2 ^ 31 by omega)]
  rcases in_or y 0 7 with ⟨h2, w, -, h4, rfl⟩ | ⟨h2, hk⟩
  · rw [if_pos (show m_X7_in (nI w) 0 7 = true from h2), nI_clamp (show w < 2 ^ 31 by omega)]
    unfold m_X5_answer m_X4_of
    rw [H.p (79 + v) (by omega), oneIf_b (H.2.2.2.2.2.1 (79 + v) (by omega)), H.p (76 + v) (by omega), H.p (82 + v) (by omega), H.p (85 + v) (by omega), H.p (4 * (1 + v)) (by omega), H.p (1 + 4 * (1 + v)) (by omega), H.p (2 + 4 * (1 + v)) (by omega), H.p (3 + 4 * (1 + v)) (by omega)]
    obtain rfl | rfl | rfl | rfl | rfl | rfl | rfl | rfl : w = 0 ∨ w = 1 ∨ w = 2 ∨ w = 3 ∨ w = 4 ∨ w = 5 ∨ w = 6 ∨ w = 7 := by omega
    · rfl
    · rfl
    · exact fx (f := f) (i := 4 * (1 + v)) (j := 2 + 4 * v + 2) (by omega)
    · exact fx (f := f) (i := 1 + 4 * (1 + v)) (j := 2 + 4 * v + 3) (by omega)
    · exact fx (f := f) (i := 2 + 4 * (1 + v)) (j := 2 + 4 * v + 4) (by omega)
    · exact fx (f := f) (i := 3 + 4 * (1 + v)) (j := 2 + 4 * v + 5) (by omega)
    · rfl
    · rfl
  · rw [if_neg (show ¬ m_X7_in y 0 7 = true from h2)]
    unfold m_X5_answer
    have q : ∀ k, k ≤ 7 → ¬ y = nI k := fun k hk2 => hk k (by omega) hk2
    rw [if_neg (show ¬ y = 0 from q 0 (by decide)), if_neg (show ¬ y = 1 from q 1 (by decide)), if_neg (show ¬ y = 2 from q 2 (by decide)), if_neg (show ¬ y = 3 from q 3 (by decide)), if_neg (show ¬ y = 4 from q 4 (by decide)), if_neg (show ¬ y = 5 from q 5 (by decide)), if_neg (show ¬ y = 6 from q 6 (by decide)), if_neg (show ¬ y = 7 from q 7 (by decide))]
theorem L_count {f g : St} (H : RI f g) (nk x : Int32) : m_X6_count g nk x = m_X7_count f nk x := by
  unfold m_X6_count m_X7_count m_X1_answer
  have hb := H.2.2.2.2.2.1 149 (by omega)
  have h70 := H.2.2.2.2.2.2.2.2.2
  rw [H.p 149 (by omega), oneIf_b hb, H.p 148 (by omega), H.p 140 (by omega), H.p 70 (by omega), ← h70, H.p 142 (by omega), H.p 143 (by omega), H.p 144 (by omega), H.p 145 (by omega), H.p 146 (by omega)]
  rcases in_or x 0 9 with ⟨h2, w, -, h4, rfl⟩ | ⟨h2, hk⟩
  · rw [if_pos (show m_X7_in (nI w) 0 9 = true from h2), nI_clamp (show w < 2 ^ 31 by omega)]
    obtain rfl | rfl | rfl | rfl | rfl | rfl | rfl | rfl | rfl | rfl : w = 0 ∨ w = 1 ∨ w = 2 ∨ w = 3 ∨ w = 4 ∨ w = 5 ∨ w = 6 ∨ w = 7 ∨ w = 8 ∨ w = 9 := by omega
    all_goals rfl
  · rw [if_neg (show ¬ m_X7_in x 0 9 = true from h2)]
    have q : ∀ k, k ≤ 9 → ¬ x = nI k := fun k hk2 => hk k (by omega) hk2
    rw [if_neg (show ¬ x = 7 from q 7 (by decide)), if_neg (show ¬ x = 8 from q 8 (by decide)), if_neg (show ¬ x = 9 from q 9 (by decide)), if_neg (show ¬ x = 0 from q 0 (by decide)), if_neg (show ¬ x = 1 from q 1 (by decide)), if_neg (show ¬ x = 2 from q 2 (by decide)), if_neg (show ¬ x = 3 from q 3 (by decide)), if_neg (show ¬ x = 4 from q 4 (by decide)), if_neg (show ¬ x = 5 from q 5 (by decide)), if_neg (show ¬ x = 6 from q 6 (by decide))]
theorem ofK {f g : St} (H : RI f g) {t s : Nat} (h1 : 1 ≤ s) (h4 : s ≤ 4) (ht : t < 12 ∨ (13 ≤ t ∧ t < 19)) : m_X4_of g t (nI s) = f (4 * t + (s - 1)) := by
  have hp : g (4 * t + (s - 1)) = f (4 * t + (s - 1)) := H.p _ (by omega)
  rw [← hp]
  unfold m_X4_of
  obtain rfl | rfl | rfl | rfl : s = 1 ∨ s = 2 ∨ s = 3 ∨ s = 4 := by omega
  · rfl
  · exact fx (f := g) (i := 1 + 4 * t) (j := 4 * t + 1) (by omega)
  · exact fx (f := g) (i := 2 + 4 * t) (j := 4 * t + 2) (by omega)
  · exact fx (f := g) (i := 3 + 4 * t) (j := 4 * t + 3) (by omega)
theorem L_book {f g : St} (H : RI f g) (x y : Int32) : m_X6_book g x y = m_X7_book f x y := by
  unfold m_X6_book m_X7_book
  rcases in_or y 1 4 with ⟨hy, s, h1, h4, rfl⟩ | ⟨hy, hk⟩
  rotate_left
  · rw [if_neg (show ¬ m_X6_isBetween 1 y 4 = true from hy), if_neg (show ¬ m_X7_in y 1 4 = true from hy)]
    split <;> rfl
  rw [if_pos (show m_X6_isBetween 1 (nI s) 4 = true from hy), if_pos (show m_X7_in (nI s) 1 4 = true from hy), nI_clamp (show s < 2 ^ 31 by omega)]
  have q1 : ∀ t, t < 12 ∨ (13 ≤ t ∧ t < 19) → m_X4_of g t (nI s) = f (4 * t + (s - 1)) := fun t ht => ofK H h1 h4 ht
  rcases in_or x 0 10 with ⟨hx, a, -, h10, rfl⟩ | ⟨hx, hk⟩
  rotate_left
  · rw [if_neg (show ¬ m_X7_in x 0 10 = true from hx)]
    unfold m_X0_stuffAt
    have q : ∀ k, k ≤ 10 → ¬ x = nI k := fun k hk2 => hk k (by omega) hk2
    rw [if_neg (show ¬ x = 0 from q 0 (by decide)), if_neg (show ¬ x = 1 from q 1 (by decide)), if_neg (show ¬ x = 2 from q 2 (by decide)), if_neg (show ¬ x = 3 from q 3 (by decide)), if_neg (show ¬ x = 4 from q 4 (by decide)), if_neg (show ¬ x = 5 from q 5 (by decide)), if_neg (show ¬ x = 6 from q 6 (by decide)), if_neg (show ¬ x = 7 from q 7 (by decide)), if_neg (show ¬ x = 8 from q 8 (by decide)), if_neg (show ¬ x = 9 from q 9 (by decide)), if_neg (show ¬ x = 10 from q 10 (by decide))]
  rw [if_pos (show m_X7_in (nI a) 0 10 = true from hx), nI_clamp (show a < 2 ^ 31 by omega)]
  unfold m_X0_stuffAt m_X0_inVessels m_X0_inLadles m_X0_inSkulls m_X7_several_1 m_X7_several_3 m_X7_several_4
  obtain rfl | rfl | rfl | rfl | rfl | rfl | rfl | rfl | rfl | rfl | rfl : a = 0 ∨ a = 1 ∨ a = 2 ∨ a = 3 ∨ a = 4 ∨ a = 5 ∨ a = 6 ∨ a = 7 ∨ a = 8 ∨ a = 9 ∨ a = 10 := by omega
  · refine (q1 0 (by omega)).trans ?_
    rw [if_pos (by decide), Int32.zero_add]
  · rw [if_neg (by decide), if_pos (by decide), if_neg (by decide), if_pos (by decide), q1 1 (by omega), q1 2 (by omega), q1 3 (by omega)]
  · rw [if_neg (by decide), if_neg (by decide), if_pos (by decide), if_neg (by decide), if_neg (by decide), if_pos (by decide), q1 4 (by omega), q1 5 (by omega), q1 6 (by omega), q1 7 (by omega)]
  · rw [if_neg (by decide), if_neg (by decide), if_neg (by decide), if_pos (by decide), if_neg (by decide), if_neg (by decide), if_neg (by decide), if_pos (by decide), q1 8 (by omega), q1 9 (by omega), q1 10 (by omega), q1 11 (by omega)]
  · obtain ⟨-, z49, z50, z51, -⟩ := H.2.2.2.2.2
    have e4 : (if nI 4 = 0 then m_X4_of g 0 (nI s) else if nI 4 = 1 then 0 + m_X4_of g 1 (nI s) + m_X4_of g 2 (nI s) + m_X4_of g 3 (nI s) else if nI 4 = 2 then 0 + m_X4_of g 4 (nI s) + m_X4_of g 5 (nI s) + m_X4_of g 6 (nI s) + m_X4_of g 7 (nI s) else if nI 4 = 3 then 0 + m_X4_of g 8 (nI s) + m_X4_of g 9 (nI s) + m_X4_of g 10 (nI s) + m_X4_of g 11 (nI s) else if nI 4 = 4 then if nI s = 1 then g 48 + 5 * g 143 else 0 else if nI 4 = 5 then m_X4_of g 13 (nI s) else if nI 4 = 6 then m_X4_of g 14 (nI s) else if nI 4 = 7 then m_X4_of g 15 (nI s) else if nI 4 = 8 then m_X4_of g 16 (nI s) else if nI 4 = 9 then m_X4_of g 17 (nI s) else if nI 4 = 10 then m_X4_of g 18 (nI s) else (-1) : Int32) = if nI s = 1 then g 48 + 5 * g 143 else 0 := rfl
    refine e4.trans ?_
    obtain rfl | rfl | rfl | rfl : s = 1 ∨ s = 2 ∨ s = 3 ∨ s = 4 := by omega
    · rw [if_pos (by decide), H.1.2.2.1, H.p 143 (by omega), Int32.sub_add_cancel]; rfl
    · exact z49.symm
    · exact z50.symm
    · exact z51.symm
  all_goals (refine Eq.trans (b := m_X4_of g _ (nI s)) (by (repeat (first | rw [if_neg (by decide)] | rw [if_pos (by decide)])); try rfl) ((q1 _ (by omega)).trans ?_); (repeat rw [if_neg (by decide)]); exact fx (by omega))
/-! the minute, piece by piece -/
theorem pk_se {g : St} {i j : Nat} {x : Int32} (h : i = j) : upd g i x j = x := by subst h; exact pk_us
theorem mn_if (x y : Int32) : mn x y = if x ≤ y then x else y := by
  unfold mn
  by_cases h : y < x
  · rw [if_pos h, if_neg (by rw [ltT] at h; rw [leT]; omega)]
  · rw [if_neg h, if_pos (by rw [ltT] at h; rw [leT]; omega)]
theorem minT (x y : Int32) : (if x ≤ y then x else y).toInt = min x.toInt y.toInt := by
  by_cases h : x ≤ y
  · rw [if_pos h]; rw [leT] at h; omega
  · rw [if_neg h]; rw [leT] at h; omega
theorem addK1 {g : St} {t a : Nat} (h : 4 * t = a) (n : Int32) : m_X4_add g t 1 n = upd g a (g a + n) := by subst h; rfl
theorem addK2 {g : St} {t a : Nat} (h : 1 + 4 * t = a) (n : Int32) : m_X4_add g t 2 n = upd g a (g a + n) := by subst h; rfl
theorem addK3 {g : St} {t a : Nat} (h : 2 + 4 * t = a) (n : Int32) : m_X4_add g t 3 n = upd g a (g a + n) := by subst h; rfl
theorem RI_amt {f g f' g' : St} (H : RI f g) (hp : ∀ i, (i < 48 ∨ (52 ≤ i ∧ i < 92) ∨ (96 ≤ i ∧ i < 102) ∨ (104 ≤ i ∧ i < 108) ∨ i = 140 ∨ (142 ≤ i ∧ i ≤ 146) ∨ i = 148 ∨ i = 149) → g' i = f' i) (hg : ∀ i, ((92 ≤ i ∧ i < 96) ∨ i = 48 ∨ (108 ≤ i ∧ i < 140)) → g' i = g i) (h48 : f' 48 = f 48 ∧ f' 143 = f 143) (h : ∀ i, 48 ≤ i → i < 150 → Fre i ∨ (96 ≤ i ∧ i < 100) ∨ i = 70 ∨ i = 141 ∨ f' i = f i) (ha : Ia f') (hs : Is f') (h5 : f' 141 = f' 70) : RI f' g' := by
  have e : ∀ i, ((92 ≤ i ∧ i < 96) ∨ (104 ≤ i ∧ i < 106) ∨ (108 ≤ i ∧ i < 140)) → f' i = f i := by
    intro i hi
    rcases h i (by omega) (by omega) with q | q | q | q | q
    · unfold Fre at q; omega
    · omega
    · omega
    · omega
    · exact q
  refine ⟨⟨hp, fun d hd => ?_, ?_, fun r k hr hk => ?_⟩, Iv_of h ha hs h5 H.2⟩
  · rw [hg _ (by omega), e _ (by omega)]; exact H.1.2.1 d hd
  · rw [hg 48 (by omega), h48.1, h48.2]; exact H.1.2.2.1
  · rw [e _ (by omega)] at hk
    have := cnt8 H.2.2.2.2.1 hr
    rw [hg _ (by omega), hg _ (by omega), e _ (by omega), e _ (by omega)]; exact H.1.2.2.2 r k hr hk
theorem L_feeds {f g : St} (H : RI f g) : RI (m_X7_feeds f) (m_X0_feedFurnace g) := by
  unfold m_X7_feeds m_X0_feedFurnace
  rw [H.p 149 (by omega)]
  by_cases c : f 149 = 0
  · rw [if_pos c, if_pos c]; exact H
  rw [if_neg c, if_neg c, all_sum H (t := 0) (a := 0) rfl (by omega)]
  have e9 : m_X7_sum f 0 + 4 + 3 + 2 = m_X7_sum f 0 + 9 := by rw [Int32.add_assoc, Int32.add_assoc]; rfl
  rw [e9]
  by_cases c2 : m_X7_sum f 0 + 9 ≤ 600
  · rw [if_pos c2, if_pos c2]
    obtain ⟨s1, s2, s3⟩ := sumF H.2.1
    have h9 : (m_X7_sum f 0).toInt + 9 ≤ 600 := by
      rw [leT, addT] at c2 <;> (try rw [show (9 : Int32).toInt = 9 from rfl] at *) <;> (try rw [show (9 : Int32).toInt = 9 from rfl]) <;> (try rw [show (600 : Int32).toInt = 600 from rfl] at c2) <;> omega
    have b0 := H.2.1.1 0 (by omega); have b1 := H.2.1.1 1 (by omega); have b2 := H.2.1.1 2 (by omega); have b3 := H.2.1.1 3 (by omega)
    have t0 : (f 0 + 4).toInt = (f 0).toInt + 4 := by rw [addT] <;> rw [show (4 : Int32).toInt = 4 from rfl] <;> omega
    have t1 : (f 1 + 3).toInt = (f 1).toInt + 3 := by rw [addT] <;> rw [show (3 : Int32).toInt = 3 from rfl] <;> omega
    have t2 : (f 2 + 2).toInt = (f 2).toInt + 2 := by rw [addT] <;> rw [show (2 : Int32).toInt = 2 from rfl] <;> omega
    unfold m_X0_feed
    rw [addK1 (t := 0) (a := 0) rfl, addK1 (t := 16) (a := 64) rfl, addK2 (t := 0) (a := 1) rfl, addK2 (t := 16) (a := 65) rfl, addK3 (t := 0) (a := 2) rfl, addK3 (t := 16) (a := 66) rfl]
    have hq := H.p
    refine RI_amt H (fun i hi => ?_) (fun i hi => ?_) ⟨?_, ?_⟩ (fun i h1 h2 => ?_) ⟨fun i hi => ?_, ?_, fun w hw => ?_, fun d hd => ?_⟩ (fun d hd => ?_) ?_
    · rcases (by omega : i = 0 ∨ i = 64 ∨ i = 1 ∨ i = 65 ∨ i = 2 ∨ i = 66 ∨ (i ≠ 0 ∧ i ≠ 64 ∧ i ≠ 1 ∧ i ≠ 65 ∧ i ≠ 2 ∧ i ≠ 66)) with q | q | q | q | q | q | q
      iterate 6 (subst q; simp (disch := omega) only [pk_un, pk_us, hq])
      obtain ⟨_, _, _, _, _, _⟩ := q
      simp (disch := omega) only [pk_un]
      exact hq i hi
    · simp (disch := omega) only [pk_un]
    · simp (disch := omega) only [pk_un]
    · simp (disch := omega) only [pk_un]
    · by_cases q : 64 ≤ i ∧ i ≤ 66
      · left; unfold Fre; omega
      · right; right; right; right
        simp (disch := omega) only [pk_un]
    · rcases (by omega : i = 0 ∨ i = 1 ∨ i = 2 ∨ (i ≠ 0 ∧ i ≠ 1 ∧ i ≠ 2)) with q | q | q | q
      · subst q; simp (disch := omega) only [pk_un, pk_us]; omega
      · subst q; simp (disch := omega) only [pk_un, pk_us]; omega
      · subst q; simp (disch := omega) only [pk_un, pk_us]; omega
      · obtain ⟨_, _, _⟩ := q
        simp (disch := omega) only [pk_un]; exact H.2.1.1 i hi
    · simp (disch := omega) only [pk_un, pk_us]; omega
    · simp (disch := omega) only [pk_un]; exact H.2.1.2.2.1 w hw
    · simp (disch := omega) only [pk_un]; exact H.2.1.2.2.2 d hd
    · simp (disch := omega) only [pk_un]; exact H.2.2.1 d hd
    · simp (disch := omega) only [pk_un]; exact H.2.2.2.2.2.2.2.2.2
  · rw [if_neg c2, if_neg c2, H.p 145 (by omega)]
    exact ⟨RG_pl H.1 (by unfold Pl; omega) (by decide) (by decide) (by decide) _, Iv_fre H.2 (by unfold Fre; omega) _⟩
theorem RI_fre {f g : St} (H : RI f g) {i : Nat} (hi : Fre i) (h1 : Pl i) (h2 : i ≠ 143) (x : Int32) : RI (upd f i x) (upd g i x) := by
  have h3 : i ≠ 104 ∧ i ≠ 105 := by unfold Fre at hi; omega
  exact ⟨RG_pl H.1 h1 h2 h3.1 h3.2 _, Iv_fre H.2 hi _⟩
theorem tooHot {f g : St} (H : RI f g) {v : Nat} (hv : v < 3) : (m_X5_isTooColdOrTooHot g v = true ∧ (f (76 + v) < 1000 ∨ ¬ f (76 + v) ≤ 1300)) ∨ (¬ m_X5_isTooColdOrTooHot g v = true ∧ ¬ f (76 + v) < 1000 ∧ f (76 + v) ≤ 1300) := by
  unfold m_X5_isTooColdOrTooHot m_X6_isBetween
  rw [H.p (76 + v) (by omega)]
  by_cases c : f (76 + v) < 1000
  · rw [if_pos c]; exact Or.inl ⟨rfl, Or.inl c⟩
  · rw [if_neg c]
    by_cases c2 : f (76 + v) ≤ 1300
    · right
      refine ⟨?_, c, c2⟩
      first | rw [if_pos c2] | rw [if_neg (show ¬ (1300 : Int32) < f (76 + v) by rw [ltT]; rw [leT] at c2; omega)]
      decide
    · left
      refine ⟨?_, Or.inr c2⟩
      first | rw [if_neg c2] | rw [if_pos (show (1300 : Int32) < f (76 + v) by rw [ltT]; rw [leT] at c2; omega)]
      decide
theorem L_blows {f g : St} (H : RI f g) {v : Nat} (hv : v < 3) : RI (m_X7_blows f v) (m_X0_blowParts g v) := by
  have hq := H.p
  have hr : ∀ x : Int32, RI (upd (upd f (79 + v) 0) (85 + v) (f (85 + v) + 1)) (upd (upd g (79 + v) 0) (85 + v) (g (85 + v) + 1)) := by
    intro _
    rw [hq (85 + v) (by omega)]
    refine RI_fre ?_ (by unfold Fre; omega) (by unfold Pl; omega) (by omega) _
    exact ⟨RG_pl H.1 (by unfold Pl; omega) (by omega) (by omega) (by omega) 0, Iv_bit H.2 (by omega) (Or.inl rfl)⟩
  unfold m_X7_blows m_X0_blowParts
  rcases tooHot H hv with ⟨e, c⟩ | ⟨e, c1, c2⟩
  · rw [if_pos e]
    by_cases c1 : f (76 + v) < 1000
    · rw [if_pos c1]; exact hr 0
    · rw [if_neg c1, if_neg (by rcases c with c | c; exact absurd c c1; exact c)]; exact hr 0
  rw [if_neg e, if_neg c1, if_pos c2]
  simp only [mn_if]
  rw [hq (5 + 4 * v) (by omega), hq (6 + 4 * v) (by omega), hq (4 + 4 * v) (by omega), hq 142 (by omega), hq 148 (by omega), hq (76 + v) (by omega), hq (82 + v) (by omega)]
  obtain ⟨s1, s2, s3⟩ := sumV H.2.1 hv
  have b4 := H.2.1.1 (4 + 4 * v) (by omega); have b5 := H.2.1.1 (5 + 4 * v) (by omega); have b6 := H.2.1.1 (6 + 4 * v) (by omega); have b7 := H.2.1.1 (7 + 4 * v) (by omega)
  have E2 := minT 6 (f (5 + 4 * v))
  generalize (if 6 ≤ f (5 + 4 * v) then 6 else f (5 + 4 * v) : Int32) = n2 at E2 ⊢
  rw [show (6 : Int32).toInt = 6 from rfl] at E2
  have D2 : (6 - n2).toInt = 6 - n2.toInt := by rw [subT] <;> rw [show (6 : Int32).toInt = 6 from rfl] <;> omega
  have E3 := minT (6 - n2) (f (6 + 4 * v))
  generalize (if 6 - n2 ≤ f (6 + 4 * v) then 6 - n2 else f (6 + 4 * v) : Int32) = n3 at E3 ⊢
  have D3 : (6 - n2 - n3).toInt = 6 - n2.toInt - n3.toInt := by rw [subT] <;> rw [D2] <;> omega
  have E1 := minT (6 - n2 - n3) (f (4 + 4 * v))
  generalize (if 6 - n2 - n3 ≤ f (4 + 4 * v) then 6 - n2 - n3 else f (4 + 4 * v) : Int32) = n1 at E1 ⊢
  by_cases c3 : f 142 + n3 ≤ f 148
  rotate_left
  · rw [if_neg c3, if_neg c3]
    exact RI_fre H (by unfold Fre; omega) (by unfold Pl; omega) (by omega) _
  rw [if_pos c3, if_pos c3]
  have T4 : (f (4 + 4 * v) - n1).toInt = (f (4 + 4 * v)).toInt - n1.toInt := by rw [subT] <;> omega
  have T5 : (f (5 + 4 * v) - n2).toInt = (f (5 + 4 * v)).toInt - n2.toInt := by rw [subT] <;> omega
  have T6 : (f (6 + 4 * v) - n3).toInt = (f (6 + 4 * v)).toInt - n3.toInt := by rw [subT] <;> omega
  have Tn : (n2 + n1).toInt = n2.toInt + n1.toInt := by rw [addT] <;> omega
  have T7 : (f (7 + 4 * v) + (n2 + n1)).toInt = (f (7 + 4 * v)).toInt + n2.toInt + n1.toInt := by rw [addT] <;> rw [Tn] <;> omega
  unfold m_X0_burn
  rw [addK2 (t := 1 + v) (a := 5 + 4 * v) (by omega), addK2 (t := 17) (a := 69) (by omega), addK3 (t := 1 + v) (a := 6 + 4 * v) (by omega), addK3 (t := 17) (a := 70) (by omega), addK1 (t := 1 + v) (a := 4 + 4 * v) (by omega), addK1 (t := 17) (a := 68) (by omega)]
  simp only [← Int32.sub_eq_add_neg]
  simp (disch := omega) only [pk_un, pk_us, hq]
  refine RI_amt H (fun i hi => ?_) (fun i hi => ?_) ⟨?_, ?_⟩ (fun i h1 h2 => ?_) ⟨fun i hi => ?_, ?_, fun w hw => ?_, fun d hd => ?_⟩ (fun d hd => ?_) ?_
  · rcases (by omega : i = 4 + 4 * v ∨ i = 5 + 4 * v ∨ i = 6 + 4 * v ∨ i = 7 + 4 * v ∨ i = 68 ∨ i = 69 ∨ i = 70 ∨ i = 75 ∨ i = 76 + v ∨ i = 142 ∨ (i ≠ 4 + 4 * v ∧ i ≠ 5 + 4 * v ∧ i ≠ 6 + 4 * v ∧ i ≠ 7 + 4 * v ∧ i ≠ 68 ∧ i ≠ 69 ∧ i ≠ 70 ∧ i ≠ 75 ∧ i ≠ 76 + v ∧ i ≠ 142)) with q | q | q | q | q | q | q | q | q | q | q
    iterate 10 (subst q; simp (disch := omega) only [pk_un, pk_us])
    obtain ⟨_, _, _, _, _, _, _, _, _, _⟩ := q
    simp (disch := omega) only [pk_un]
    exact hq i hi
  · simp (disch := omega) only [pk_un]
  · simp (disch := omega) only [pk_un]
  · simp (disch := omega) only [pk_un]
  · by_cases q : i = 68 ∨ i = 69 ∨ i = 75 ∨ i = 76 + v ∨ i = 142
    · left; unfold Fre; omega
    by_cases q2 : i = 70 ∨ i = 141
    · omega
    right; right; right; right
    simp (disch := omega) only [pk_un]
  · rcases (by omega : i = 4 + 4 * v ∨ i = 5 + 4 * v ∨ i = 6 + 4 * v ∨ i = 7 + 4 * v ∨ (i ≠ 4 + 4 * v ∧ i ≠ 5 + 4 * v ∧ i ≠ 6 + 4 * v ∧ i ≠ 7 + 4 * v)) with q | q | q | q | q
    · subst q; simp (disch := omega) only [pk_un, pk_us]; omega
    · subst q; simp (disch := omega) only [pk_un, pk_us]; omega
    · subst q; simp (disch := omega) only [pk_un, pk_us]; omega
    · subst q; simp (disch := omega) only [pk_un, pk_us]; omega
    · obtain ⟨_, _, _, _⟩ := q
      simp (disch := omega) only [pk_un]; exact H.2.1.1 i hi
  · simp (disch := omega) only [pk_un]; exact H.2.1.2.1
  · by_cases q : w = v
    · subst q; simp (disch := omega) only [pk_un, pk_us]; omega
    · simp (disch := omega) only [pk_un]; exact H.2.1.2.2.1 w hw
  · simp (disch := omega) only [pk_un]; exact H.2.1.2.2.2 d hd
  · simp (disch := omega) only [pk_un]; exact H.2.2.1 d hd
  · simp (disch := omega) only [pk_un, pk_us]
    rw [H.2.2.2.2.2.2.2.2.2]
/-- the heats -/
def Ht (f : St) : Prop := ∀ v, v < 3 → 0 ≤ (f (76 + v)).toInt ∧ (f (76 + v)).toInt ≤ 1400
theorem Ht_un {f f' : St} (h : Ht f) (e : ∀ v, v < 3 → f' (76 + v) = f (76 + v)) : Ht f' := fun v hv => by rw [e v hv]; exact h v hv
theorem L_cool {f g : St} (H : RI f g) (hh : Ht f) {v : Nat} (hv : v < 3) {a b : Nat} (ha : 4 + 4 * v = a) (hb : 76 + v = b) : RI (if m_X7_sum f a ≤ 0 then f else upd f b (if 8 ≤ f b then f b - 8 else 0)) (m_X5_cool g v) := by
  subst ha hb
  unfold m_X5_cool
  rw [all_sum H (t := 1 + v) (a := 4 + 4 * v) (by omega) (by omega), H.p (76 + v) (by omega)]
  by_cases c : m_X7_sum f (4 + 4 * v) ≤ 0
  · rw [if_pos c, if_pos c]; exact H
  rw [if_neg c, if_neg c]
  have e : mx 0 (f (76 + v) - 8) = if 8 ≤ f (76 + v) then f (76 + v) - 8 else 0 := by
    obtain ⟨h0, h1⟩ := hh v hv
    have e8 : (f (76 + v) - 8).toInt = (f (76 + v)).toInt - 8 := by rw [subT] <;> rw [show (8 : Int32).toInt = 8 from rfl] <;> omega
    unfold mx
    by_cases q : (0 : Int32) < f (76 + v) - 8
    · rw [if_pos q, if_pos]
      rw [ltT, e8, T0] at q; rw [leT, show (8 : Int32).toInt = 8 from rfl]; omega
    · rw [if_neg q]
      rw [ltT, e8, T0] at q
      by_cases q2 : 8 ≤ f (76 + v)
      · rw [if_pos q2, eqT, e8, T0]; rw [leT, show (8 : Int32).toInt = 8 from rfl] at q2; omega
      · rw [if_neg q2]
  rw [e]
  exact RI_fre H (by unfold Fre; omega) (by unfold Pl; omega) (by omega) _
theorem L_cast {f g : St} (H : RI f g) : RI (m_X7_minute_j7 f) (m_X0_castAnode g) := by
  unfold m_X7_minute_j7 m_X0_castAnode
  rw [H.1.2.2.1]
  by_cases c : f 48 - 5 * f 143 < 5
  · rw [if_pos c, if_pos c, H.p 144 (by omega)]
    exact RI_fre H (by unfold Fre; omega) (by unfold Pl; omega) (by omega) _
  rw [if_neg c, if_neg c, H.p 143 (by omega)]
  refine ⟨⟨fun i hi => ?_, fun d hd => ?_, ?_, fun r k hr hk => ?_⟩, Iv_fre H.2 (by unfold Fre; omega) _⟩
  · unfold Pl at hi
    by_cases q : i = 143
    · subst q; rw [pk_us, pk_us]
    · rw [pk_un q, pk_un q, pk_un (by omega)]; exact H.p i hi
  · simp (disch := omega) only [pk_un]; exact H.1.2.1 d hd
  · simp (disch := omega) only [pk_un, pk_us]
    rw [Int32.mul_add, Int32.mul_one]
    simp only [Int32.sub_eq_add_neg, Int32.neg_add, Int32.add_assoc]
  · rw [pk_un (by omega)] at hk
    have := cnt8 H.2.2.2.2.1 hr
    simp (disch := omega) only [pk_un]; exact H.1.2.2.2 r k hr hk
theorem fin7 {f : St} {r : Nat} (hr : r < 2) : (∀ k, k < 7 → m_X7_finishes f r (108 + 16 * r + 2 * k) = f (108 + 16 * r + 2 * (k + 1)) ∧ m_X7_finishes f r (109 + 16 * r + 2 * k) = f (109 + 16 * r + 2 * (k + 1))) ∧ m_X7_finishes f r (104 + r) = f (104 + r) - 1 ∧ m_X7_finishes f r 146 = f 146 + 1 ∧ ∀ i, i ≠ 146 → i ≠ 104 + r → ¬ (108 + 16 * r ≤ i ∧ i < 122 + 16 * r) → m_X7_finishes f r i = f i := by
  unfold m_X7_finishes
  refine ⟨fun k hk => ?_, ?_, ?_, fun i h1 h2 h3 => ?_⟩
  · obtain rfl | rfl | rfl | rfl | rfl | rfl | rfl : k = 0 ∨ k = 1 ∨ k = 2 ∨ k = 3 ∨ k = 4 ∨ k = 5 ∨ k = 6 := by omega
    all_goals exact ⟨by simp (disch := omega) only [pk_un, pk_se]; exact fx (by omega), by simp (disch := omega) only [pk_un, pk_se]; exact fx (by omega)⟩
  · simp (disch := omega) only [pk_un, pk_us]
  · simp (disch := omega) only [pk_us]
  · simp (disch := omega) only [pk_un]
theorem fin0 {g : St} {r n : Nat} (hr : r < 2) (hn : g (104 + r) = nI n) (h1 : 1 ≤ n) (h8 : n ≤ 8) : (∀ k, k + 1 < n → m_X0_finishFirst g r (108 + 16 * r + 2 * k) = g (108 + 16 * r + 2 * (k + 1)) ∧ m_X0_finishFirst g r (109 + 16 * r + 2 * k) = g (109 + 16 * r + 2 * (k + 1))) ∧ m_X0_finishFirst g r (104 + r) = nI (n - 1) ∧ m_X0_finishFirst g r 146 = g 146 + 1 ∧ ∀ i, i ≠ 146 → i ≠ 104 + r → ¬ (108 + 16 * r ≤ i ∧ i < 122 + 16 * r) → m_X0_finishFirst g r i = g i := by
  unfold m_X0_finishFirst m_X2_removeFirst
  rw [hn]
  obtain rfl | rfl | rfl | rfl | rfl | rfl | rfl | rfl : n = 1 ∨ n = 2 ∨ n = 3 ∨ n = 4 ∨ n = 5 ∨ n = 6 ∨ n = 7 ∨ n = 8 := by omega
  all_goals (repeat (first | rw [if_pos (by decide)] | rw [if_neg (by decide)]))
  all_goals refine ⟨fun k hk => ?_, ?_, ?_, fun i h1 h2 h3 => ?_⟩
  all_goals first
    | (simp (disch := omega) only [pk_un, pk_us]; done)
    | (simp (disch := omega) only [pk_un, pk_us]; rfl)
    | (exfalso; omega)
    | (rcases (by omega : k = 0 ∨ k = 1 ∨ k = 2 ∨ k = 3 ∨ k = 4 ∨ k = 5 ∨ k = 6) with q | q | q | q | q | q | q <;> subst q <;> first | (exfalso; omega) | exact ⟨by simp (disch := omega) only [pk_un, pk_se]; exact fx (by omega), by simp (disch := omega) only [pk_un, pk_se]; exact fx (by omega)⟩)
theorem nI_dec1 {n : Nat} (h1 : 1 ≤ n) (h8 : n ≤ 8) : nI n - 1 = nI (n - 1) := by
  obtain rfl | rfl | rfl | rfl | rfl | rfl | rfl | rfl : n = 1 ∨ n = 2 ∨ n = 3 ∨ n = 4 ∨ n = 5 ∨ n = 6 ∨ n = 7 ∨ n = 8 := by omega
  all_goals decide
theorem L_finish {f g : St} (H : RI f g) {r n : Nat} (hr : r < 2) (hn : f (104 + r) = nI n) (h1 : 1 ≤ n) (h8 : n ≤ 8) : RI (m_X7_finishes f r) (m_X0_finishFirst g r) := by
  obtain ⟨a1, a2, a3, a4⟩ := fin7 (f := f) hr
  obtain ⟨b1, b2, b3, b4⟩ := fin0 (g := g) hr (by rw [H.p (104 + r) (by omega)]; exact hn) h1 h8
  generalize m_X7_finishes f r = f' at *
  generalize m_X0_finishFirst g r = g' at *
  rw [hn, nI_dec1 h1 h8] at a2
  have hq := H.p
  obtain ⟨⟨g1, g2, g3, g4⟩, ⟨i1, i2, i3, i4⟩, s, ⟨c1, c2, c3, c4⟩, hIo, ⟨r1, r2, r3, r4, r5⟩⟩ := H
  obtain ⟨o1, o2⟩ := id hIo
  have e : ∀ i, (i < 104 ∨ (106 ≤ i ∧ i < 108) ∨ (140 ≤ i ∧ i ≠ 146)) → f' i = f i := fun i hi => a4 i (by omega) (by omega) (by omega)
  refine ⟨⟨fun j hj => ?_, fun d hd => ?_, ?_, fun r' k hr' hk => ?_⟩, ⟨fun j hj => ?_, ?_, fun v hv => ?_, fun d hd => ?_⟩, fun d hd => ?_, ⟨fun d hd => ?_, fun r hr => ?_, fun r d hr hd => ?_, fun r d hr hd => ?_⟩, ⟨fun r' hr' => ?_, fun r' k hr' hk => ?_⟩, ⟨fun j hj => ?_, ?_, ?_, ?_, ?_⟩⟩
  · unfold Pl at hj
    by_cases q : j = 104 + r
    · rw [q, b2, a2]
    by_cases q2 : j = 146
    · rw [q2, b3, a3, hq 146 (by omega)]
    rw [b4 j q2 q (by omega), a4 j q2 q (by omega)]; exact hq j hj
  · rw [b4 _ (by omega) (by omega) (by omega), e _ (by omega)]; exact g2 d hd
  · rw [b4 _ (by omega) (by omega) (by omega), e _ (by omega), e _ (by omega)]; exact g3
  · by_cases q : r' = r
    · subst q
      rw [a2, nI_clamp (by omega)] at hk
      obtain ⟨x1, x2⟩ := a1 k (by omega)
      obtain ⟨y1, y2⟩ := b1 k (by omega)
      rw [x1, x2, y1, y2]
      exact g4 r' (k + 1) hr' (by rw [hn, nI_clamp (by omega)]; omega)
    · rw [a4 _ (by omega) (by omega) (by omega)] at hk
      have := cnt8 hIo hr'
      rw [a4 _ (by omega) (by omega) (by omega), a4 _ (by omega) (by omega) (by omega), b4 _ (by omega) (by omega) (by omega), b4 _ (by omega) (by omega) (by omega)]
      exact g4 r' k hr' hk
  · rw [e _ (by omega)]; exact i1 j hj
  · simp (disch := omega) only [e]; exact i2
  · simp (disch := omega) only [e]; exact i3 v hv
  · simp (disch := omega) only [e]; exact i4 d hd
  · simp (disch := omega) only [e]; exact s d hd
  · simp (disch := omega) only [e]; exact c1 d hd
  · simp (disch := omega) only [e]; exact c2 r hr
  · simp (disch := omega) only [e]; exact c3 r d hr hd
  · simp (disch := omega) only [e]; exact c4 r d hr hd
  · by_cases q : r' = r
    · subst q; rw [a2]; exact ⟨n - 1, by omega, rfl⟩
    · rw [a4 _ (by omega) (by omega) (by omega)]; exact o1 r' hr'
  · by_cases q : r' = r
    · subst q
      rw [a2, nI_clamp (by omega)] at hk
      rw [(a1 k (by omega)).1]
      exact o2 r' (k + 1) hr' (by rw [hn, nI_clamp (by omega)]; omega)
    · rw [a4 _ (by omega) (by omega) (by omega)] at hk
      have := cnt8 hIo hr'
      rw [a4 _ (by omega) (by omega) (by omega)]; exact o2 r' k hr' hk
  · rw [e _ (by omega)]; exact r1 j hj
  · rw [e _ (by omega)]; exact r2
  · rw [e _ (by omega)]; exact r3
  · rw [e _ (by omega)]; exact r4
  · rw [e _ (by omega), e _ (by omega)]; exact r5
/-- a change of places and carriers -/
theorem RI_car {f g f' g' : St} (H : RI f g) (he : ∀ i, i < 150 → ¬ ((88 ≤ i ∧ i < 96) ∨ (100 ≤ i ∧ i < 104)) → f' i = f i ∧ g' i = g i) (hp : ∀ i, ((88 ≤ i ∧ i < 92) ∨ (100 ≤ i ∧ i < 102)) → g' i = f' i) (hc : ∀ d, d < 4 → g' (92 + d) = cv (f' (92 + d))) (hI : Ic f') : RI f' g' := by
  have hq := H.p
  obtain ⟨⟨g1, g2, g3, g4⟩, ⟨i1, i2, i3, i4⟩, s, -, hIo, ⟨r1, r2, r3, r4, r5⟩⟩ := H
  obtain ⟨o1, o2⟩ := id hIo
  have e : ∀ i, (i < 88 ∨ (96 ≤ i ∧ i < 100) ∨ (104 ≤ i ∧ i < 150)) → f' i = f i := fun i hi => (he i (by omega) (by omega)).1
  have e2 : ∀ i, (i < 88 ∨ (96 ≤ i ∧ i < 100) ∨ (104 ≤ i ∧ i < 150)) → g' i = g i := fun i hi => (he i (by omega) (by omega)).2
  refine ⟨⟨fun j hj => ?_, hc, ?_, fun r' k hr' hk => ?_⟩, ⟨fun j hj => ?_, ?_, fun v hv => ?_, fun d hd => ?_⟩, fun d hd => ?_, hI, ⟨fun r' hr' => ?_, fun r' k hr' hk => ?_⟩, ⟨fun j hj => ?_, ?_, ?_, ?_, ?_⟩⟩
  · unfold Pl at hj
    by_cases q : (88 ≤ j ∧ j < 92) ∨ (100 ≤ j ∧ j < 102)
    · exact hp j q
    · rw [e2 j (by omega), e j (by omega)]; exact hq j hj
  · rw [e2 _ (by omega), e _ (by omega), e _ (by omega)]; exact g3
  · rw [e _ (by omega)] at hk
    have := cnt8 hIo hr'
    rw [e2 _ (by omega), e _ (by omega), e2 _ (by omega), e _ (by omega)]; exact g4 r' k hr' hk
  · rw [e _ (by omega)]; exact i1 j hj
  · simp (disch := omega) only [e]; exact i2
  · simp (disch := omega) only [e]; exact i3 v hv
  · simp (disch := omega) only [e]; exact i4 d hd
  · simp (disch := omega) only [e]; exact s d hd
  · rw [e _ (by omega)]; exact o1 r' hr'
  · rw [e _ (by omega)] at hk
    have := cnt8 hIo hr'
    rw [e _ (by omega)]; exact o2 r' k hr' hk
  · rw [e _ (by omega)]; exact r1 j hj
  · rw [e _ (by omega)]; exact r2
  · rw [e _ (by omega)]; exact r3
  · rw [e _ (by omega)]; exact r4
  · rw [e _ (by omega), e _ (by omega)]; exact r5
theorem numL {g : St} {d : Nat} (hd : d < 4) : m_X0_ladleNumbered g (nI d) = some d := by
  obtain rfl | rfl | rfl | rfl : d = 0 ∨ d = 1 ∨ d = 2 ∨ d = 3 := by omega
  all_goals rfl
theorem carry {f g : St} (H : RI f g) {r : Nat} (hr : r < 2) : (f (102 + r) = -1 ∧ m_X0_ladleNumbered g (m_X0_numberOfLadleOn g r) = none) ∨ ∃ d, d < 4 ∧ f (102 + r) = nI d ∧ f (92 + d) = nI r ∧ f (88 + d) = f (100 + r) ∧ m_X0_ladleNumbered g (m_X0_numberOfLadleOn g r) = some d := by
  rw [numOn H hr]
  rcases H.2.2.2.1.2.1 r hr with e | ⟨d, hd, e⟩
  · left
    rw [e]
    exact ⟨rfl, rfl⟩
  · right
    have e2 := (H.2.2.2.1.2.2.1 r d hr hd).mp e
    refine ⟨d, hd, e, e2, H.2.2.2.1.2.2.2 r d hr hd e2, ?_⟩
    rw [e, if_pos (nI_pos' (by omega))]
    exact numL hd
theorem nI_one {a b : Nat} (ha : a < 8) (hb : b < 8) (h : nI a = nI b) : a = b := by
  have := congrArg Int32.toInt h
  rw [nI_toInt (by omega), nI_toInt (by omega)] at this
  omega
theorem ia {α : Type} {c e : Prop} [Decidable c] [Decidable e] {a b : α} : (if c then (if e then a else b) else b) = if c ∧ e then a else b := by
  by_cases h : c <;> by_cases h2 : e <;> simp [h, h2]
theorem ib {α : Type} {c e : Prop} [Decidable c] [Decidable e] {a b : α} : (if c then (if e then b else a) else b) = if c ∧ ¬ e then a else b := by
  by_cases h : c <;> by_cases h2 : e <;> simp [h, h2]
theorem stands {f g : St} (H : RI f g) (x : Int32) : (m_X7_standsAt f x = -1 ∧ m_X0_ladleStandingAt g x = none) ∨ ∃ d, d < 4 ∧ m_X7_standsAt f x = nI d ∧ m_X0_ladleStandingAt g x = some d ∧ f (88 + d) = x ∧ f (92 + d) = -1 := by
  have hd : ∀ d, d < 4 → ((g (92 + d) = (-4) ∧ g (88 + d) = x) ↔ (f (88 + d) = x ∧ ¬ 0 ≤ f (92 + d))) ∧ (¬ 0 ≤ f (92 + d) → f (92 + d) = -1) := by
    intro d hd
    have h1 := H.2.2.2.1.1 d hd
    rw [H.p (88 + d) (by omega), H.1.2.1 d hd, cv_no h1]
    refine ⟨?_, ?_⟩
    · rcases h1 with q | q | q <;> rw [q] <;> simp <;> decide
    · rcases h1 with q | q | q <;> rw [q] <;> decide
  have d0 := hd 0 (by omega); have d1 := hd 1 (by omega); have d2 := hd 2 (by omega); have d3 := hd 3 (by omega)
  unfold m_X7_standsAt m_X0_ladleStandingAt
  simp only [ia, ib]
  by_cases c0 : f 88 = x ∧ ¬ 0 ≤ f 92
  · rw [if_pos c0, if_pos (d0.1.mpr c0)]; exact Or.inr ⟨0, by omega, rfl, rfl, c0.1, d0.2 c0.2⟩
  rw [if_neg c0, if_neg (fun q => c0 (d0.1.mp q))]
  by_cases c1 : f 89 = x ∧ ¬ 0 ≤ f 93
  · rw [if_pos c1, if_pos (d1.1.mpr c1)]; exact Or.inr ⟨1, by omega, rfl, rfl, c1.1, d1.2 c1.2⟩
  rw [if_neg c1, if_neg (fun q => c1 (d1.1.mp q))]
  by_cases c2 : f 90 = x ∧ ¬ 0 ≤ f 94
  · rw [if_pos c2, if_pos (d2.1.mpr c2)]; exact Or.inr ⟨2, by omega, rfl, rfl, c2.1, d2.2 c2.2⟩
  rw [if_neg c2, if_neg (fun q => c2 (d2.1.mp q))]
  by_cases c3 : f 91 = x ∧ ¬ 0 ≤ f 95
  · rw [if_pos c3, if_pos (d3.1.mpr c3)]; exact Or.inr ⟨3, by omega, rfl, rfl, c3.1, d3.2 c3.2⟩
  rw [if_neg c3, if_neg (fun q => c3 (d3.1.mp q))]
  exact Or.inl ⟨rfl, rfl⟩
theorem noM {n : Nat} (hn : n < 8) : ¬ (-1 : Int32) = nI n := by
  intro h
  have := congrArg Int32.toInt h
  rw [nI_toInt (by omega), show (-1 : Int32).toInt = -1 from rfl] at this
  omega
theorem L_takes {f g : St} (H : RI f g) {r : Nat} (hr : r < 2) (hf : f (102 + r) = -1) : (m_X0_take g r).1 = (m_X7_takes f r (f (100 + r))).1 ∧ RI (m_X7_takes f r (f (100 + r))).2 (m_X0_take g r).2 := by
  unfold m_X0_take m_X7_takes
  have n1 : ¬ (0 : Int32) ≤ -1 := by decide
  rw [H.p (100 + r) (by omega), hf, if_neg n1]
  rcases stands H (f (100 + r)) with ⟨e1, e2⟩ | ⟨d, hd, e1, e2, e3, e4⟩
  · rw [e1, e2, if_neg n1, if_neg (show ¬ (none : Option Nat).isSome = true by decide)]
    exact ⟨rfl, H⟩
  rw [e1, e2, if_pos (nI_pos' (by omega)), if_pos (show (some d).isSome = true from rfl), nI_clamp (by omega)]
  refine ⟨rfl, ?_⟩
  show RI (upd (upd f (102 + r) (nI d)) (92 + d) (nI r)) (upd g (92 + d) (nI r))
  obtain ⟨c1, c2, c3, c4⟩ := H.2.2.2.1
  refine RI_car H (fun i hi h2 => ?_) (fun i hi => ?_) (fun d' hd' => ?_) ⟨fun d' hd' => ?_, fun r' hr' => ?_, fun r' d' hr' hd' => ?_, fun r' d' hr' hd' => ?_⟩
  · show upd (upd f (102 + r) (nI d)) (92 + d) (nI r) i = f i ∧ upd g (92 + d) (nI r) i = g i
    simp (disch := omega) only [pk_un]; exact ⟨trivial, trivial⟩
  · show upd g (92 + d) (nI r) i = upd (upd f (102 + r) (nI d)) (92 + d) (nI r) i
    simp (disch := omega) only [pk_un]; exact H.p i (by omega)
  · show upd g (92 + d) (nI r) (92 + d') = cv (upd (upd f (102 + r) (nI d)) (92 + d) (nI r) (92 + d'))
    by_cases q : d' = d
    · subst q; rw [pk_us, pk_us]
      obtain rfl | rfl : r = 0 ∨ r = 1 := by omega
      all_goals decide
    · simp (disch := omega) only [pk_un]; exact H.1.2.1 d' hd'
  · by_cases q : d' = d
    · subst q; rw [pk_us]
      obtain rfl | rfl : r = 0 ∨ r = 1 := by omega
      · exact Or.inr (Or.inl rfl)
      · exact Or.inr (Or.inr rfl)
    · simp (disch := omega) only [pk_un]; exact c1 d' hd'
  · by_cases q : r' = r
    · subst q; rw [pk_un (by omega), pk_us]; exact Or.inr ⟨d, hd, rfl⟩
    · simp (disch := omega) only [pk_un]; exact c2 r' hr'
  · by_cases q : r' = r
    · subst q
      by_cases q2 : d' = d
      · subst q2
        rw [pk_us, pk_un (by omega), pk_us]
        exact ⟨fun _ => rfl, fun _ => rfl⟩
      · rw [pk_un (by omega), pk_us, pk_un (by omega), pk_un (by omega)]
        refine ⟨fun h => absurd (nI_one (by omega) (by omega) h) (by omega), fun h => ?_⟩
        have h2 := (c3 r' d' hr hd').mpr h
        rw [hf] at h2
        exact absurd h2 (noM (by omega))
    · by_cases q2 : d' = d
      · subst q2
        rw [pk_un (by omega), pk_un (by omega), pk_us]
        refine ⟨fun h => ?_, fun h => absurd (nI_one (by omega) (by omega) h) (by omega)⟩
        have h2 := (c3 r' d' hr' hd).mp h
        rw [e4] at h2
        exact absurd h2 (noM (by omega))
      · simp (disch := omega) only [pk_un]; exact c3 r' d' hr' hd'
  · simp (disch := omega) only [pk_un]
    by_cases q : d' = d
    · subst q
      rw [pk_us]
      intro h
      obtain rfl := nI_one (by omega) (by omega) h
      exact e3
    · rw [pk_un (by omega), pk_un (by omega)]; exact c4 r' d' hr' hd'
theorem floorE (g : St) (x : Int32) : m_X0_isFloor g x = m_X7_isFloor x := by
  unfold m_X0_isFloor m_X7_isFloor m_X0_vesselAt m_X7_vesselAt
  by_cases c0 : x = 0
  · rw [if_pos c0, if_pos c0]
  by_cases c2 : x = 2
  · rw [if_neg c0, if_neg c0, if_pos c2, if_pos c2]
  by_cases c3 : x = 15
  · rw [if_neg c0, if_neg c0, if_neg c2, if_neg c2, if_pos c3, if_pos c3]
  rw [if_neg c0, if_neg c0, if_neg c2, if_neg c2, if_neg c3, if_neg c3]
  by_cases c4 : x = 4
  · subst c4; rfl
  by_cases c8 : x = 8
  · subst c8; rfl
  by_cases c12 : x = 12
  · subst c12; rfl
  rw [if_neg c4, if_neg c8, if_neg c12, if_neg (Ne.symm c4), if_neg (Ne.symm c8), if_neg (Ne.symm c12)]
  rfl
theorem L_sets {f g : St} (H : RI f g) {r d : Nat} (hr : r < 2) (hd : d < 4) (hf : f (102 + r) = nI d) (h92 : f (92 + d) = nI r) (h88 : f (88 + d) = f (100 + r)) : (m_X0_set g d).1 = (m_X7_sets f r (f (100 + r))).1 ∧ RI (m_X7_sets f r (f (100 + r))).2 (m_X0_set g d).2 := by
  unfold m_X0_set m_X7_sets
  rw [H.p (88 + d) (by omega), h88, floorE, hf, nI_clamp (by omega)]
  by_cases c : m_X7_isFloor (f (100 + r)) = true
  rotate_left
  · rw [if_neg c, if_neg c]; exact ⟨rfl, H⟩
  rw [if_pos c, if_pos c]
  rcases stands H (f (100 + r)) with ⟨e1, e2⟩ | ⟨d2, hd2, e1, e2, e3, e4⟩
  rotate_left
  · rw [e1, e2, if_pos (show (some d2).isSome = true from rfl), if_neg (by
      obtain rfl | rfl | rfl | rfl : d2 = 0 ∨ d2 = 1 ∨ d2 = 2 ∨ d2 = 3 := by omega
      all_goals decide)]
    exact ⟨rfl, H⟩
  rw [e1, e2, if_neg (show ¬ (none : Option Nat).isSome = true by decide), if_pos (show (-1 : Int32) < 0 by decide)]
  refine ⟨rfl, ?_⟩
  show RI (upd (upd f (102 + r) (-1)) (92 + d) (-1)) (upd g (92 + d) (-4))
  obtain ⟨c1, c2, c3, c4⟩ := H.2.2.2.1
  have no : ∀ n, n < 4 → ¬ (-1 : Int32) = nI n := by
    intro n hn
    obtain rfl | rfl | rfl | rfl : n = 0 ∨ n = 1 ∨ n = 2 ∨ n = 3 := by omega
    all_goals decide
  refine RI_car H (fun i hi h2 => ?_) (fun i hi => ?_) (fun d' hd' => ?_) ⟨fun d' hd' => ?_, fun r' hr' => ?_, fun r' d' hr' hd' => ?_, fun r' d' hr' hd' => ?_⟩
  · show upd (upd f (102 + r) (-1)) (92 + d) (-1) i = f i ∧ upd g (92 + d) (-4) i = g i
    simp (disch := omega) only [pk_un]; exact ⟨trivial, trivial⟩
  · show upd g (92 + d) (-4) i = upd (upd f (102 + r) (-1)) (92 + d) (-1) i
    simp (disch := omega) only [pk_un]; exact H.p i (by omega)
  · show upd g (92 + d) (-4) (92 + d') = cv (upd (upd f (102 + r) (-1)) (92 + d) (-1) (92 + d'))
    by_cases q : d' = d
    · subst q; rw [pk_us, pk_us]; decide
    · simp (disch := omega) only [pk_un]; exact H.1.2.1 d' hd'
  · by_cases q : d' = d
    · subst q; rw [pk_us]; exact Or.inl rfl
    · simp (disch := omega) only [pk_un]; exact c1 d' hd'
  · by_cases q : r' = r
    · subst q; rw [pk_un (by omega), pk_us]; exact Or.inl rfl
    · simp (disch := omega) only [pk_un]; exact c2 r' hr'
  · by_cases q : r' = r
    · subst q
      by_cases q2 : d' = d
      · subst q2
        rw [pk_us, pk_un (by omega), pk_us]
        exact ⟨fun h => absurd h (no _ hd'), fun h => absurd h (no _ (by omega))⟩
      · rw [pk_un (by omega), pk_us, pk_un (by omega), pk_un (by omega)]
        refine ⟨fun h => absurd h (no _ hd'), fun h => ?_⟩
        have h2 := (c3 r' d' hr hd').mpr h
        rw [hf] at h2
        exact absurd (nI_one (by omega) (by omega) h2) (by omega)
    · by_cases q2 : d' = d
      · subst q2
        rw [pk_un (by omega), pk_un (by omega), pk_us]
        refine ⟨fun h => ?_, fun h => absurd h (no _ (by omega))⟩
        have h2 := (c3 r' d' hr' hd').mp h
        rw [h92] at h2
        exact absurd (nI_one (by omega) (by omega) h2) (by omega)
      · simp (disch := omega) only [pk_un]; exact c3 r' d' hr' hd'
  · simp (disch := omega) only [pk_un]
    by_cases q : d' = d
    · subst q
      rw [pk_us]
      intro h
      exact absurd h (no _ (by omega))
    · rw [pk_un (by omega), pk_un (by omega)]; exact c4 r' d' hr' hd'
theorem L_stepw {f g : St} (H : RI f g) {r : Nat} (hr : r < 2) (h109 : g (109 + 16 * r) = f (109 + 16 * r)) : RI (if ((f (100 + r)) + (if (f (109 + 16 * r)) ≤ (f (100 + r)) then (-1) else 1)) = (f ((101 - r))) then (upd f (106 + r) ((f (106 + r)) + 1))
    else if (f (102 + r)) < 0 then (upd f (100 + r) ((f (100 + r)) + (if (f (109 + 16 * r)) ≤ (f (100 + r)) then (-1) else 1)))
    else (upd (upd f (100 + r) ((f (100 + r)) + (if (f (109 + 16 * r)) ≤ (f (100 + r)) then (-1) else 1))) (88 + (f (102 + r)).toNatClampNeg) ((f (100 + r)) + (if (f (109 + 16 * r)) ≤ (f (100 + r)) then (-1) else 1)))) (m_X0_stepOrWait g r (1 - r)) := by
  have hn : m_X2_nextPlace g r = f (100 + r) + (if f (109 + 16 * r) ≤ f (100 + r) then (-1) else 1) := by
    unfold m_X2_nextPlace
    rw [h109, H.p (100 + r) (by omega)]
    by_cases c : f (109 + 16 * r) ≤ f (100 + r)
    · rw [if_pos c, if_pos c, Int32.sub_eq_add_neg]
    · rw [if_neg c, if_neg c]
  unfold m_X0_stepOrWait
  rw [hn, H.p (100 + (1 - r)) (by omega), H.p (106 + r) (by omega), show 100 + (1 - r) = 101 - r by omega]
  generalize (f (100 + r) + (if f (109 + 16 * r) ≤ f (100 + r) then (-1) else 1) : Int32) = x
  by_cases c : x = f (101 - r)
  · rw [if_pos c, if_pos c]
    exact RI_fre H (by unfold Fre; omega) (by unfold Pl; omega) (by omega) _
  rw [if_neg c, if_neg c]
  have en : m_X0_numberOfLadleOn (upd g (100 + r) x) r = m_X0_numberOfLadleOn g r := by
    unfold m_X0_numberOfLadleOn
    simp (disch := omega) only [pk_un]
  have el : ∀ y, m_X0_ladleNumbered (upd g (100 + r) x) y = m_X0_ladleNumbered g y := fun _ => rfl
  rw [en, el]
  obtain ⟨c1, c2, c3, c4⟩ := H.2.2.2.1
  rcases carry H hr with ⟨e1, e2⟩ | ⟨d, hd, e1, e2, e3, e4⟩
  · rw [e2, e1, if_neg (show ¬ (none : Option Nat).isSome = true by decide), if_pos (show (-1 : Int32) < 0 by decide)]
    refine RI_car H (fun i hi h2 => ?_) (fun i hi => ?_) (fun d' hd' => ?_) ⟨fun d' hd' => ?_, fun r' hr' => ?_, fun r' d' hr' hd' => ?_, fun r' d' hr' hd' => ?_⟩
    · simp (disch := omega) only [pk_un]; exact ⟨trivial, trivial⟩
    · by_cases q : i = 100 + r
      · subst q; rw [pk_us, pk_us]
      · rw [pk_un q, pk_un q]; exact H.p i (by omega)
    · simp (disch := omega) only [pk_un]; exact H.1.2.1 d' hd'
    · simp (disch := omega) only [pk_un]; exact c1 d' hd'
    · simp (disch := omega) only [pk_un]; exact c2 r' hr'
    · simp (disch := omega) only [pk_un]; exact c3 r' d' hr' hd'
    · rw [pk_un (by omega), pk_un (by omega)]
      intro h
      by_cases q : r' = r
      · subst q
        have h2 := (c3 r' d' hr' hd').mpr h
        rw [e1] at h2
        obtain rfl | rfl | rfl | rfl : d' = 0 ∨ d' = 1 ∨ d' = 2 ∨ d' = 3 := by omega
        all_goals exact absurd h2 (by decide)
      · rw [pk_un (by omega)]; exact c4 r' d' hr' hd' h
  · rw [e4, e1, if_pos (show (some d).isSome = true from rfl), nI_clamp (by omega), if_neg (by
      obtain rfl | rfl | rfl | rfl : d = 0 ∨ d = 1 ∨ d = 2 ∨ d = 3 := by omega
      all_goals decide)]
    show RI (upd (upd f (100 + r) x) (88 + d) x) (upd (upd g (100 + r) x) (88 + d) x)
    refine RI_car H (fun i hi h2 => ?_) (fun i hi => ?_) (fun d' hd' => ?_) ⟨fun d' hd' => ?_, fun r' hr' => ?_, fun r' d' hr' hd' => ?_, fun r' d' hr' hd' => ?_⟩
    · simp (disch := omega) only [pk_un]; exact ⟨trivial, trivial⟩
    · by_cases q2 : i = 88 + d
      · subst q2; rw [pk_us, pk_us]
      by_cases q : i = 100 + r
      · subst q; rw [pk_un q2, pk_un q2, pk_us, pk_us]
      · rw [pk_un q2, pk_un q2, pk_un q, pk_un q]; exact H.p i (by omega)
    · simp (disch := omega) only [pk_un]; exact H.1.2.1 d' hd'
    · simp (disch := omega) only [pk_un]; exact c1 d' hd'
    · simp (disch := omega) only [pk_un]; exact c2 r' hr'
    · simp (disch := omega) only [pk_un]; exact c3 r' d' hr' hd'
    · rw [pk_un (show 92 + d' ≠ 88 + d by omega), pk_un (show 92 + d' ≠ 100 + r by omega), pk_un (show 100 + r' ≠ 88 + d by omega)]
      intro h
      by_cases q : r' = r
      · subst q
        have h2 := (c3 r' d' hr' hd').mpr h
        rw [e1] at h2
        obtain rfl := nI_one (by omega) (by omega) h2
        rw [pk_us, pk_us]
      · have q2 : d' ≠ d := by
          intro q2
          subst q2
          rw [e2] at h
          exact q (nI_one (by omega) (by omega) h).symm
        rw [pk_un (by omega), pk_un (by omega), pk_un (by omega)]; exact c4 r' d' hr' hd' h
theorem vAt (g : St) (x : Int32) : (m_X7_vesselAt x = -1 ∧ m_X0_vesselAt g x = none) ∨ ∃ v, v < 3 ∧ m_X7_vesselAt x = nI v ∧ m_X0_vesselAt g x = some v ∧ x = nI (4 + 4 * v) := by
  unfold m_X0_vesselAt m_X7_vesselAt
  by_cases c4 : x = 4
  · subst c4; exact Or.inr ⟨0, by omega, rfl, rfl, rfl⟩
  by_cases c8 : x = 8
  · subst c8; exact Or.inr ⟨1, by omega, rfl, rfl, rfl⟩
  by_cases c12 : x = 12
  · subst c12; exact Or.inr ⟨2, by omega, rfl, rfl, rfl⟩
  left
  rw [if_neg c4, if_neg c8, if_neg c12, if_neg (Ne.symm c4), if_neg (Ne.symm c8), if_neg (Ne.symm c12)]
  exact ⟨rfl, rfl⟩
theorem roomE {f g : St} (H : RI f g) {d : Nat} (hd : d < 4) : m_X3_room g d = m_X7_room f d := by
  unfold m_X3_room m_X7_room
  rw [all_sum H (t := 8 + d) (a := 32 + 4 * d) (by omega) (by omega), all_sum H (t := 4 + d) (a := 16 + 4 * d) (by omega) (by omega)]
theorem mnC (x y : Int32) : mn x y = if y ≤ x then y else x := by
  rw [mn_if, eqT, minT, minT]; omega
theorem nI_nl0 {n : Nat} (hn : n < 8) : ¬ nI n < 0 := by
  rw [ltT, nI_toInt (by omega), T0]; omega
theorem T1 : (1 : Int32).toInt = 1 := rfl
/-- n of the k-th stuff goes from vessel v into ladle d -/
theorem L_move {f g : St} (H : RI f g) {d v k : Nat} (hd : d < 4) (hv : v < 3) (hk : k < 4) {n : Int32} (h0 : 0 ≤ n.toInt) (h1 : n.toInt ≤ (f (4 + k + 4 * v)).toInt) (h2 : n.toInt ≤ (m_X7_room f d).toInt) {w : Int32} (hw : w ≠ 0) (hw3 : w = 3 → k = 0 ∧ f (96 + d) = 0) : RI (upd (upd (upd f (4 + k + 4 * v) (f (4 + k + 4 * v) - n)) (16 + k + 4 * d) (f (16 + k + 4 * d) + n)) (96 + d) w) (upd (upd (upd g (4 + k + 4 * v) (f (4 + k + 4 * v) - n)) (16 + k + 4 * d) (f (16 + k + 4 * d) + n)) (96 + d) w) := by
  have hq := H.p
  obtain ⟨s1, s2, s3⟩ := sumV H.2.1 hv
  obtain ⟨l1, l2, l3, l4, l5, l6⟩ := sumL H.2.1 hd
  have rT := roomT H.2.1 hd
  have b := H.2.1.1
  have B0 := b (4 + 4 * v) (by omega); have B1 := b (5 + 4 * v) (by omega); have B2 := b (6 + 4 * v) (by omega); have B3 := b (7 + 4 * v) (by omega)
  have C0 := b (16 + 4 * d) (by omega); have C1 := b (17 + 4 * d) (by omega); have C2 := b (18 + 4 * d) (by omega); have C3 := b (19 + 4 * d) (by omega)
  have bk := b (4 + k + 4 * v) (by omega)
  have ck := b (16 + k + 4 * d) (by omega)
  have ck2 : (f (16 + k + 4 * d)).toInt ≤ (m_X7_sum f (16 + 4 * d)).toInt := by
    obtain rfl | rfl | rfl | rfl : k = 0 ∨ k = 1 ∨ k = 2 ∨ k = 3 := by omega
    · rw [show 16 + 0 + 4 * d = 16 + 4 * d by omega]; omega
    · rw [show 16 + 1 + 4 * d = 17 + 4 * d by omega]; omega
    · rw [show 16 + 2 + 4 * d = 18 + 4 * d by omega]; omega
    · rw [show 16 + 3 + 4 * d = 19 + 4 * d by omega]; omega
  have bk2 : (f (4 + k + 4 * v)).toInt ≤ (m_X7_sum f (4 + 4 * v)).toInt := by
    obtain rfl | rfl | rfl | rfl : k = 0 ∨ k = 1 ∨ k = 2 ∨ k = 3 := by omega
    · rw [show 4 + 0 + 4 * v = 4 + 4 * v by omega]; omega
    · rw [show 4 + 1 + 4 * v = 5 + 4 * v by omega]; omega
    · rw [show 4 + 2 + 4 * v = 6 + 4 * v by omega]; omega
    · rw [show 4 + 3 + 4 * v = 7 + 4 * v by omega]; omega
  have tv : (f (4 + k + 4 * v) - n).toInt = (f (4 + k + 4 * v)).toInt - n.toInt := by rw [subT] <;> omega
  have tl : (f (16 + k + 4 * d) + n).toInt = (f (16 + k + 4 * d)).toInt + n.toInt := by rw [addT] <;> omega
  refine RI_amt H (fun i hi => ?_) (fun i hi => ?_) ⟨?_, ?_⟩ (fun i h1 h2 => ?_) ⟨fun i hi => ?_, ?_, fun w hw => ?_, fun d' hd' => ?_⟩ (fun d' hd' => ?_) ?_
  · rcases (by omega : i = 4 + k + 4 * v ∨ i = 16 + k + 4 * d ∨ i = 96 + d ∨ (i ≠ 4 + k + 4 * v ∧ i ≠ 16 + k + 4 * d ∧ i ≠ 96 + d)) with q | q | q | ⟨_, _, _⟩
    iterate 3 (subst q; simp (disch := omega) only [pk_un, pk_us])
    simp (disch := omega) only [pk_un]; exact hq i hi
  · simp (disch := omega) only [pk_un]
  · simp (disch := omega) only [pk_un]
  · simp (disch := omega) only [pk_un]
  · by_cases q : i = 96 + d
    · omega
    right; right; right; right
    simp (disch := omega) only [pk_un]
  · rcases (by omega : i = 4 + k + 4 * v ∨ i = 16 + k + 4 * d ∨ (i ≠ 4 + k + 4 * v ∧ i ≠ 16 + k + 4 * d)) with q | q | ⟨_, _⟩
    · subst q; simp (disch := omega) only [pk_un, pk_us]; omega
    · subst q; simp (disch := omega) only [pk_un, pk_us]; omega
    · simp (disch := omega) only [pk_un]; exact H.2.1.1 i hi
  · simp (disch := omega) only [pk_un]; exact H.2.1.2.1
  · have h5 := H.2.1.2.2.1 w hw
    by_cases q : w = v
    · subst q
      obtain rfl | rfl | rfl | rfl : k = 0 ∨ k = 1 ∨ k = 2 ∨ k = 3 := by omega
      all_goals (simp (disch := omega) only [pk_un, pk_se]; simp only [Nat.add_zero, Nat.reduceAdd] at *; omega)
    · simp (disch := omega) only [pk_un]; exact h5
  · obtain ⟨h5, h6⟩ := H.2.1.2.2.2 d' hd'
    by_cases q : d' = d
    · subst q
      obtain rfl | rfl | rfl | rfl : k = 0 ∨ k = 1 ∨ k = 2 ∨ k = 3 := by omega
      all_goals (simp (disch := omega) only [pk_un, pk_se]; simp only [Nat.add_zero, Nat.reduceAdd] at *; omega)
    · simp (disch := omega) only [pk_un]; exact ⟨h5, h6⟩
  · by_cases q : d' = d
    · subst q
      rw [pk_us]
      refine ⟨fun h => absurd h hw, fun h => ?_⟩
      obtain ⟨rfl, h7⟩ := hw3 h
      obtain ⟨z0, z1, z2, z3⟩ := (H.2.2.1 d' hd').1 h7
      simp (disch := omega) only [pk_un]
      exact ⟨z1, z2, z3⟩
    · simp (disch := omega) only [pk_un]; exact H.2.2.1 d' hd'
  · simp (disch := omega) only [pk_un]; exact H.2.2.2.2.2.2.2.2.2
theorem L_skims {f g : St} (H : RI f g) {d v : Nat} (hd : d < 4) (hv : v < 3) {x : Int32} (hx : m_X7_vesselAt x = nI v) : (m_X0_skim g d v).1 = (m_X7_skims f d x).1 ∧ RI (m_X7_skims f d x).2 (m_X0_skim g d v).2 := by
  unfold m_X0_skim m_X7_skims
  rw [hx, nI_clamp (by omega), if_neg (nI_nl0 (n := v) (by omega)), roomE H hd, H.p (96 + d) (by omega), H.p (7 + 4 * v) (by omega), H.p (19 + 4 * d) (by omega), mnC]
  have rT := roomT H.2.1 hd
  obtain ⟨l1, l2, l3, l4, l5, l6⟩ := sumL H.2.1 hd
  have b7 := H.2.1.1 (7 + 4 * v) (by omega)
  have E := minT (m_X7_room f d) (f (7 + 4 * v))
  generalize (if m_X7_room f d ≤ f (7 + 4 * v) then m_X7_room f d else f (7 + 4 * v) : Int32) = n at E ⊢
  have key : (if 1 ≤ n then (true, (upd (upd (upd g (7 + 4 * v) (f (7 + 4 * v) - n)) (19 + 4 * d) (f (19 + 4 * d) + n)) (96 + d) 2)) else (false, g) : Bool × St).1 = (if n = 0 then (false, f) else (true, (upd (upd (upd f (7 + 4 * v) (f (7 + 4 * v) - n)) (19 + 4 * d) (f (19 + 4 * d) + n)) (96 + d) 2)) : Bool × St).1 ∧ RI (if n = 0 then (false, f) else (true, (upd (upd (upd f (7 + 4 * v) (f (7 + 4 * v) - n)) (19 + 4 * d) (f (19 + 4 * d) + n)) (96 + d) 2)) : Bool × St).2 (if 1 ≤ n then (true, (upd (upd (upd g (7 + 4 * v) (f (7 + 4 * v) - n)) (19 + 4 * d) (f (19 + 4 * d) + n)) (96 + d) 2)) else (false, g) : Bool × St).2 := by
    by_cases c : n = 0
    · rw [if_pos c, if_neg (by subst c; decide)]; exact ⟨rfl, H⟩
    · have c2 : 1 ≤ n := by
        rw [leT, T1]; rw [eqT, T0] at c; omega
      rw [if_neg c, if_pos c2]
      exact ⟨rfl, L_move H hd hv (k := 3) (by omega) (by omega) (by rw [show 4 + 3 + 4 * v = 7 + 4 * v by omega]; omega) (by omega) (by decide) (fun h => absurd h (by decide))⟩
  by_cases c0 : f (96 + d) = 0
  · rw [if_pos c0, if_pos c0]; exact key
  rw [if_neg c0, if_neg c0]
  by_cases c2 : f (96 + d) = 2
  · rw [if_pos c2, if_pos c2]; exact key
  · rw [if_neg c2, if_neg c2]; exact ⟨rfl, H⟩
theorem L_draws {f g : St} (H : RI f g) {d v : Nat} (hd : d < 4) (hv : v < 3) {x : Int32} (hx : m_X7_vesselAt x = nI v) : (m_X0_draw g d v).1 = (m_X7_draws f d x).1 ∧ RI (m_X7_draws f d x).2 (m_X0_draw g d v).2 := by
  unfold m_X0_draw m_X7_draws m_X5_holdsCopperAlone
  rw [hx, nI_clamp (by omega), if_neg (nI_nl0 (n := v) (by omega)), roomE H hd, H.p (96 + d) (by omega), H.p (4 + 4 * v) (by omega), H.p (16 + 4 * d) (by omega), H.p (79 + v) (by omega), all_sum H (t := 1 + v) (a := 4 + 4 * v) (by omega) (by omega), mnC]
  have rT := roomT H.2.1 hd
  obtain ⟨l1, l2, l3, l4, l5, l6⟩ := sumL H.2.1 hd
  have b4 := H.2.1.1 (4 + 4 * v) (by omega)
  have E := minT (m_X7_room f d) (f (4 + 4 * v))
  generalize (if m_X7_room f d ≤ f (4 + 4 * v) then m_X7_room f d else f (4 + 4 * v) : Int32) = n at E ⊢
  have hb := H.2.2.2.2.2.1 (79 + v) (by omega)
  by_cases c0 : f (96 + d) = 0
  rotate_left
  · rw [if_neg c0, if_neg c0]
    simp only [ite_self]
    exact ⟨trivial, H⟩
  rw [if_pos c0, if_pos c0]
  rcases hb with hb | hb
  rotate_left
  · rw [hb, if_neg (by decide), if_pos rfl]; exact ⟨rfl, H⟩
  rw [hb, if_pos rfl, if_neg (show ¬ (0 : Int32) = 1 by decide)]
  by_cases c1 : f (4 + 4 * v) = 0
  · rw [c1, if_pos (show (0 : Int32) ≤ 0 by decide), if_pos rfl, if_neg (by decide)]; exact ⟨rfl, H⟩
  rw [if_neg c1, if_neg (show ¬ f (4 + 4 * v) ≤ 0 by rw [leT, T0]; rw [eqT, T0] at c1; omega)]
  by_cases c2 : f (4 + 4 * v) = m_X7_sum f (4 + 4 * v)
  rotate_left
  · rw [if_neg c2, if_neg c2, if_neg (by decide)]; exact ⟨rfl, H⟩
  rw [if_pos c2, if_pos c2, if_pos rfl]
  exact ⟨rfl, L_move H hd hv (k := 0) (by omega) (by omega) (by rw [show 4 + 0 + 4 * v = 4 + 4 * v by omega]; omega) (by omega) (by decide) (fun _ => ⟨rfl, c0⟩)⟩
