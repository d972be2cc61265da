/-! the class's numbers g and the reference's numbers f: what ties them, what always holds of f -/
def Pl (i : Nat) : Prop := i < 48 ∨ (52 ≤ i ∧ i < 92) ∨ (96 ≤ i ∧ i < 102) ∨ (104 ≤ i ∧ i < 108) ∨ i = 140 ∨ (142 ≤ i ∧ i ≤ 146) ∨ i = 148 ∨ i = 149
def cv (x : Int32) : Int32 := if x < 0 then (-4) else x
def RG (f g : St) : Prop := (∀ i, Pl i → g i = f i) ∧ (∀ d, d < 4 → g (92 + d) = cv (f (92 + d))) ∧ g 48 = f 48 - 5 * f 143 ∧ (∀ r k, r < 2 → k < (f (104 + r)).toNatClampNeg → g (108 + 16 * r + 2 * k) = f (108 + 16 * r + 2 * k) ∧ g (109 + 16 * r + 2 * k) = f (109 + 16 * r + 2 * k))
/-- amounts -/
def Ia (f : St) : Prop := (∀ i, i < 48 → 0 ≤ (f i).toInt) ∧ (f 0).toInt + (f 1).toInt + (f 2).toInt + (f 3).toInt ≤ 600 ∧ (∀ v, v < 3 → (f (4 + 4 * v)).toInt + (f (5 + 4 * v)).toInt + (f (6 + 4 * v)).toInt + (f (7 + 4 * v)).toInt ≤ 300) ∧ (∀ d, d < 4 → (f (32 + 4 * d)).toInt + (f (33 + 4 * d)).toInt + (f (34 + 4 * d)).toInt + (f (35 + 4 * d)).toInt ≤ 20 ∧ (f (16 + 4 * d)).toInt + (f (17 + 4 * d)).toInt + (f (18 + 4 * d)).toInt + (f (19 + 4 * d)).toInt + (f (32 + 4 * d)).toInt + (f (33 + 4 * d)).toInt + (f (34 + 4 * d)).toInt + (f (35 + 4 * d)).toInt ≤ 100)
/-- sorts -/
def Is (f : St) : Prop := ∀ d, d < 4 → (f (96 + d) = 0 → f (16 + 4 * d) = 0 ∧ f (17 + 4 * d) = 0 ∧ f (18 + 4 * d) = 0 ∧ f (19 + 4 * d) = 0) ∧ (f (96 + d) = 3 → f (17 + 4 * d) = 0 ∧ f (18 + 4 * d) = 0 ∧ f (19 + 4 * d) = 0)
/-- who carries what, and where -/
def Ic (f : St) : Prop := (∀ d, d < 4 → f (92 + d) = -1 ∨ f (92 + d) = 0 ∨ f (92 + d) = 1) ∧ (∀ r, r < 2 → f (102 + r) = -1 ∨ ∃ d, d < 4 ∧ f (102 + r) = nI d) ∧ (∀ r d, r < 2 → d < 4 → (f (102 + r) = nI d ↔ f (92 + d) = nI r)) ∧ (∀ r d, r < 2 → d < 4 → f (92 + d) = nI r → f (88 + d) = f (100 + r))
/-- orders -/
def Io (f : St) : Prop := (∀ r, r < 2 → ∃ n, n ≤ 8 ∧ f (104 + r) = nI n) ∧ (∀ r k, r < 2 → k < (f (104 + r)).toNatClampNeg → ∃ w, w ≤ 7 ∧ f (108 + 16 * r + 2 * k) = nI w)
/-- the rest -/
def Ir (f : St) : Prop := (∀ i, i = 79 ∨ i = 80 ∨ i = 81 ∨ i = 149 → f i = 0 ∨ f i = 1) ∧ f 49 = 0 ∧ f 50 = 0 ∧ f 51 = 0 ∧ f 141 = f 70
def Iv (f : St) : Prop := Ia f ∧ Is f ∧ Ic f ∧ Io f ∧ Ir f
def RI (f g : St) : Prop := RG f g ∧ Iv f
theorem L_cong {f f' g : St} (h : ∀ i, i < 150 → f' i = f i) (H : RI f g) : RI f' g := by
  sorry
theorem L_init : RI f0 g0 := by
  sorry
theorem L_bool {f g : St} (H : RI f g) : ∀ i, i = 79 ∨ i = 80 ∨ i = 81 ∨ i = 149 → g i = 0 ∨ g i = 1 := by
  sorry
theorem L_fed {f g : St} (H : RI f g) {x : Int32} (hx : x = 0 ∨ x = 1) : (m_X6_fed g x).1 = (m_X7_fed f x).1 ∧ RI (m_X7_fed f x).2 (m_X6_fed g x).2 := by
  sorry
theorem L_limit {f g : St} (H : RI f g) (x : Int32) : (m_X6_limit g x).1 = (m_X7_limit f x).1 ∧ RI (m_X7_limit f x).2 (m_X6_limit g x).2 := by
  sorry
theorem L_blow {f g : St} (H : RI f g) (x : Int32) {y : Int32} (hy : y = 0 ∨ y = 1) : (m_X6_blow g x y).1 = (m_X7_blow f x y).1 ∧ RI (m_X7_blow f x y).2 (m_X6_blow g x y).2 := by
  sorry
theorem L_coldz {f g : St} (H : RI f g) : ∀ v k, v < 3 → 1 ≤ k → k ≤ 50 → ¬ m_X7_sum f (4 + 4 * v) = 0 → m_X7_sum f (4 + 4 * v) + nI k ≤ 300 → ¬ m_X7_sum f (4 + 4 * v) + nI k = 0 := by
  sorry
theorem L_cold {f g : St} (H : RI f g) (x y : Int32) : (m_X6_cold g x y).1 = (m_X7_cold f x y).1 ∧ RI (m_X7_cold f x y).2 (m_X6_cold g x y).2 := by
  sorry
theorem L_ordq {f g : St} (H : RI f g) : ∀ r, r < 2 → f (104 + r) = nI (f (104 + r)).toNatClampNeg ∧ (f (104 + r)).toNatClampNeg ≤ 8 := by
  sorry
theorem L_order {f g : St} (H : RI f g) (x y z : Int32) : (m_X6_order g x y z).1 = (m_X7_order f x y z).1 ∧ RI (m_X7_order f x y z).2 (m_X6_order g x y z).2 := by
  sorry
theorem L_drop {f g : St} (H : RI f g) (x : Int32) : (m_X6_drop g x).1 = (m_X7_drop f x).1 ∧ RI (m_X7_drop f x).2 (m_X6_drop g x).2 := by
  sorry
theorem L_minP {f g : St} (H : RI f g) : ∀ j, N7 (m_X7_pre (m_X7_minutes_l j f)) ∧ N7 (m_X7_goes (m_X7_pre (m_X7_minutes_l j f)) 0) := by
  sorry
theorem L_minutes {f g : St} (H : RI f g) (x : Int32) : (m_X6_minutes g x).1 = (m_X7_minutes f x).1 ∧ RI (m_X7_minutes f x).2 (m_X6_minutes g x).2 := by
  sorry
theorem L_until {f g : St} (H : RI f g) (x : Int32) : (m_X6_until g x).1 = (m_X7_until f x).1 ∧ RI (m_X7_until f x).2 (m_X6_until g x).2 := by
  sorry
theorem L_crane {f g : St} (H : RI f g) (x y : Int32) : m_X6_crane g x y = m_X7_crane f x y := by
  sorry
theorem L_ladle {f g : St} (H : RI f g) (x y : Int32) : m_X6_ladle g x y = m_X7_ladle f x y := by
  sorry
theorem L_vessel {f g : St} (H : RI f g) (x y : Int32) : m_X6_vessel g x y = m_X7_vessel f x y := by
  sorry
theorem L_book {f g : St} (H : RI f g) (x y : Int32) : m_X6_book g x y = m_X7_book f x y := by
  sorry
theorem L_count {f g : St} (H : RI f g) (nk x : Int32) : m_X6_count g nk x = m_X7_count f nk x := by
  sorry
