/-! heats kept, counts kept, the minute, what the loop takes -/
theorem vA (g : St) (x : Int32) : ∃ v, v < 3 ∧ (m_X7_vesselAt x = -1 ∨ m_X7_vesselAt x = nI v) := by
  rcases vAt g x with ⟨v1, -⟩ | ⟨v, hv, v1, -, -⟩
  · exact ⟨0, by omega, Or.inl v1⟩
  · exact ⟨v, hv, Or.inr v1⟩
theorem Hz_pour_n {f : St} (h : Hz f) {d : Nat} (hd : d < 4) {x : Int32} (hx : m_X7_vesselAt x = -1) : Hz (m_X7_pours f d x).2 := by
  unfold m_X7_pours
  generalize ((if (if 2 ≤ (m_X7_sum f (16 + 4 * d)) then 2 else (m_X7_sum f (16 + 4 * d))) ≤ (20 - (m_X7_sum f (32 + 4 * d))) then (if 2 ≤ (m_X7_sum f (16 + 4 * d)) then 2 else (m_X7_sum f (16 + 4 * d))) else (20 - (m_X7_sum f (32 + 4 * d)))) : Int32) = n
  have HS := Hz_skulls h hd n
  rw [hx]
  generalize m_X7_skulls f d n = f1 at HS ⊢
  have n1 : (-1 : Int32) < 0 := by decide
  by_cases c1 : f (96 + d) = 1
  · rw [if_pos c1, if_pos n1, if_neg (show ¬ f (96 + d) = 2 by rw [c1]; decide), if_neg (show ¬ f (96 + d) = 3 by rw [c1]; decide)]
    exact h
  rw [if_neg c1]
  by_cases c2 : f (96 + d) = 2
  · rw [if_pos c2]
    by_cases x2 : x = 2
    · rw [if_pos x2]; exact Hz_un HS (fun i hi => by simp (disch := omega) only [pk_un])
    rw [if_neg x2]
    by_cases x0 : x = 0
    · rw [if_pos x0]; exact Hz_un HS (fun i hi => by simp (disch := omega) only [pk_un])
    rw [if_neg x0, if_neg (show ¬ f (96 + d) = 3 by rw [c2]; decide)]
    exact h
  rw [if_neg c2]
  by_cases c3 : f (96 + d) = 3
  · rw [if_pos c3]
    by_cases x15 : x = 15
    · rw [if_pos x15]; exact Hz_un HS (fun i hi => by simp (disch := omega) only [pk_un])
    · rw [if_neg x15]; exact h
  · rw [if_neg c3]; exact h
theorem Hz_pour_v {f : St} (H : Ia f) (h : Hz f) {d v : Nat} (hd : d < 4) (hv : v < 3) {x : Int32} (hx : m_X7_vesselAt x = nI v) : Hz (m_X7_pours f d x).2 := by
  obtain ⟨l1, l2, l3, l4, l5, l6⟩ := sumL H hd
  obtain ⟨s1, s2, s3⟩ := sumV H hv
  have hT := frT H hd
  unfold m_X7_pours
  generalize ((if (if 2 ≤ (m_X7_sum f (16 + 4 * d)) then 2 else (m_X7_sum f (16 + 4 * d))) ≤ (20 - (m_X7_sum f (32 + 4 * d))) then (if 2 ≤ (m_X7_sum f (16 + 4 * d)) then 2 else (m_X7_sum f (16 + 4 * d))) else (20 - (m_X7_sum f (32 + 4 * d)))) : Int32) = n at hT ⊢
  rw [hx, nI_clamp (by omega)]
  by_cases c1 : f (96 + d) = 1
  rotate_left
  · rw [if_neg c1]
    have HS := Hz_skulls h hd n
    generalize m_X7_skulls f d n = f1 at HS ⊢
    by_cases c2 : f (96 + d) = 2
    · rw [if_pos c2]
      by_cases x2 : x = 2
      · rw [if_pos x2]; exact Hz_un HS (fun i hi => by simp (disch := omega) only [pk_un])
      rw [if_neg x2]
      by_cases x0 : x = 0
      · rw [if_pos x0]; exact Hz_un HS (fun i hi => by simp (disch := omega) only [pk_un])
      rw [if_neg x0, if_neg (show ¬ f (96 + d) = 3 by rw [c2]; decide)]
      exact h
    rw [if_neg c2]
    by_cases c3 : f (96 + d) = 3
    · rw [if_pos c3]
      by_cases x15 : x = 15
      · rw [if_pos x15]; exact Hz_un HS (fun i hi => by simp (disch := omega) only [pk_un])
      · rw [if_neg x15]; exact h
    · rw [if_neg c3]; exact h
  rw [if_pos c1, if_neg (nI_nl0 (n := v) (by omega))]
  have bT : (m_X7_sum f (16 + 4 * d) - n).toInt = (m_X7_sum f (16 + 4 * d)).toInt - n.toInt := by rw [subT] <;> omega
  by_cases c : m_X7_sum f (4 + 4 * v) + (m_X7_sum f (16 + 4 * d) - n) ≤ 300
  rotate_left
  · rw [if_neg c]; exact h
  rw [if_pos c]
  by_cases cb : m_X7_sum f (16 + 4 * d) - n ≤ 0
  · rw [if_pos cb]
    have HS := Hz_skulls h hd n
    generalize m_X7_skulls f d n = f1 at HS ⊢
    exact Hz_un HS (fun i hi => by simp (disch := omega) only [pk_un])
  rw [if_neg cb]
  rw [leT, bT, T0] at cb
  have M := mixT (h := f (76 + v)) (s := m_X7_sum f (4 + 4 * v)) (b := m_X7_sum f (16 + 4 * d) - n) (h.1 v hv).1 (h.1 v hv).2 (by omega) (by rw [bT]; omega) (by rw [bT]; omega)
  generalize (f (76 + v) * m_X7_sum f (4 + 4 * v) + 1150 * (m_X7_sum f (16 + 4 * d) - n)) / (m_X7_sum f (4 + 4 * v) + (m_X7_sum f (16 + 4 * d) - n)) = q at M ⊢
  have H2 : Hz (upd f (76 + v) q) := by
    refine ⟨fun w hw => ?_, ?_⟩
    · by_cases e : w = v
      · subst e; rw [pk_us]; exact M
      · rw [pk_un (by omega)]; exact h.1 w hw
    · rw [pk_un (by omega)]; exact h.2
  have HS := Hz_skulls H2 hd n
  generalize m_X7_skulls (upd f (76 + v) q) d n = f1 at HS ⊢
  exact Hz_un HS (fun i hi => by simp (disch := omega) only [pk_un])
theorem Hz_does {f g : St} (H : RI f g) (h : Hz f) {r : Nat} (hr : r < 2) (w : Int32) : Hz (m_X7_does f r w).2 := by
  unfold m_X7_does
  by_cases c1 : w = 1
  · rw [if_pos c1]; exact Hz_takes h r hr _
  rw [if_neg c1]
  rcases carry H hr with ⟨e1, -⟩ | ⟨d, hd, e1, -, -, -⟩
  · rw [e1, if_neg (show ¬ (0 : Int32) ≤ -1 by decide)]; exact h
  rw [e1, if_pos (nI_pos' (by omega)), nI_clamp (by omega)]
  obtain ⟨v, hv, hx⟩ := vA g (f (100 + r))
  by_cases c2 : w = 2
  · rw [if_pos c2]; exact Hz_sets h r hr _
  rw [if_neg c2]
  by_cases c3 : w = 3
  · rw [if_pos c3]; exact Hz_taps h hd _
  rw [if_neg c3]
  by_cases c4 : w = 4
  · rw [if_pos c4]
    rcases hx with hx | hx
    · exact Hz_pour_n h hd hx
    · exact Hz_pour_v H.2.1 h hd hv hx
  rw [if_neg c4]
  by_cases c5 : w = 5
  · rw [if_pos c5]; exact Hz_skims h hd hv hx
  rw [if_neg c5]
  by_cases c6 : w = 6
  · rw [if_pos c6]; exact Hz_draws h hd hv hx
  rw [if_neg c6]
  exact Hz_cleans h hd _
/-- the counts of orders -/
def Hk (a b : Int32) (f : St) : Prop := f 104 = a ∧ f 105 = b
theorem Hk_un {a b : Int32} {f f' : St} (h : Hk a b f) (e : ∀ i, i = 104 ∨ i = 105 → f' i = f i) : Hk a b f' := ⟨by rw [e 104 (by omega)]; exact h.1, by rw [e 105 (by omega)]; exact h.2⟩
theorem Hk_takes {a b : Int32} {f g : St} (H : RI f g) (h : Hk a b f) (r : Nat) (hr : r < 2) (x : Int32) : Hk a b (m_X7_takes f r x).2 := by
  unfold m_X7_takes
  split
  · exact h
  rcases stands H x with ⟨e, -⟩ | ⟨d, hd, e, -, -, -⟩
  · rw [e, if_neg (show ¬ (0 : Int32) ≤ -1 by decide)]; exact h
  · rw [e, if_pos (nI_pos' (by omega)), nI_clamp (by omega)]
    exact Hk_un h (fun i hi => by show upd (upd f _ _) _ _ i = f i; simp (disch := omega) only [pk_un])
theorem Hk_sets {a b : Int32} {f : St} (h : Hk a b f) (r : Nat) (hr : r < 2) {d : Nat} (hd : d < 4) (e : f (102 + r) = nI d) (x : Int32) : Hk a b (m_X7_sets f r x).2 := by
  unfold m_X7_sets
  rw [e, nI_clamp (by omega)]
  split
  · split
    · exact Hk_un h (fun i hi => by show upd (upd f _ _) _ _ i = f i; simp (disch := omega) only [pk_un])
    · exact h
  · exact h
theorem Hk_cleans {a b : Int32} {f : St} (h : Hk a b f) {d : Nat} (hd : d < 4) (x : Int32) : Hk a b (m_X7_cleans f d x).2 := by
  unfold m_X7_cleans
  (repeat' split) <;> first | exact h | exact Hk_un h (fun i hi => by simp (disch := omega) only [pk_un])
theorem Hk_taps {a b : Int32} {f : St} (h : Hk a b f) {d : Nat} (hd : d < 4) (x : Int32) : Hk a b (m_X7_taps f d x).2 := by
  unfold m_X7_taps
  generalize (if (m_X7_room f d) ≤ (m_X7_sum f 0) then (m_X7_room f d) else (m_X7_sum f 0) : Int32) = n
  by_cases c : x = 0
  · rw [if_pos c]
    by_cases c2 : f (96 + d) = 0
    · rw [if_pos c2]
      by_cases c3 : n = 0
      · rw [if_pos c3]; exact h
      rw [if_neg c3]
      by_cases c4 : n - f 0 * n / m_X7_sum f 0 - f 1 * n / m_X7_sum f 0 ≤ f 2
      · rw [if_pos c4]; exact Hk_un h (fun i hi => by simp (disch := omega) only [pk_un])
      · rw [if_neg c4]; exact Hk_un h (fun i hi => by simp (disch := omega) only [pk_un])
    · rw [if_neg c2]; exact h
  · rw [if_neg c]; exact h
theorem Hk_skims {a b : Int32} {f : St} (h : Hk a b f) {d v : Nat} (hd : d < 4) (hv : v < 3) {x : Int32} (hx : m_X7_vesselAt x = -1 ∨ m_X7_vesselAt x = nI v) : Hk a b (m_X7_skims f d x).2 := by
  unfold m_X7_skims
  rcases hx with hx | hx
  · rw [hx, if_pos (show (-1 : Int32) < 0 by decide)]; exact h
  rw [hx, if_neg (nI_nl0 (n := v) (by omega)), nI_clamp (by omega)]
  generalize (if (m_X7_room f d) ≤ (f (7 + 4 * v)) then (m_X7_room f d) else (f (7 + 4 * v)) : Int32) = n
  (repeat' split) <;> first | exact h | exact Hk_un h (fun i hi => by simp (disch := omega) only [pk_un])
theorem Hk_draws {a b : Int32} {f : St} (h : Hk a b f) {d v : Nat} (hd : d < 4) (hv : v < 3) {x : Int32} (hx : m_X7_vesselAt x = -1 ∨ m_X7_vesselAt x = nI v) : Hk a b (m_X7_draws f d x).2 := by
  unfold m_X7_draws
  rcases hx with hx | hx
  · rw [hx, if_pos (show (-1 : Int32) < 0 by decide)]; exact h
  rw [hx, if_neg (nI_nl0 (n := v) (by omega)), nI_clamp (by omega)]
  generalize (if (m_X7_room f d) ≤ (f (4 + 4 * v)) then (m_X7_room f d) else (f (4 + 4 * v)) : Int32) = n
  (repeat' split) <;> first | exact h | exact Hk_un h (fun i hi => by simp (disch := omega) only [pk_un])
theorem Hk_skulls {a b : Int32} {f : St} (h : Hk a b f) {d : Nat} (hd : d < 4) (n : Int32) : Hk a b (m_X7_skulls f d n) := by
  refine Hk_un h (fun i hi => ?_)
  unfold m_X7_skulls
  simp (disch := omega) only [pk_un]
theorem Hk_pour_n {a b : Int32} {f : St} (h : Hk a b f) {d : Nat} (hd : d < 4) {x : Int32} (hx : m_X7_vesselAt x = -1) : Hk a b (m_X7_pours f d x).2 := by
  unfold m_X7_pours
  generalize ((if (if 2 ≤ (m_X7_sum f (16 + 4 * d)) then 2 else (m_X7_sum f (16 + 4 * d))) ≤ (20 - (m_X7_sum f (32 + 4 * d))) then (if 2 ≤ (m_X7_sum f (16 + 4 * d)) then 2 else (m_X7_sum f (16 + 4 * d))) else (20 - (m_X7_sum f (32 + 4 * d)))) : Int32) = n
  have HS := Hk_skulls h hd n
  rw [hx]
  generalize m_X7_skulls f d n = f1 at HS ⊢
  have n1 : (-1 : Int32) < 0 := by decide
  by_cases c1 : f (96 + d) = 1
  · rw [if_pos c1, if_pos n1, if_neg (show ¬ f (96 + d) = 2 by rw [c1]; decide), if_neg (show ¬ f (96 + d) = 3 by rw [c1]; decide)]
    exact h
  rw [if_neg c1]
  by_cases c2 : f (96 + d) = 2
  · rw [if_pos c2]
    by_cases x2 : x = 2
    · rw [if_pos x2]; exact Hk_un HS (fun i hi => by simp (disch := omega) only [pk_un])
    rw [if_neg x2]
    by_cases x0 : x = 0
    · rw [if_pos x0]; exact Hk_un HS (fun i hi => by simp (disch := omega) only [pk_un])
    rw [if_neg x0, if_neg (show ¬ f (96 + d) = 3 by rw [c2]; decide)]
    exact h
  rw [if_neg c2]
  by_cases c3 : f (96 + d) = 3
  · rw [if_pos c3]
    by_cases x15 : x = 15
    · rw [if_pos x15]; exact Hk_un HS (fun i hi => by simp (disch := omega) only [pk_un])
    · rw [if_neg x15]; exact h
  · rw [if_neg c3]; exact h
theorem Hk_pour_v {a b : Int32} {f : St} (H : Ia f) (h : Hk a b f) {d v : Nat} (hd : d < 4) (hv : v < 3) {x : Int32} (hx : m_X7_vesselAt x = nI v) : Hk a b (m_X7_pours f d x).2 := by
  obtain ⟨l1, l2, l3, l4, l5, l6⟩ := sumL H hd
  obtain ⟨s1, s2, s3⟩ := sumV H hv
  have hT := frT H hd
  unfold m_X7_pours
  generalize ((if (if 2 ≤ (m_X7_sum f (16 + 4 * d)) then 2 else (m_X7_sum f (16 + 4 * d))) ≤ (20 - (m_X7_sum f (32 + 4 * d))) then (if 2 ≤ (m_X7_sum f (16 + 4 * d)) then 2 else (m_X7_sum f (16 + 4 * d))) else (20 - (m_X7_sum f (32 + 4 * d)))) : Int32) = n at hT ⊢
  rw [hx, nI_clamp (by omega)]
  by_cases c1 : f (96 + d) = 1
  rotate_left
  · rw [if_neg c1]
    have HS := Hk_skulls h hd n
    generalize m_X7_skulls f d n = f1 at HS ⊢
    by_cases c2 : f (96 + d) = 2
    · rw [if_pos c2]
      by_cases x2 : x = 2
      · rw [if_pos x2]; exact Hk_un HS (fun i hi => by simp (disch := omega) only [pk_un])
      rw [if_neg x2]
      by_cases x0 : x = 0
      · rw [if_pos x0]; exact Hk_un HS (fun i hi => by simp (disch := omega) only [pk_un])
      rw [if_neg x0, if_neg (show ¬ f (96 + d) = 3 by rw [c2]; decide)]
      exact h
    rw [if_neg c2]
    by_cases c3 : f (96 + d) = 3
    · rw [if_pos c3]
      by_cases x15 : x = 15
      · rw [if_pos x15]; exact Hk_un HS (fun i hi => by simp (disch := omega) only [pk_un])
      · rw [if_neg x15]; exact h
    · rw [if_neg c3]; exact h
  rw [if_pos c1, if_neg (nI_nl0 (n := v) (by omega))]
  have bT : (m_X7_sum f (16 + 4 * d) - n).toInt = (m_X7_sum f (16 + 4 * d)).toInt - n.toInt := by rw [subT] <;> omega
  by_cases c : m_X7_sum f (4 + 4 * v) + (m_X7_sum f (16 + 4 * d) - n) ≤ 300
  rotate_left
  · rw [if_neg c]; exact h
  rw [if_pos c]
  by_cases cb : m_X7_sum f (16 + 4 * d) - n ≤ 0
  · rw [if_pos cb]
    have HS := Hk_skulls h hd n
    generalize m_X7_skulls f d n = f1 at HS ⊢
    exact Hk_un HS (fun i hi => by simp (disch := omega) only [pk_un])
  rw [if_neg cb]
  rw [leT, bT, T0] at cb
  generalize (f (76 + v) * m_X7_sum f (4 + 4 * v) + 1150 * (m_X7_sum f (16 + 4 * d) - n)) / (m_X7_sum f (4 + 4 * v) + (m_X7_sum f (16 + 4 * d) - n)) = q
  have H2 : Hk a b (upd f (76 + v) q) := Hk_un h (fun i hi => by simp (disch := omega) only [pk_un])
  have HS := Hk_skulls H2 hd n
  generalize m_X7_skulls (upd f (76 + v) q) d n = f1 at HS ⊢
  exact Hk_un HS (fun i hi => by simp (disch := omega) only [pk_un])
theorem Hk_does {a b : Int32} {f g : St} (H : RI f g) (h : Hk a b f) {r : Nat} (hr : r < 2) (w : Int32) : Hk a b (m_X7_does f r w).2 := by
  unfold m_X7_does
  by_cases c1 : w = 1
  · rw [if_pos c1]; exact Hk_takes H h r hr _
  rw [if_neg c1]
  rcases carry H hr with ⟨e1, -⟩ | ⟨d, hd, e1, -, -, -⟩
  · rw [e1, if_neg (show ¬ (0 : Int32) ≤ -1 by decide)]; exact h
  rw [e1, if_pos (nI_pos' (by omega)), nI_clamp (by omega)]
  obtain ⟨v, hv, hx⟩ := vA g (f (100 + r))
  by_cases c2 : w = 2
  · rw [if_pos c2]; exact Hk_sets h r hr hd e1 _
  rw [if_neg c2]
  by_cases c3 : w = 3
  · rw [if_pos c3]; exact Hk_taps h hd _
  rw [if_neg c3]
  by_cases c4 : w = 4
  · rw [if_pos c4]
    rcases hx with hx | hx
    · exact Hk_pour_n h hd hx
    · exact Hk_pour_v H.2.1 h hd hv hx
  rw [if_neg c4]
  by_cases c5 : w = 5
  · rw [if_pos c5]; exact Hk_skims h hd hv hx
  rw [if_neg c5]
  by_cases c6 : w = 6
  · rw [if_pos c6]; exact Hk_draws h hd hv hx
  rw [if_neg c6]
  exact Hk_cleans h hd _
theorem Hz_fin {f : St} (h : Hz f) {r : Nat} (hr : r < 2) : Hz (m_X7_finishes f r) := Hz_un h (fun i hi => (fin7 hr).2.2.2 i (by omega) (by omega) (by omega))
theorem Hz_goesl {r : Nat} (hr : r < 2) : ∀ (j : Nat) {f : St}, Hz f → Hz (m_X7_goes_l j f r)
  | 0, _, h => h
  | j + 1, f, h => by
    show Hz (if f (104 + r) ≤ 0 then f else if f (108 + 16 * r) = 0 then (if f (109 + 16 * r) = f (100 + r) then m_X7_goes_l j (m_X7_finishes f r) r else f) else f)
    split
    · exact h
    split
    · split
      · exact Hz_goesl hr j (Hz_fin h hr)
      · exact h
    · exact h
theorem L_goest {f g : St} (H : RI f g) (h : Hz f) {r : Nat} (hr : r < 2) : RI (m_X7_goes_t f r) (m_X0_work_t g r (1 - r)) ∧ Hz (m_X7_goes_t f r) := by
  unfold m_X7_goes_t m_X0_work_t
  rw [H.p (104 + r) (by omega)]
  rcases firstE H hr with ⟨e1, e2⟩ | ⟨n, w, n1, n8, w7, e1, e2, e3, e4⟩
  · rw [if_pos e1, if_pos e1]; exact ⟨H, h⟩
  have z : ¬ f (104 + r) = 0 := by rw [e1]; exact nI_ne0 (by omega) (by omega)
  rw [if_neg z, if_neg z, e3, e2]
  by_cases c : w = 0
  · subst c
    rw [if_pos (show nI 0 ≤ 0 by decide), if_pos (show nI 0 = 0 by decide)]
    refine ⟨L_stepw H hr e4, ?_⟩
    generalize f (100 + r) + (if f (109 + 16 * r) ≤ f (100 + r) then (-1) else 1) = y
    split
    · exact Hz_un h (fun i hi => by simp (disch := omega) only [pk_un])
    split
    · exact Hz_un h (fun i hi => by simp (disch := omega) only [pk_un])
    · exact Hz_un h (fun i hi => by simp (disch := omega) only [pk_un])
  · rw [if_neg (nI_nle (n := w) (by omega) (by omega)), if_neg (nI_ne0 (n := w) (by omega) (by omega))]
    obtain ⟨p1, p2⟩ := L_does H h.2 hr (w := w) (by omega) w7 e3
    have p3 := Hz_does H h hr (nI w)
    have p4 : Hk (f 104) (f 105) (m_X7_does f r (nI w)).2 := Hk_does H ⟨rfl, rfl⟩ hr (nI w)
    have p5 : (m_X7_does f r (nI w)).2 (104 + r) = nI n := by
      rw [← e1]
      obtain rfl | rfl : r = 0 ∨ r = 1 := by omega
      · exact p4.1
      · exact p4.2
    rw [p1]
    by_cases b : (m_X7_does f r (nI w)).1 = true
    · rw [if_pos b, if_pos b]
      exact ⟨L_finish p2 hr p5 n1 n8, Hz_fin p3 hr⟩
    · rw [if_neg b, if_neg b, p2.p (106 + r) (by omega)]
      exact ⟨RI_fre p2 (by unfold Fre; omega) (by unfold Pl; omega) (by omega) _, Hz_un p3 (fun i hi => by simp (disch := omega) only [pk_un])⟩
theorem L_goes {f g : St} (H : RI f g) (h : Hz f) {r : Nat} (hr : r < 2) : RI (m_X7_goes f r) (m_X0_work g r (1 - r)) ∧ Hz (m_X7_goes f r) := by
  unfold m_X7_goes m_X0_work
  exact L_goest (L_goesl hr 8 H) (Hz_goesl hr 8 h) hr
theorem Hz_blows {f g : St} (H : RI f g) (h : Hz f) {v : Nat} (hv : v < 3) : Hz (m_X7_blows f v) := by
  obtain ⟨s1, s2, s3⟩ := sumV H.2.1 hv
  have b4 := H.2.1.1 (4 + 4 * v) (by omega); have b5 := H.2.1.1 (5 + 4 * v) (by omega); have b6 := H.2.1.1 (6 + 4 * v) (by omega); have b7 := H.2.1.1 (7 + 4 * v) (by omega)
  obtain ⟨h0, h1⟩ := h.1 v hv
  unfold m_X7_blows
  by_cases c1 : f (76 + v) < 1000
  · rw [if_pos c1]; exact Hz_un h (fun i hi => by simp (disch := omega) only [pk_un])
  rw [if_neg c1]
  by_cases c2 : f (76 + v) ≤ 1300
  rotate_left
  · rw [if_neg c2]; exact Hz_un h (fun i hi => by simp (disch := omega) only [pk_un])
  rw [if_pos c2]
  rw [leT, show (1300 : Int32).toInt = 1300 from rfl] at c2
  have E2 := minT 6 (f (5 + 4 * v))
  generalize (if 6 ≤ f (5 + 4 * v) then 6 else f (5 + 4 * v) : Int32) = n2 at E2 ⊢
  rw [show (6 : Int32).toInt = 6 from rfl] at E2
  have D2 : (6 - n2).toInt = 6 - n2.toInt := by rw [subT] <;> rw [show (6 : Int32).toInt = 6 from rfl] <;> omega
  have E3 := minT (6 - n2) (f (6 + 4 * v))
  generalize (if 6 - n2 ≤ f (6 + 4 * v) then 6 - n2 else f (6 + 4 * v) : Int32) = n3 at E3 ⊢
  have D3 : (6 - n2 - n3).toInt = 6 - n2.toInt - n3.toInt := by rw [subT] <;> rw [D2] <;> omega
  have E1 := minT (6 - n2 - n3) (f (4 + 4 * v))
  generalize (if 6 - n2 - n3 ≤ f (4 + 4 * v) then 6 - n2 - n3 else f (4 + 4 * v) : Int32) = n1 at E1 ⊢
  by_cases c3 : f 142 + n3 ≤ f 148
  rotate_left
  · rw [if_neg c3]; exact Hz_un h (fun i hi => by simp (disch := omega) only [pk_un])
  rw [if_pos c3]
  have U4 : (4 * n2).toInt = 4 * n2.toInt := by rw [mulT] <;> rw [show (4 : Int32).toInt = 4 from rfl] <;> omega
  have U3 : (3 * n3).toInt = 3 * n3.toInt := by rw [mulT] <;> rw [show (3 : Int32).toInt = 3 from rfl] <;> omega
  have U2 : (2 * n1).toInt = 2 * n1.toInt := by rw [mulT] <;> rw [show (2 : Int32).toInt = 2 from rfl] <;> omega
  have U43 : (4 * n2 + 3 * n3).toInt = 4 * n2.toInt + 3 * n3.toInt := by rw [addT] <;> rw [U4, U3] <;> omega
  have Us : (4 * n2 + 3 * n3 + 2 * n1).toInt = 4 * n2.toInt + 3 * n3.toInt + 2 * n1.toInt := by rw [addT] <;> rw [U43, U2] <;> omega
  have Uh : (f (76 + v) + (4 * n2 + 3 * n3 + 2 * n1)).toInt = (f (76 + v)).toInt + (4 * n2.toInt + 3 * n3.toInt + 2 * n1.toInt) := by rw [addT] <;> rw [Us] <;> omega
  refine ⟨fun w hw => ?_, ?_⟩
  · by_cases q : w = v
    · subst q
      simp (disch := omega) only [pk_un, pk_us]
      rw [Uh]; omega
    · simp (disch := omega) only [pk_un]; exact h.1 w hw
  · simp (disch := omega) only [pk_un]; exact h.2
theorem Hz_cool {f : St} (h : Hz f) {v : Nat} (hv : v < 3) {a b : Nat} (hb : 76 + v = b) : Hz (if m_X7_sum f a ≤ 0 then f else upd f b (if 8 ≤ f b then f b - 8 else 0)) := by
  subst hb
  obtain ⟨h0, h1⟩ := h.1 v hv
  split
  · exact h
  have e8 : (f (76 + v) - 8).toInt = (f (76 + v)).toInt - 8 := by rw [subT] <;> rw [show (8 : Int32).toInt = 8 from rfl] <;> omega
  have e : 0 ≤ (if 8 ≤ f (76 + v) then f (76 + v) - 8 else 0 : Int32).toInt ∧ (if 8 ≤ f (76 + v) then f (76 + v) - 8 else 0 : Int32).toInt ≤ 1400 := by
    by_cases c : 8 ≤ f (76 + v)
    · rw [if_pos c, e8]
      rw [leT, show (8 : Int32).toInt = 8 from rfl] at c
      omega
    · rw [if_neg c, T0]; omega
  generalize (if 8 ≤ f (76 + v) then f (76 + v) - 8 else 0 : Int32) = y at e ⊢
  refine ⟨fun w hw => ?_, ?_⟩
  · by_cases q : w = v
    · subst q; rw [pk_us]; exact e
    · rw [pk_un (by omega)]; exact h.1 w hw
  · rw [pk_un (by omega)]; exact h.2
theorem feeds_upd (f : St) : m_X7_feeds (upd f 142 0) = upd (m_X7_feeds f) 142 0 := by
  have s : m_X7_sum (upd f 142 0) 0 = m_X7_sum f 0 := sum_cg (pk_un (by omega)) (pk_un (by omega)) (pk_un (by omega)) (pk_un (by omega))
  unfold m_X7_feeds
  rw [s, pk_un (show 149 ≠ 142 by omega)]
  by_cases c : f 149 = 0
  · rw [if_pos c, if_pos c]
  rw [if_neg c, if_neg c]
  by_cases c2 : m_X7_sum f 0 + 9 ≤ 600
  · rw [if_pos c2, if_pos c2]
    simp (disch := omega) only [pk_un]
    rw [upd_comm (j := 142) (y := 0) (by omega), upd_comm (j := 142) (y := 0) (by omega), upd_comm (j := 142) (y := 0) (by omega), upd_comm (j := 142) (y := 0) (by omega), upd_comm (j := 142) (y := 0) (by omega), upd_comm (j := 142) (y := 0) (by omega)]
  · rw [if_neg c2, if_neg c2]
    simp (disch := omega) only [pk_un]
    rw [upd_comm (j := 142) (y := 0) (by omega)]
theorem Hz_feeds {f : St} (h : Hz f) : Hz (m_X7_feeds f) := by
  unfold m_X7_feeds
  (repeat' split) <;> first | exact h | exact Hz_un h (fun i hi => by simp (disch := omega) only [pk_un])
theorem Hz_cast {f : St} (h : Hz f) : Hz (m_X7_minute_j7 f) := by
  unfold m_X7_minute_j7
  split
  · exact Hz_un h (fun i hi => by simp (disch := omega) only [pk_un])
  · exact Hz_un h (fun i hi => by simp (disch := omega) only [pk_un])
theorem L_blow1 {F G : St} (H : RI F G) (h : Hz F) {v i : Nat} (hv : v < 3) (hi : 79 + v = i) : RI (if F i = 1 then m_X7_blows F v else F) (if G i = 0 then G else m_X0_blowParts G v) ∧ Hz (if F i = 1 then m_X7_blows F v else F) := by
  subst hi
  rw [H.p (79 + v) (by omega)]
  rcases H.2.2.2.2.2.1 (79 + v) (by omega) with q | q
  · rw [q, if_neg (show ¬ (0 : Int32) = 1 by decide), if_pos rfl]; exact ⟨H, h⟩
  · rw [q, if_pos rfl, if_neg (show ¬ (1 : Int32) = 0 by decide)]; exact ⟨L_blows H hv, Hz_blows H h hv⟩
theorem L_pre {f g : St} (H : RI f g) (h : Hz f) : RI (m_X7_pre f) (m_X0_castAnode (m_X0_blowVessels (m_X0_feedFurnace (upd g 140 (g 140 + 1))))) ∧ Hz (m_X7_pre f) := by
  have H1 : RI (upd f 140 (f 140 + 1)) (upd g 140 (g 140 + 1)) := by
    rw [H.p 140 (by omega)]
    exact RI_fre H (by unfold Fre; omega) (by unfold Pl; omega) (by omega) _
  have h1 : Hz (upd f 140 (f 140 + 1)) := Hz_un h (fun i hi => by simp (disch := omega) only [pk_un])
  unfold m_X7_pre m_X0_blowVessels
  rw [feeds_upd]
  have H2 := L_feeds H1
  have h2 := Hz_feeds h1
  generalize m_X7_feeds (upd f 140 (f 140 + 1)) = f2 at H2 h2 ⊢
  generalize m_X0_feedFurnace (upd g 140 (g 140 + 1)) = g2 at H2 ⊢
  have H3 : RI (upd f2 142 0) (upd g2 142 0) := RI_fre H2 (by unfold Fre; omega) (by unfold Pl; omega) (by omega) _
  have h3 : Hz (upd f2 142 0) := Hz_un h2 (fun i hi => by simp (disch := omega) only [pk_un])
  have e1 : m_X0_blowVessels_j1 g2 = (if upd g2 142 0 79 = 0 then upd g2 142 0 else m_X0_blowParts (upd g2 142 0) 0) := by
    unfold m_X0_blowVessels_j1
    rw [pk_un (show 79 ≠ 142 by omega)]
  rw [e1]
  generalize upd f2 142 0 = f3 at H3 h3 ⊢
  generalize upd g2 142 0 = g3 at H3 ⊢
  have A1 : RI (m_X7_minute_j1 f3) (if g3 79 = 0 then g3 else m_X0_blowParts g3 0) ∧ Hz (m_X7_minute_j1 f3) := L_blow1 H3 h3 (v := 0) (i := 79) (by omega) rfl
  generalize m_X7_minute_j1 f3 = f4 at A1 ⊢
  generalize (if g3 79 = 0 then g3 else m_X0_blowParts g3 0) = g4 at A1 ⊢
  have A2 : RI (m_X7_minute_j2 f4) (m_X0_blowVessels_j2 g4) ∧ Hz (m_X7_minute_j2 f4) := L_blow1 A1.1 A1.2 (v := 1) (i := 80) (by omega) rfl
  have A3 : RI (m_X7_minute_j3 (m_X7_minute_j2 f4)) (m_X0_blowVessels_j3 (m_X0_blowVessels_j2 g4)) ∧ Hz (m_X7_minute_j3 (m_X7_minute_j2 f4)) := L_blow1 A2.1 A2.2 (v := 2) (i := 81) (by omega) rfl
  generalize m_X7_minute_j3 (m_X7_minute_j2 f4) = f5 at A3 ⊢
  generalize m_X0_blowVessels_j3 (m_X0_blowVessels_j2 g4) = g5 at A3 ⊢
  have A4 : RI (m_X7_minute_j4 f5) (m_X5_cool g5 0) ∧ Hz (m_X7_minute_j4 f5) := ⟨L_cool A3.1 A3.2.1 (v := 0) (a := 4) (b := 76) (by omega) rfl rfl, Hz_cool A3.2 (v := 0) (a := 4) (b := 76) (by omega) rfl⟩
  generalize m_X7_minute_j4 f5 = f6 at A4 ⊢
  generalize m_X5_cool g5 0 = g6 at A4 ⊢
  have A5 : RI (m_X7_minute_j5 f6) (m_X5_cool g6 1) ∧ Hz (m_X7_minute_j5 f6) := ⟨L_cool A4.1 A4.2.1 (v := 1) (a := 8) (b := 77) (by omega) rfl rfl, Hz_cool A4.2 (v := 1) (a := 8) (b := 77) (by omega) rfl⟩
  generalize m_X7_minute_j5 f6 = f7 at A5 ⊢
  generalize m_X5_cool g6 1 = g7 at A5 ⊢
  have A6 : RI (m_X7_minute_j6 f7) (m_X5_cool g7 2) ∧ Hz (m_X7_minute_j6 f7) := ⟨L_cool A5.1 A5.2.1 (v := 2) (a := 12) (b := 78) (by omega) rfl rfl, Hz_cool A5.2 (v := 2) (a := 12) (b := 78) (by omega) rfl⟩
  exact ⟨L_cast A6.1, Hz_cast A6.2⟩
theorem L_minute {f g : St} (H : RI f g) (h : Hz f) : RI (m_X7_minute f) (m_X0_passMinute g) ∧ Hz (m_X7_minute f) := by
  unfold m_X7_minute m_X0_passMinute
  obtain ⟨P, p⟩ := L_pre H h
  obtain ⟨Q, q⟩ := L_goes P p (r := 0) (by omega)
  exact L_goes Q q (r := 1) (by omega)
theorem N7_of {f : St} (H : Iv f) : N7 f := by
  refine ⟨⟨fun r hr => ?_, (sumF H.1).2, fun v hv => (sumV H.1 hv).2, fun d hd => ?_⟩, fun r hr => ?_⟩
  · rcases H.2.2.1.2.1 r hr with e | ⟨d, hd, e⟩
    · rw [e]; decide
    · rw [e, ltT, nI_toInt (by omega), show (4 : Int32).toInt = 4 from rfl]; omega
  · obtain ⟨l1, l2, l3, l4, l5, l6⟩ := sumL H.1 hd
    exact ⟨l3, l4, l6, l5⟩
  · obtain ⟨n, h8, e⟩ := H.2.2.2.1.1 r hr
    rw [e, nI_toInt (by omega)]; omega
theorem L_minl : ∀ (j : Nat) {f g : St}, RI f g → Hz f → RI (m_X7_minutes_l j f) (m_X6_minutes_l j g) ∧ Hz (m_X7_minutes_l j f)
  | 0, _, _, H, h => ⟨H, h⟩
  | j + 1, _, _, H, h => L_minl j (L_minute H h).1 (L_minute H h).2
theorem ordE {f g : St} (H : RI f g) : m_X0_hasOrders g = true ↔ ¬ f 104 + f 105 ≤ 0 := by
  obtain ⟨a, a8, ea⟩ := H.2.2.2.2.1.1 0 (by omega)
  obtain ⟨b, b8, eb⟩ := H.2.2.2.2.1.1 1 (by omega)
  have ea : f 104 = nI a := ea
  have eb : f 105 = nI b := eb
  unfold m_X0_hasOrders
  rw [H.p 104 (by omega), H.p 105 (by omega), ea, eb]
  have ta : (nI a).toInt = a := nI_toInt (by omega)
  have tb : (nI b).toInt = b := nI_toInt (by omega)
  have e : (nI a + nI b).toInt = a + b := by rw [addT] <;> rw [ta, tb] <;> omega
  have E : (nI a + nI b ≤ 0) ↔ ((a : Int) + (b : Int) ≤ 0) := by rw [leT, e, T0]
  rw [E]
  by_cases q : 0 < nI a
  · rw [if_pos q]
    rw [ltT, T0, ta] at q
    exact ⟨fun _ => by omega, fun _ => rfl⟩
  rw [if_neg q]
  rw [ltT, T0, ta] at q
  by_cases q2 : nI b ≤ 0
  · rw [if_pos q2]
    rw [leT, T0, tb] at q2
    exact ⟨fun h => absurd h (by decide), fun h => absurd (by omega) h⟩
  · rw [if_neg q2]
    rw [leT, T0, tb] at q2
    exact ⟨fun _ => by omega, fun _ => rfl⟩
/-- what the law's loop keeps -/
def RQ (f g : St) : Prop := RI f g ∧ Hz f
theorem L_untl : ∀ (n k : Nat) {f g : St}, RI f g → Hz f → (m_X6_until_l n k g).1 = (m_X7_until_l n k f).1 ∧ RQ (m_X7_until_l n k f).2 (m_X6_until_l n k g).2
  | 0, _, _, _, H, h => ⟨rfl, H, h⟩
  | n + 1, k, f, g, H, h => by
    show (if m_X0_hasOrders g = true then m_X6_until_l n (1 + k) (m_X0_passMinute g) else (k, g)).1 = (if f 104 + f 105 ≤ 0 then (k, f) else m_X7_until_l n (1 + k) (m_X7_minute f)).1 ∧ RQ (if f 104 + f 105 ≤ 0 then (k, f) else m_X7_until_l n (1 + k) (m_X7_minute f)).2 (if m_X0_hasOrders g = true then m_X6_until_l n (1 + k) (m_X0_passMinute g) else (k, g)).2
    by_cases c : m_X0_hasOrders g = true
    · rw [if_pos c, if_neg ((ordE H).1 c)]
      exact L_untl n (1 + k) (L_minute H h).1 (L_minute H h).2
    · have c2 : f 104 + f 105 ≤ 0 := Decidable.byContradiction (fun q => c ((ordE H).2 q))
      rw [if_neg c, if_pos c2]
      exact ⟨rfl, H, h⟩
theorem coldT {h s k : Int32} (h0 : 0 ≤ h.toInt) (h1 : h.toInt ≤ 1400) (s0 : 0 ≤ s.toInt) (k0 : 0 < k.toInt) (hsk : s.toInt + k.toInt ≤ 400) : 0 ≤ (h * s / (s + k)).toInt ∧ (h * s / (s + k)).toInt ≤ 1400 := by
  have p0 : 0 ≤ h.toInt * s.toInt := Int.mul_nonneg h0 s0
  have p1 : h.toInt * s.toInt ≤ 1400 * s.toInt := Int.mul_le_mul_of_nonneg_right h1 s0
  have e1 : (h * s).toInt = h.toInt * s.toInt := mulT (by omega) (by omega)
  have e4 : (s + k).toInt = s.toInt + k.toInt := by rw [addT] <;> omega
  have sne : s + k ≠ -1 := by
    intro q
    rw [q, show (-1 : Int32).toInt = -1 from rfl] at e4
    omega
  rw [Int32.toInt_div_of_ne_right _ _ sne, e1, e4, Int.tdiv_eq_ediv_of_nonneg (by omega)]
  refine ⟨Int.ediv_nonneg (by omega) (by omega), Int.ediv_le_of_le_mul (by omega) ?_⟩
  rw [Int.mul_add]; omega
theorem Q_cong {f f' g : St} (h : ∀ i, i < 150 → f' i = f i) (H : RQ f g) : RQ f' g := ⟨L_cong h H.1, Hz_un H.2 (fun i hi => h i (by omega))⟩
theorem Q_init : RQ f0 g0 := by
  refine ⟨L_init, fun v hv => ?_, by decide +kernel⟩
  obtain rfl | rfl | rfl : v = 0 ∨ v = 1 ∨ v = 2 := by omega
  all_goals decide +kernel
theorem Q_bool {f g : St} (H : RQ f g) : ∀ i, i = 79 ∨ i = 80 ∨ i = 81 ∨ i = 149 → g i = 0 ∨ g i = 1 := L_bool H.1
theorem Q_fed {f g : St} (H : RQ f g) {x : Int32} (hx : x = 0 ∨ x = 1) : (m_X6_fed g x).1 = (m_X7_fed f x).1 ∧ RQ (m_X7_fed f x).2 (m_X6_fed g x).2 := by
  refine ⟨(L_fed H.1 hx).1, (L_fed H.1 hx).2, ?_⟩
  unfold m_X7_fed
  (repeat' split) <;> first | exact H.2 | exact Hz_un H.2 (fun i hi => by simp (disch := omega) only [pk_un])
theorem Q_limit {f g : St} (H : RQ f g) (x : Int32) : (m_X6_limit g x).1 = (m_X7_limit f x).1 ∧ RQ (m_X7_limit f x).2 (m_X6_limit g x).2 := by
  refine ⟨(L_limit H.1 x).1, (L_limit H.1 x).2, ?_⟩
  unfold m_X7_limit
  (repeat' split) <;> first | exact H.2 | exact Hz_un H.2 (fun i hi => by simp (disch := omega) only [pk_un])
theorem Q_blow {f g : St} (H : RQ f g) (x : Int32) {y : Int32} (hy : y = 0 ∨ y = 1) : (m_X6_blow g x y).1 = (m_X7_blow f x y).1 ∧ RQ (m_X7_blow f x y).2 (m_X6_blow g x y).2 := by
  refine ⟨(L_blow H.1 x hy).1, (L_blow H.1 x hy).2, ?_⟩
  unfold m_X7_blow
  (repeat' split) <;> first | exact H.2 | exact Hz_un H.2 (fun i hi => by simp (disch := omega) only [pk_un])
theorem Q_coldz {f g : St} (H : RQ f g) : ∀ v k, v < 3 → 1 ≤ k → k ≤ 50 → ¬ m_X7_sum f (4 + 4 * v) = 0 → m_X7_sum f (4 + 4 * v) + nI k ≤ 300 → ¬ m_X7_sum f (4 + 4 * v) + nI k = 0 := L_coldz H.1
theorem Q_cold {f g : St} (H : RQ f g) (x y : Int32) : (m_X6_cold g x y).1 = (m_X7_cold f x y).1 ∧ RQ (m_X7_cold f x y).2 (m_X6_cold g x y).2 := by
  refine ⟨(L_cold H.1 x y).1, (L_cold H.1 x y).2, ?_⟩
  unfold m_X7_cold
  rcases vnum g x with ⟨h, v, hv, rfl, e⟩ | ⟨h, e⟩
  rotate_left
  · rw [if_neg h]; exact H.2
  rw [if_pos h]
  rcases in_or y 1 50 with ⟨h2, k, h3, h4, rfl⟩ | ⟨h2, hk⟩
  rotate_left
  · rw [if_neg (show ¬ m_X7_in y 1 50 = true from h2)]; exact H.2
  rw [if_pos (show m_X7_in (nI k) 1 50 = true from h2)]
  rw [nI_clamp (by omega), nI_clamp (by omega)]
  by_cases c : m_X7_sum f (4 + 4 * v) = 0
  · rw [if_pos c]; exact H.2
  rw [if_neg c]
  by_cases c2 : m_X7_sum f (4 + 4 * v) + nI k ≤ 300
  rotate_left
  · rw [if_neg c2]; exact H.2
  rw [if_pos c2]
  obtain ⟨e1, a, b⟩ := sumV H.1.2.1 hv
  have tk : (nI k).toInt = k := nI_toInt (by omega)
  have M := coldT (h := f (76 + v)) (s := m_X7_sum f (4 + 4 * v)) (k := nI k) (H.2.1 v hv).1 (H.2.1 v hv).2 (by omega) (by omega) (by omega)
  generalize f (76 + v) * m_X7_sum f (4 + 4 * v) / (m_X7_sum f (4 + 4 * v) + nI k) = q at M ⊢
  refine ⟨fun w hw => ?_, ?_⟩
  · by_cases e : w = v
    · subst e; simp (disch := omega) only [pk_un, pk_us]; exact M
    · simp (disch := omega) only [pk_un]; exact H.2.1 w hw
  · simp (disch := omega) only [pk_un]; exact H.2.2
theorem Q_ordq {f g : St} (H : RQ f g) : ∀ r, r < 2 → f (104 + r) = nI (f (104 + r)).toNatClampNeg ∧ (f (104 + r)).toNatClampNeg ≤ 8 := L_ordq H.1
theorem Q_order {f g : St} (H : RQ f g) (x y z : Int32) : (m_X6_order g x y z).1 = (m_X7_order f x y z).1 ∧ RQ (m_X7_order f x y z).2 (m_X6_order g x y z).2 := by
  refine ⟨(L_order H.1 x y z).1, (L_order H.1 x y z).2, ?_⟩
  unfold m_X7_order
  (repeat' split) <;> first | exact H.2 | exact Hz_un H.2 (fun i hi => by simp (disch := omega) only [pk_un])
theorem Q_drop {f g : St} (H : RQ f g) (x : Int32) : (m_X6_drop g x).1 = (m_X7_drop f x).1 ∧ RQ (m_X7_drop f x).2 (m_X6_drop g x).2 := by
  refine ⟨(L_drop H.1 x).1, (L_drop H.1 x).2, ?_⟩
  unfold m_X7_drop
  (repeat' split) <;> first | exact H.2 | exact Hz_un H.2 (fun i hi => by simp (disch := omega) only [pk_un])
theorem Q_minP {f g : St} (H : RQ f g) : ∀ j, N7 (m_X7_pre (m_X7_minutes_l j f)) ∧ N7 (m_X7_goes (m_X7_pre (m_X7_minutes_l j f)) 0) := by
  intro j
  obtain ⟨A, a⟩ := L_minl j H.1 H.2
  obtain ⟨P, p⟩ := L_pre A a
  exact ⟨N7_of P.2, N7_of (L_goes P p (r := 0) (by omega)).1.2⟩
theorem Q_minutes {f g : St} (H : RQ f g) (x : Int32) : (m_X6_minutes g x).1 = (m_X7_minutes f x).1 ∧ RQ (m_X7_minutes f x).2 (m_X6_minutes g x).2 := by
  unfold m_X6_minutes m_X7_minutes
  by_cases c : m_X7_in x 1 60 = true
  · rw [if_pos (show m_X6_isBetween 1 x 60 = true from c), if_pos c]
    obtain ⟨A, a⟩ := L_minl x.toNatClampNeg H.1 H.2
    refine ⟨?_, A, a⟩
    show (m_X6_minutes_l x.toNatClampNeg g) 146 - g 146 = (m_X7_minutes_l x.toNatClampNeg f) 146 - f 146
    rw [A.p 146 (by omega), H.1.p 146 (by omega)]
  · rw [if_neg (show ¬ m_X6_isBetween 1 x 60 = true from c), if_neg c]
    exact ⟨rfl, H⟩
theorem Q_until {f g : St} (H : RQ f g) (x : Int32) : (m_X6_until g x).1 = (m_X7_until f x).1 ∧ RQ (m_X7_until f x).2 (m_X6_until g x).2 := by
  unfold m_X6_until m_X7_until
  by_cases c : m_X7_in x 1 200 = true
  · rw [if_pos (show m_X6_isBetween 1 x 200 = true from c), if_pos c]
    obtain ⟨A, B⟩ := L_untl x.toNatClampNeg 0 H.1 H.2
    exact ⟨congrArg nI A, B⟩
  · rw [if_neg (show ¬ m_X6_isBetween 1 x 200 = true from c), if_neg c]
    exact ⟨rfl, H⟩
theorem Q_crane {f g : St} (H : RQ f g) (x y : Int32) : m_X6_crane g x y = m_X7_crane f x y := L_crane H.1 x y
theorem Q_ladle {f g : St} (H : RQ f g) (x y : Int32) : m_X6_ladle g x y = m_X7_ladle f x y := L_ladle H.1 x y
theorem Q_vessel {f g : St} (H : RQ f g) (x y : Int32) : m_X6_vessel g x y = m_X7_vessel f x y := L_vessel H.1 x y
theorem Q_book {f g : St} (H : RQ f g) (x y : Int32) : m_X6_book g x y = m_X7_book f x y := L_book H.1 x y
theorem Q_count {f g : St} (H : RQ f g) (nk x : Int32) : m_X6_count g nk x = m_X7_count f nk x := L_count H.1 nk x
