/-! clean, freeze, pour, tap -/
theorem L_cleans {f g : St} (H : RI f g) {d : Nat} (hd : d < 4) : (m_X0_clean g d).1 = (m_X7_cleans f d (f (88 + d))).1 ∧ RI (m_X7_cleans f d (f (88 + d))).2 (m_X0_clean g d).2 := by
  have hq := H.p
  have key : RI (upd (upd (upd (upd (upd (upd (upd (upd f (32 + 4 * d) ((f (32 + 4 * d)) - (f (32 + 4 * d)))) 60 ((f 60) + (f (32 + 4 * d)))) (33 + 4 * d) ((f (33 + 4 * d)) - (f (33 + 4 * d)))) 61 ((f 61) + (f (33 + 4 * d)))) (34 + 4 * d) ((f (34 + 4 * d)) - (f (34 + 4 * d)))) 62 ((f 62) + (f (34 + 4 * d)))) (35 + 4 * d) ((f (35 + 4 * d)) - (f (35 + 4 * d)))) 63 ((f 63) + (f (35 + 4 * d)))) (m_X4_clear (m_X4_addAll g 15 (8 + d)) (8 + d)) := by
    unfold m_X4_clear m_X4_addAll
    rw [show 1 + 4 * (8 + d) = 33 + 4 * d by omega, show 2 + 4 * (8 + d) = 34 + 4 * d by omega, show 3 + 4 * (8 + d) = 35 + 4 * d by omega, show 4 * (8 + d) = 32 + 4 * d by omega]
    simp only [Nat.reduceMul, Nat.reduceAdd, Int32.sub_self]
    simp (disch := omega) only [pk_un, hq]
    refine RI_amt H (fun i hi => ?_) (fun i hi => ?_) ⟨?_, ?_⟩ (fun i h1 h2 => ?_) ⟨fun i hi => ?_, ?_, fun w hw => ?_, fun d' hd' => ?_⟩ (fun d' hd' => ?_) ?_
    · rcases (by omega : i = 60 ∨ i = 61 ∨ i = 62 ∨ i = 63 ∨ i = 32 + 4 * d ∨ i = 33 + 4 * d ∨ i = 34 + 4 * d ∨ i = 35 + 4 * d ∨ (i ≠ 60 ∧ i ≠ 61 ∧ i ≠ 62 ∧ i ≠ 63 ∧ i ≠ 32 + 4 * d ∧ i ≠ 33 + 4 * d ∧ i ≠ 34 + 4 * d ∧ i ≠ 35 + 4 * d)) with q | q | q | q | q | q | q | q | ⟨_, _, _, _, _, _, _, _⟩
      iterate 8 (subst q; simp (disch := omega) only [pk_un, pk_us])
      simp (disch := omega) only [pk_un]; exact hq i hi
    · simp (disch := omega) only [pk_un]
    · simp (disch := omega) only [pk_un]
    · simp (disch := omega) only [pk_un]
    · by_cases q : 60 ≤ i ∧ i ≤ 63
      · left; unfold Fre; omega
      right; right; right; right
      simp (disch := omega) only [pk_un]
    · rcases (by omega : i = 32 + 4 * d ∨ i = 33 + 4 * d ∨ i = 34 + 4 * d ∨ i = 35 + 4 * d ∨ (i ≠ 32 + 4 * d ∧ i ≠ 33 + 4 * d ∧ i ≠ 34 + 4 * d ∧ i ≠ 35 + 4 * d)) with q | q | q | q | ⟨_, _, _, _⟩
      iterate 4 (subst q; simp (disch := omega) only [pk_un, pk_us]; decide)
      simp (disch := omega) only [pk_un]; exact H.2.1.1 i hi
    · simp (disch := omega) only [pk_un]; exact H.2.1.2.1
    · simp (disch := omega) only [pk_un]; exact H.2.1.2.2.1 w hw
    · obtain ⟨h5, h6⟩ := H.2.1.2.2.2 d' hd'
      by_cases q : d' = d
      · subst q
        have b := H.2.1.1
        have := b (32 + 4 * d') (by omega); have := b (33 + 4 * d') (by omega); have := b (34 + 4 * d') (by omega); have := b (35 + 4 * d') (by omega)
        simp (disch := omega) only [pk_un, pk_us]
        rw [T0]; omega
      · simp (disch := omega) only [pk_un]; exact ⟨h5, h6⟩
    · simp (disch := omega) only [pk_un]; exact H.2.2.1 d' hd'
    · simp (disch := omega) only [pk_un]; exact H.2.2.2.2.2.2.2.2.2
  unfold m_X0_clean m_X7_cleans
  rw [hq (88 + d) (by omega), hq (96 + d) (by omega), all_sum H (t := 8 + d) (a := 32 + 4 * d) (by omega) (by omega)]
  by_cases c0 : f (96 + d) = 0
  rotate_left
  · rw [if_neg c0, if_neg c0]; simp only [ite_self]; exact ⟨trivial, H⟩
  rw [if_pos c0, if_pos c0]
  by_cases cs : m_X7_sum f (32 + 4 * d) = 0
  · rw [if_pos cs, if_pos cs]; simp only [ite_self]; exact ⟨trivial, H⟩
  rw [if_neg cs, if_neg cs]
  by_cases c1 : f (88 + d) = 1
  · rw [if_pos c1, if_pos c1]; exact ⟨rfl, key⟩
  rw [if_neg c1, if_neg c1]
  by_cases c14 : f (88 + d) = 14
  · rw [if_pos c14, if_pos c14]; exact ⟨rfl, key⟩
  · rw [if_neg c14, if_neg c14]; exact ⟨rfl, H⟩
/-- what is left after freezing n: per stuff -/
theorem L_freeze {f g : St} (H : RI f g) {d : Nat} (hd : d < 4) {n : Int32} (h0 : 0 ≤ n.toInt) (h1 : n.toInt ≤ (m_X7_sum f (16 + 4 * d)).toInt) (h2 : n.toInt ≤ 20 - (m_X7_sum f (32 + 4 * d)).toInt) : RI (m_X7_skulls f d n) (m_X3_freeze g d n) ∧ (m_X7_sum (m_X7_skulls f d n) (16 + 4 * d)).toInt = (m_X7_sum f (16 + 4 * d)).toInt - n.toInt ∧ (∀ i, i < 16 + 4 * d ∨ (20 + 4 * d ≤ i ∧ i < 32 + 4 * d) ∨ 36 + 4 * d ≤ i → m_X7_skulls f d n i = f i ∧ m_X3_freeze g d n i = g i) ∧ (f (96 + d) = 3 → m_X7_skulls f d n (17 + 4 * d) = 0 ∧ m_X7_skulls f d n (18 + 4 * d) = 0 ∧ m_X7_skulls f d n (19 + 4 * d) = 0) := by
  have hq := H.p
  have hc : ∀ i, m_X3_freeze g d n i = (upd (upd (upd (upd (upd (upd (upd (upd g (16 + 4 * d) (m_X7_skulls f d n (16 + 4 * d))) (32 + 4 * d) (m_X7_skulls f d n (32 + 4 * d))) (17 + 4 * d) (m_X7_skulls f d n (17 + 4 * d))) (33 + 4 * d) (m_X7_skulls f d n (33 + 4 * d))) (18 + 4 * d) (m_X7_skulls f d n (18 + 4 * d))) (34 + 4 * d) (m_X7_skulls f d n (34 + 4 * d))) (19 + 4 * d) (m_X7_skulls f d n (19 + 4 * d))) (35 + 4 * d) (m_X7_skulls f d n (35 + 4 * d))) i := by
    intro i
    unfold m_X3_freeze m_X7_skulls
    simp only [mn_if, ← Int32.sub_eq_add_neg]
    simp (disch := omega) only [pk_un, pk_us, hq]
  have b := H.2.1.1
  obtain ⟨s1, s2, s3, s4, s5, s6⟩ := sumL H.2.1 hd
  have C0 := b (16 + 4 * d) (by omega); have C1 := b (17 + 4 * d) (by omega); have C2 := b (18 + 4 * d) (by omega); have C3 := b (19 + 4 * d) (by omega)
  have D0 := b (32 + 4 * d) (by omega); have D1 := b (33 + 4 * d) (by omega); have D2 := b (34 + 4 * d) (by omega); have D3 := b (35 + 4 * d) (by omega)
  have hs := H.2.2.1 d hd
  have E : ∃ a0 a1 a2 a3 : Int32, (m_X7_skulls f d n = upd (upd (upd (upd (upd (upd (upd (upd f (16 + 4 * d) (f (16 + 4 * d) - a0)) (32 + 4 * d) (f (32 + 4 * d) + a0)) (17 + 4 * d) (f (17 + 4 * d) - a1)) (33 + 4 * d) (f (33 + 4 * d) + a1)) (18 + 4 * d) (f (18 + 4 * d) - a2)) (34 + 4 * d) (f (34 + 4 * d) + a2)) (19 + 4 * d) (f (19 + 4 * d) - a3)) (35 + 4 * d) (f (35 + 4 * d) + a3)) ∧ 0 ≤ a0.toInt ∧ 0 ≤ a1.toInt ∧ 0 ≤ a2.toInt ∧ 0 ≤ a3.toInt ∧ a0.toInt ≤ (f (16 + 4 * d)).toInt ∧ a1.toInt ≤ (f (17 + 4 * d)).toInt ∧ a2.toInt ≤ (f (18 + 4 * d)).toInt ∧ a3.toInt ≤ (f (19 + 4 * d)).toInt ∧ a0.toInt + a1.toInt + a2.toInt + a3.toInt = n.toInt := by
    have M0 := minT n (f (16 + 4 * d))
    unfold m_X7_skulls
    generalize (if n ≤ f (16 + 4 * d) then n else f (16 + 4 * d) : Int32) = a0 at M0 ⊢
    have N0 : (n - a0).toInt = n.toInt - a0.toInt := by rw [subT] <;> omega
    have M1 := minT (n - a0) (f (17 + 4 * d))
    generalize (if n - a0 ≤ f (17 + 4 * d) then n - a0 else f (17 + 4 * d) : Int32) = a1 at M1 ⊢
    have N1 : (n - a0 - a1).toInt = n.toInt - a0.toInt - a1.toInt := by rw [subT] <;> rw [N0] <;> omega
    have M2 := minT (n - a0 - a1) (f (18 + 4 * d))
    generalize (if n - a0 - a1 ≤ f (18 + 4 * d) then n - a0 - a1 else f (18 + 4 * d) : Int32) = a2 at M2 ⊢
    have N2 : (n - a0 - a1 - a2).toInt = n.toInt - a0.toInt - a1.toInt - a2.toInt := by rw [subT] <;> rw [N1] <;> omega
    have M3 := minT (n - a0 - a1 - a2) (f (19 + 4 * d))
    generalize (if n - a0 - a1 - a2 ≤ f (19 + 4 * d) then n - a0 - a1 - a2 else f (19 + 4 * d) : Int32) = a3 at M3 ⊢
    exact ⟨a0, a1, a2, a3, rfl, by omega, by omega, by omega, by omega, by omega, by omega, by omega, by omega, by omega⟩
  obtain ⟨a0, a1, a2, a3, he, p0, p1, p2, p3, q0, q1, q2, q3, hn⟩ := E
  generalize m_X7_skulls f d n = f' at *
  generalize m_X3_freeze g d n = g' at *
  have X0 : (f (16 + 4 * d) - a0).toInt = (f (16 + 4 * d)).toInt - a0.toInt := by rw [subT] <;> omega
  have X1 : (f (17 + 4 * d) - a1).toInt = (f (17 + 4 * d)).toInt - a1.toInt := by rw [subT] <;> omega
  have X2 : (f (18 + 4 * d) - a2).toInt = (f (18 + 4 * d)).toInt - a2.toInt := by rw [subT] <;> omega
  have X3 : (f (19 + 4 * d) - a3).toInt = (f (19 + 4 * d)).toInt - a3.toInt := by rw [subT] <;> omega
  have Y0 : (f (32 + 4 * d) + a0).toInt = (f (32 + 4 * d)).toInt + a0.toInt := by rw [addT] <;> omega
  have Y1 : (f (33 + 4 * d) + a1).toInt = (f (33 + 4 * d)).toInt + a1.toInt := by rw [addT] <;> omega
  have Y2 : (f (34 + 4 * d) + a2).toInt = (f (34 + 4 * d)).toInt + a2.toInt := by rw [addT] <;> omega
  have Y3 : (f (35 + 4 * d) + a3).toInt = (f (35 + 4 * d)).toInt + a3.toInt := by rw [addT] <;> omega
  have v16 : f' (16 + 4 * d) = f (16 + 4 * d) - a0 := by rw [he]; simp (disch := omega) only [pk_un, pk_us]
  have v17 : f' (17 + 4 * d) = f (17 + 4 * d) - a1 := by rw [he]; simp (disch := omega) only [pk_un, pk_us]
  have v18 : f' (18 + 4 * d) = f (18 + 4 * d) - a2 := by rw [he]; simp (disch := omega) only [pk_un, pk_us]
  have v19 : f' (19 + 4 * d) = f (19 + 4 * d) - a3 := by rw [he]; simp (disch := omega) only [pk_un, pk_us]
  have v32 : f' (32 + 4 * d) = f (32 + 4 * d) + a0 := by rw [he]; simp (disch := omega) only [pk_un, pk_us]
  have v33 : f' (33 + 4 * d) = f (33 + 4 * d) + a1 := by rw [he]; simp (disch := omega) only [pk_un, pk_us]
  have v34 : f' (34 + 4 * d) = f (34 + 4 * d) + a2 := by rw [he]; simp (disch := omega) only [pk_un, pk_us]
  have v35 : f' (35 + 4 * d) = f (35 + 4 * d) + a3 := by rw [he]; simp (disch := omega) only [pk_un, pk_us]
  have vo : ∀ i, i < 16 + 4 * d ∨ (20 + 4 * d ≤ i ∧ i < 32 + 4 * d) ∨ 36 + 4 * d ≤ i → f' i = f i ∧ g' i = g i := by
    intro i hi
    rw [hc i, he]
    simp (disch := omega) only [pk_un]
    exact ⟨trivial, trivial⟩
  have vz : f (96 + d) = 3 → f' (17 + 4 * d) = 0 ∧ f' (18 + 4 * d) = 0 ∧ f' (19 + 4 * d) = 0 := by
    intro h3
    obtain ⟨z1, z2, z3⟩ := hs.2 h3
    rw [z1, T0] at q1; rw [z2, T0] at q2; rw [z3, T0] at q3
    refine ⟨?_, ?_, ?_⟩
    · rw [eqT, v17, X1, z1, T0]; omega
    · rw [eqT, v18, X2, z2, T0]; omega
    · rw [eqT, v19, X3, z3, T0]; omega
  have hv0 : f' (96 + d) = f (96 + d) := (vo _ (by omega)).1
  refine ⟨RI_amt H (fun i hi => ?_) (fun i hi => ?_) ⟨?_, ?_⟩ (fun i h1 h2 => ?_) ⟨fun i hi => ?_, ?_, fun w hw => ?_, fun d' hd' => ?_⟩ (fun d' hd' => ?_) ?_, ?_, vo, vz⟩
  · rcases (by omega : i = 16 + 4 * d ∨ i = 17 + 4 * d ∨ i = 18 + 4 * d ∨ i = 19 + 4 * d ∨ i = 32 + 4 * d ∨ i = 33 + 4 * d ∨ i = 34 + 4 * d ∨ i = 35 + 4 * d ∨ (i < 16 + 4 * d ∨ (20 + 4 * d ≤ i ∧ i < 32 + 4 * d) ∨ 36 + 4 * d ≤ i)) with q | q | q | q | q | q | q | q | q
    iterate 8 (subst q; rw [hc]; simp (disch := omega) only [pk_un, pk_us])
    rw [(vo i q).1, (vo i q).2]; exact hq i hi
  · exact (vo i (by omega)).2
  · exact (vo _ (by omega)).1
  · exact (vo _ (by omega)).1
  · exact Or.inr (Or.inr (Or.inr (Or.inr (vo _ (by omega)).1)))
  · rcases (by omega : i = 16 + 4 * d ∨ i = 17 + 4 * d ∨ i = 18 + 4 * d ∨ i = 19 + 4 * d ∨ i = 32 + 4 * d ∨ i = 33 + 4 * d ∨ i = 34 + 4 * d ∨ i = 35 + 4 * d ∨ (i < 16 + 4 * d ∨ (20 + 4 * d ≤ i ∧ i < 32 + 4 * d) ∨ 36 + 4 * d ≤ i)) with q | q | q | q | q | q | q | q | q
    · rw [q, v16, X0]; omega
    · rw [q, v17, X1]; omega
    · rw [q, v18, X2]; omega
    · rw [q, v19, X3]; omega
    · rw [q, v32, Y0]; omega
    · rw [q, v33, Y1]; omega
    · rw [q, v34, Y2]; omega
    · rw [q, v35, Y3]; omega
    · rw [(vo i q).1]; exact H.2.1.1 i hi
  · rw [(vo 0 (by omega)).1, (vo 1 (by omega)).1, (vo 2 (by omega)).1, (vo 3 (by omega)).1]; exact H.2.1.2.1
  · rw [(vo (4 + 4 * w) (by omega)).1, (vo (5 + 4 * w) (by omega)).1, (vo (6 + 4 * w) (by omega)).1, (vo (7 + 4 * w) (by omega)).1]; exact H.2.1.2.2.1 w hw
  · have h5 := H.2.1.2.2.2 d' hd'
    by_cases q : d' = d
    · subst q
      rw [v16, v17, v18, v19, v32, v33, v34, v35, X0, X1, X2, X3, Y0, Y1, Y2, Y3]; omega
    · rw [(vo (16 + 4 * d') (by omega)).1, (vo (17 + 4 * d') (by omega)).1, (vo (18 + 4 * d') (by omega)).1, (vo (19 + 4 * d') (by omega)).1, (vo (32 + 4 * d') (by omega)).1, (vo (33 + 4 * d') (by omega)).1, (vo (34 + 4 * d') (by omega)).1, (vo (35 + 4 * d') (by omega)).1]; exact h5
  · by_cases q : d' = d
    · subst q
      rw [hv0]
      refine ⟨fun h => ?_, vz⟩
      obtain ⟨z0, z1, z2, z3⟩ := hs.1 h
      rw [z0, T0] at q0; rw [z1, T0] at q1; rw [z2, T0] at q2; rw [z3, T0] at q3
      refine ⟨?_, ?_, ?_, ?_⟩
      · rw [eqT, v16, X0, z0, T0]; omega
      · rw [eqT, v17, X1, z1, T0]; omega
      · rw [eqT, v18, X2, z2, T0]; omega
      · rw [eqT, v19, X3, z3, T0]; omega
    · rw [(vo (96 + d') (by omega)).1, (vo (16 + 4 * d') (by omega)).1, (vo (17 + 4 * d') (by omega)).1, (vo (18 + 4 * d') (by omega)).1, (vo (19 + 4 * d') (by omega)).1]; exact H.2.2.1 d' hd'
  · rw [(vo 141 (by omega)).1, (vo 70 (by omega)).1]; exact H.2.2.2.2.2.2.2.2.2
  · rw [sumT (f := f') (a := 16 + 4 * d) v16 ((fx (j := 17 + 4 * d) (by omega)).trans v17) ((fx (j := 18 + 4 * d) (by omega)).trans v18) ((fx (j := 19 + 4 * d) (by omega)).trans v19) (by omega) (by omega) (by omega) (by omega) (by omega), X0, X1, X2, X3]; omega
theorem L_cg {f g g' : St} (H : RI f g) (h : ∀ i, i < 150 → g' i = g i) : RI f g' := by
  refine ⟨⟨fun i hi => ?_, fun d hd => ?_, ?_, fun r k hr hk => ?_⟩, H.2⟩
  · rw [h i (by unfold Pl at hi; omega)]; exact H.1.1 i hi
  · rw [h _ (by omega)]; exact H.1.2.1 d hd
  · rw [h 48 (by omega)]; exact H.1.2.2.1
  · have := cnt8 H.2.2.2.2.1 hr
    rw [h _ (by omega), h _ (by omega)]; exact H.1.2.2.2 r k hr hk
def Em (f : St) (d : Nat) : St := upd (upd (upd (upd (upd f (16 + 4 * d) 0) (17 + 4 * d) 0) (18 + 4 * d) 0) (19 + 4 * d) 0) (96 + d) 0
theorem empE (g : St) (d : Nat) : m_X3_empty g d = Em g d := by
  unfold m_X3_empty m_X4_clear Em
  rw [show 1 + 4 * (4 + d) = 17 + 4 * d by omega, show 2 + 4 * (4 + d) = 18 + 4 * d by omega, show 3 + 4 * (4 + d) = 19 + 4 * d by omega, show 4 * (4 + d) = 16 + 4 * d by omega]
theorem L_emp {f g : St} (H : RI f g) {d : Nat} (hd : d < 4) : RI (Em f d) (Em g d) := by
  have hq := H.p
  unfold Em
  refine RI_amt H (fun i hi => ?_) (fun i hi => ?_) ⟨?_, ?_⟩ (fun i h1 h2 => ?_) ⟨fun i hi => ?_, ?_, fun w hw => ?_, fun d' hd' => ?_⟩ (fun d' hd' => ?_) ?_
  · rcases (by omega : i = 96 + d ∨ i = 16 + 4 * d ∨ i = 17 + 4 * d ∨ i = 18 + 4 * d ∨ i = 19 + 4 * d ∨ (i ≠ 96 + d ∧ i ≠ 16 + 4 * d ∧ i ≠ 17 + 4 * d ∧ i ≠ 18 + 4 * d ∧ i ≠ 19 + 4 * d)) with q | q | q | q | q | ⟨_, _, _, _, _⟩
    iterate 5 (subst q; simp (disch := omega) only [pk_un, pk_us])
    simp (disch := omega) only [pk_un]; exact hq i hi
  · simp (disch := omega) only [pk_un]
  · simp (disch := omega) only [pk_un]
  · simp (disch := omega) only [pk_un]
  · by_cases q : i = 96 + d
    · omega
    right; right; right; right
    simp (disch := omega) only [pk_un]
  · rcases (by omega : i = 16 + 4 * d ∨ i = 17 + 4 * d ∨ i = 18 + 4 * d ∨ i = 19 + 4 * d ∨ (i ≠ 16 + 4 * d ∧ i ≠ 17 + 4 * d ∧ i ≠ 18 + 4 * d ∧ i ≠ 19 + 4 * d)) with q | q | q | q | ⟨_, _, _, _⟩
    iterate 4 (subst q; simp (disch := omega) only [pk_un, pk_us]; decide)
    simp (disch := omega) only [pk_un]; exact H.2.1.1 i hi
  · simp (disch := omega) only [pk_un]; exact H.2.1.2.1
  · simp (disch := omega) only [pk_un]; exact H.2.1.2.2.1 w hw
  · obtain ⟨h5, h6⟩ := H.2.1.2.2.2 d' hd'
    by_cases q : d' = d
    · subst q
      have b := H.2.1.1
      have := b (16 + 4 * d') (by omega); have := b (17 + 4 * d') (by omega); have := b (18 + 4 * d') (by omega); have := b (19 + 4 * d') (by omega)
      simp (disch := omega) only [pk_un, pk_us]
      rw [T0]; omega
    · simp (disch := omega) only [pk_un]; exact ⟨h5, h6⟩
  · by_cases q : d' = d
    · subst q
      simp (disch := omega) only [pk_un, pk_us]
      exact ⟨fun _ => ⟨trivial, trivial, trivial, trivial⟩, fun _ => ⟨trivial, trivial, trivial⟩⟩
    · simp (disch := omega) only [pk_un]; exact H.2.2.1 d' hd'
  · simp (disch := omega) only [pk_un]; exact H.2.2.2.2.2.2.2.2.2
theorem L_tip52 {f g : St} (H : RI f g) {d : Nat} (hd : d < 4) : RI (upd (upd (upd (upd (upd (upd (upd (upd (upd f (16 + 4 * d) ((f (16 + 4 * d)) - (f (16 + 4 * d)))) 52 ((f 52) + (f (16 + 4 * d)))) (17 + 4 * d) ((f (17 + 4 * d)) - (f (17 + 4 * d)))) 53 ((f 53) + (f (17 + 4 * d)))) (18 + 4 * d) ((f (18 + 4 * d)) - (f (18 + 4 * d)))) 54 ((f 54) + (f (18 + 4 * d)))) (19 + 4 * d) ((f (19 + 4 * d)) - (f (19 + 4 * d)))) 55 ((f 55) + (f (19 + 4 * d)))) (96 + d) 0) (m_X3_empty (m_X4_addAll g 13 (4 + d)) d) := by
  have hq := H.p
  have K : RI (upd (upd (upd (upd (Em f d) 52 (f 52 + f (16 + 4 * d))) 53 (f 53 + f (17 + 4 * d))) 54 (f 54 + f (18 + 4 * d))) 55 (f 55 + f (19 + 4 * d))) (upd (upd (upd (upd (Em g d) 52 (f 52 + f (16 + 4 * d))) 53 (f 53 + f (17 + 4 * d))) 54 (f 54 + f (18 + 4 * d))) 55 (f 55 + f (19 + 4 * d))) :=
    RI_fre (RI_fre (RI_fre (RI_fre (L_emp H hd) (by unfold Fre; omega) (by unfold Pl; omega) (by omega) _) (by unfold Fre; omega) (by unfold Pl; omega) (by omega) _) (by unfold Fre; omega) (by unfold Pl; omega) (by omega) _) (by unfold Fre; omega) (by unfold Pl; omega) (by omega) _
  refine L_cong (fun i hi => ?_) (L_cg K (fun i hi => ?_))
  · unfold Em
    simp only [Int32.sub_self]
    rcases (by omega : i = 52 ∨ i = 53 ∨ i = 54 ∨ i = 55 ∨ i = 16 + 4 * d ∨ i = 17 + 4 * d ∨ i = 18 + 4 * d ∨ i = 19 + 4 * d ∨ i = 96 + d ∨ (i ≠ 52 ∧ i ≠ 53 ∧ i ≠ 54 ∧ i ≠ 55 ∧ i ≠ 16 + 4 * d ∧ i ≠ 17 + 4 * d ∧ i ≠ 18 + 4 * d ∧ i ≠ 19 + 4 * d ∧ i ≠ 96 + d)) with q | q | q | q | q | q | q | q | q | ⟨_, _, _, _, _, _, _, _, _⟩
    iterate 9 (subst q; simp (disch := omega) only [pk_un, pk_us])
    simp (disch := omega) only [pk_un]
  · rw [empE]
    unfold Em m_X4_addAll
    rw [show 1 + 4 * (4 + d) = 17 + 4 * d by omega, show 2 + 4 * (4 + d) = 18 + 4 * d by omega, show 3 + 4 * (4 + d) = 19 + 4 * d by omega, show 4 * (4 + d) = 16 + 4 * d by omega]
    simp only [Nat.reduceMul, Nat.reduceAdd]
    rcases (by omega : i = 52 ∨ i = 53 ∨ i = 54 ∨ i = 55 ∨ i = 16 + 4 * d ∨ i = 17 + 4 * d ∨ i = 18 + 4 * d ∨ i = 19 + 4 * d ∨ i = 96 + d ∨ (i ≠ 52 ∧ i ≠ 53 ∧ i ≠ 54 ∧ i ≠ 55 ∧ i ≠ 16 + 4 * d ∧ i ≠ 17 + 4 * d ∧ i ≠ 18 + 4 * d ∧ i ≠ 19 + 4 * d ∧ i ≠ 96 + d)) with q | q | q | q | q | q | q | q | q | ⟨_, _, _, _, _, _, _, _, _⟩
    iterate 9 (subst q; simp (disch := omega) only [pk_un, pk_us, hq])
    simp (disch := omega) only [pk_un]
theorem L_tip56 {f g : St} (H : RI f g) {d : Nat} (hd : d < 4) : RI (upd (upd (upd (upd (upd (upd (upd (upd (upd f (16 + 4 * d) ((f (16 + 4 * d)) - (f (16 + 4 * d)))) 56 ((f 56) + (f (16 + 4 * d)))) (17 + 4 * d) ((f (17 + 4 * d)) - (f (17 + 4 * d)))) 57 ((f 57) + (f (17 + 4 * d)))) (18 + 4 * d) ((f (18 + 4 * d)) - (f (18 + 4 * d)))) 58 ((f 58) + (f (18 + 4 * d)))) (19 + 4 * d) ((f (19 + 4 * d)) - (f (19 + 4 * d)))) 59 ((f 59) + (f (19 + 4 * d)))) (96 + d) 0) (m_X3_empty (m_X4_addAll g 14 (4 + d)) d) := by
  have hq := H.p
  have K : RI (upd (upd (upd (upd (Em f d) 56 (f 56 + f (16 + 4 * d))) 57 (f 57 + f (17 + 4 * d))) 58 (f 58 + f (18 + 4 * d))) 59 (f 59 + f (19 + 4 * d))) (upd (upd (upd (upd (Em g d) 56 (f 56 + f (16 + 4 * d))) 57 (f 57 + f (17 + 4 * d))) 58 (f 58 + f (18 + 4 * d))) 59 (f 59 + f (19 + 4 * d))) :=
    RI_fre (RI_fre (RI_fre (RI_fre (L_emp H hd) (by unfold Fre; omega) (by unfold Pl; omega) (by omega) _) (by unfold Fre; omega) (by unfold Pl; omega) (by omega) _) (by unfold Fre; omega) (by unfold Pl; omega) (by omega) _) (by unfold Fre; omega) (by unfold Pl; omega) (by omega) _
  refine L_cong (fun i hi => ?_) (L_cg K (fun i hi => ?_))
  · unfold Em
    simp only [Int32.sub_self]
    rcases (by omega : i = 56 ∨ i = 57 ∨ i = 58 ∨ i = 59 ∨ i = 16 + 4 * d ∨ i = 17 + 4 * d ∨ i = 18 + 4 * d ∨ i = 19 + 4 * d ∨ i = 96 + d ∨ (i ≠ 56 ∧ i ≠ 57 ∧ i ≠ 58 ∧ i ≠ 59 ∧ i ≠ 16 + 4 * d ∧ i ≠ 17 + 4 * d ∧ i ≠ 18 + 4 * d ∧ i ≠ 19 + 4 * d ∧ i ≠ 96 + d)) with q | q | q | q | q | q | q | q | q | ⟨_, _, _, _, _, _, _, _, _⟩
    iterate 9 (subst q; simp (disch := omega) only [pk_un, pk_us])
    simp (disch := omega) only [pk_un]
  · rw [empE]
    unfold Em m_X4_addAll
    rw [show 1 + 4 * (4 + d) = 17 + 4 * d by omega, show 2 + 4 * (4 + d) = 18 + 4 * d by omega, show 3 + 4 * (4 + d) = 19 + 4 * d by omega, show 4 * (4 + d) = 16 + 4 * d by omega]
    simp only [Nat.reduceMul, Nat.reduceAdd]
    rcases (by omega : i = 56 ∨ i = 57 ∨ i = 58 ∨ i = 59 ∨ i = 16 + 4 * d ∨ i = 17 + 4 * d ∨ i = 18 + 4 * d ∨ i = 19 + 4 * d ∨ i = 96 + d ∨ (i ≠ 56 ∧ i ≠ 57 ∧ i ≠ 58 ∧ i ≠ 59 ∧ i ≠ 16 + 4 * d ∧ i ≠ 17 + 4 * d ∧ i ≠ 18 + 4 * d ∧ i ≠ 19 + 4 * d ∧ i ≠ 96 + d)) with q | q | q | q | q | q | q | q | q | ⟨_, _, _, _, _, _, _, _, _⟩
    iterate 9 (subst q; simp (disch := omega) only [pk_un, pk_us, hq])
    simp (disch := omega) only [pk_un]
theorem RI_48 {f g : St} (H : RI f g) (y : Int32) : RI (upd f 48 (f 48 + y)) (upd g 48 (g 48 + y)) := by
  refine ⟨⟨fun i hi => ?_, fun d hd => ?_, ?_, fun r k hr hk => ?_⟩, Iv_fre H.2 (by unfold Fre; omega) _⟩
  · unfold Pl at hi
    rw [pk_un (by omega), pk_un (by omega)]; exact H.p i hi
  · simp (disch := omega) only [pk_un]; exact H.1.2.1 d hd
  · simp (disch := omega) only [pk_un, pk_us]
    rw [H.1.2.2.1]
    simp only [Int32.sub_eq_add_neg, Int32.add_assoc]
    rw [Int32.add_comm y]
  · rw [pk_un (by omega)] at hk
    have := cnt8 H.2.2.2.2.1 hr
    simp (disch := omega) only [pk_un]; exact H.1.2.2.2 r k hr hk
theorem L_tip48 {f g : St} (H : RI f g) {d : Nat} (hd : d < 4) (z1 : f (17 + 4 * d) = 0) (z2 : f (18 + 4 * d) = 0) (z3 : f (19 + 4 * d) = 0) : RI (upd (upd (upd (upd (upd (upd (upd (upd (upd f (16 + 4 * d) ((f (16 + 4 * d)) - (f (16 + 4 * d)))) 48 ((f 48) + (f (16 + 4 * d)))) (17 + 4 * d) ((f (17 + 4 * d)) - (f (17 + 4 * d)))) 49 ((f 49) + (f (17 + 4 * d)))) (18 + 4 * d) ((f (18 + 4 * d)) - (f (18 + 4 * d)))) 50 ((f 50) + (f (18 + 4 * d)))) (19 + 4 * d) ((f (19 + 4 * d)) - (f (19 + 4 * d)))) 51 ((f 51) + (f (19 + 4 * d)))) (96 + d) 0) (m_X3_empty (upd g 48 ((g 48) + (g (16 + 4 * d)))) d) := by
  have hq := H.p
  have K := RI_48 (L_emp H hd) (f (16 + 4 * d))
  refine L_cong (fun i hi => ?_) (L_cg K (fun i hi => ?_))
  · unfold Em
    simp only [Int32.sub_self, z1, z2, z3, Int32.add_zero]
    simp (disch := omega) only [pk_un]
    rcases (by omega : i = 48 ∨ i = 49 ∨ i = 50 ∨ i = 51 ∨ i = 16 + 4 * d ∨ i = 17 + 4 * d ∨ i = 18 + 4 * d ∨ i = 19 + 4 * d ∨ i = 96 + d ∨ (i ≠ 48 ∧ i ≠ 49 ∧ i ≠ 50 ∧ i ≠ 51 ∧ i ≠ 16 + 4 * d ∧ i ≠ 17 + 4 * d ∧ i ≠ 18 + 4 * d ∧ i ≠ 19 + 4 * d ∧ i ≠ 96 + d)) with q | q | q | q | q | q | q | q | q | ⟨_, _, _, _, _, _, _, _, _⟩
    iterate 9 (subst q; simp (disch := omega) only [pk_un, pk_us])
    simp (disch := omega) only [pk_un]
  · rw [empE, hq (16 + 4 * d) (by omega)]
    unfold Em
    simp (disch := omega) only [pk_un]
    rcases (by omega : i = 48 ∨ i = 49 ∨ i = 50 ∨ i = 51 ∨ i = 16 + 4 * d ∨ i = 17 + 4 * d ∨ i = 18 + 4 * d ∨ i = 19 + 4 * d ∨ i = 96 + d ∨ (i ≠ 48 ∧ i ≠ 49 ∧ i ≠ 50 ∧ i ≠ 51 ∧ i ≠ 16 + 4 * d ∧ i ≠ 17 + 4 * d ∧ i ≠ 18 + 4 * d ∧ i ≠ 19 + 4 * d ∧ i ≠ 96 + d)) with q | q | q | q | q | q | q | q | q | ⟨_, _, _, _, _, _, _, _, _⟩
    iterate 9 (subst q; simp (disch := omega) only [pk_un, pk_us])
    simp (disch := omega) only [pk_un]
theorem L_tipv {f g : St} (H : RI f g) {d v : Nat} (hd : d < 4) (hv : v < 3) (hs : (m_X7_sum f (4 + 4 * v)).toInt + (m_X7_sum f (16 + 4 * d)).toInt ≤ 300) : RI (upd (upd (upd (upd (upd (upd (upd (upd (upd f (16 + 4 * d) ((f (16 + 4 * d)) - (f (16 + 4 * d)))) (4 + 4 * v) ((f (4 + 4 * v)) + (f (16 + 4 * d)))) (17 + 4 * d) ((f (17 + 4 * d)) - (f (17 + 4 * d)))) (5 + 4 * v) ((f (5 + 4 * v)) + (f (17 + 4 * d)))) (18 + 4 * d) ((f (18 + 4 * d)) - (f (18 + 4 * d)))) (6 + 4 * v) ((f (6 + 4 * v)) + (f (18 + 4 * d)))) (19 + 4 * d) ((f (19 + 4 * d)) - (f (19 + 4 * d)))) (7 + 4 * v) ((f (7 + 4 * v)) + (f (19 + 4 * d)))) (96 + d) 0) (m_X3_empty (m_X4_addAll g (1 + v) (4 + d)) d) := by
  have hq := H.p
  have b := H.2.1.1
  obtain ⟨s1, s2, s3⟩ := sumV H.2.1 hv
  obtain ⟨l1, l2, l3, l4, l5, l6⟩ := sumL H.2.1 hd
  have B0 := b (4 + 4 * v) (by omega); have B1 := b (5 + 4 * v) (by omega); have B2 := b (6 + 4 * v) (by omega); have B3 := b (7 + 4 * v) (by omega)
  have C0 := b (16 + 4 * d) (by omega); have C1 := b (17 + 4 * d) (by omega); have C2 := b (18 + 4 * d) (by omega); have C3 := b (19 + 4 * d) (by omega)
  have A0 : (f (4 + 4 * v) + f (16 + 4 * d)).toInt = (f (4 + 4 * v)).toInt + (f (16 + 4 * d)).toInt := by rw [addT] <;> omega
  have A1 : (f (5 + 4 * v) + f (17 + 4 * d)).toInt = (f (5 + 4 * v)).toInt + (f (17 + 4 * d)).toInt := by rw [addT] <;> omega
  have A2 : (f (6 + 4 * v) + f (18 + 4 * d)).toInt = (f (6 + 4 * v)).toInt + (f (18 + 4 * d)).toInt := by rw [addT] <;> omega
  have A3 : (f (7 + 4 * v) + f (19 + 4 * d)).toInt = (f (7 + 4 * v)).toInt + (f (19 + 4 * d)).toInt := by rw [addT] <;> omega
  have HE := L_emp H hd
  have fe : ∀ i, i < 16 → Em f d i = f i := fun i hi => by unfold Em; simp (disch := omega) only [pk_un]
  generalize hgf : Em f d = ef at HE fe
  generalize hgg : Em g d = eg at HE
  have K : RI (upd (upd (upd (upd ef (4 + 4 * v) (f (4 + 4 * v) + f (16 + 4 * d))) (5 + 4 * v) (f (5 + 4 * v) + f (17 + 4 * d))) (6 + 4 * v) (f (6 + 4 * v) + f (18 + 4 * d))) (7 + 4 * v) (f (7 + 4 * v) + f (19 + 4 * d))) (upd (upd (upd (upd eg (4 + 4 * v) (f (4 + 4 * v) + f (16 + 4 * d))) (5 + 4 * v) (f (5 + 4 * v) + f (17 + 4 * d))) (6 + 4 * v) (f (6 + 4 * v) + f (18 + 4 * d))) (7 + 4 * v) (f (7 + 4 * v) + f (19 + 4 * d))) := by
    have hq2 := HE.p
    refine RI_amt HE (fun i hi => ?_) (fun i hi => ?_) ⟨?_, ?_⟩ (fun i h1 h2 => ?_) ⟨fun i hi => ?_, ?_, fun w hw => ?_, fun d' hd' => ?_⟩ (fun d' hd' => ?_) ?_
    · rcases (by omega : i = 4 + 4 * v ∨ i = 5 + 4 * v ∨ i = 6 + 4 * v ∨ i = 7 + 4 * v ∨ (i ≠ 4 + 4 * v ∧ i ≠ 5 + 4 * v ∧ i ≠ 6 + 4 * v ∧ i ≠ 7 + 4 * v)) with q | q | q | q | ⟨_, _, _, _⟩
      iterate 4 (subst q; simp (disch := omega) only [pk_un, pk_us])
      simp (disch := omega) only [pk_un]; exact hq2 i hi
    · simp (disch := omega) only [pk_un]
    · simp (disch := omega) only [pk_un]
    · simp (disch := omega) only [pk_un]
    · right; right; right; right
      simp (disch := omega) only [pk_un]
    · rcases (by omega : i = 4 + 4 * v ∨ i = 5 + 4 * v ∨ i = 6 + 4 * v ∨ i = 7 + 4 * v ∨ (i ≠ 4 + 4 * v ∧ i ≠ 5 + 4 * v ∧ i ≠ 6 + 4 * v ∧ i ≠ 7 + 4 * v)) with q | q | q | q | ⟨_, _, _, _⟩
      iterate 4 (subst q; simp (disch := omega) only [pk_un, pk_us]; omega)
      simp (disch := omega) only [pk_un]; exact HE.2.1.1 i hi
    · simp (disch := omega) only [pk_un]; exact HE.2.1.2.1
    · by_cases q : w = v
      · subst q; simp (disch := omega) only [pk_un, pk_us]; omega
      · simp (disch := omega) only [pk_un]; exact HE.2.1.2.2.1 w hw
    · simp (disch := omega) only [pk_un]; exact HE.2.1.2.2.2 d' hd'
    · simp (disch := omega) only [pk_un]; exact HE.2.2.1 d' hd'
    · simp (disch := omega) only [pk_un]; exact HE.2.2.2.2.2.2.2.2.2
  subst hgf
  subst hgg
  refine L_cong (fun i hi => ?_) (L_cg K (fun i hi => ?_))
  · unfold Em
    simp only [Int32.sub_self]
    rcases (by omega : i = 4 + 4 * v ∨ i = 5 + 4 * v ∨ i = 6 + 4 * v ∨ i = 7 + 4 * v ∨ i = 16 + 4 * d ∨ i = 17 + 4 * d ∨ i = 18 + 4 * d ∨ i = 19 + 4 * d ∨ i = 96 + d ∨ (i ≠ 4 + 4 * v ∧ i ≠ 5 + 4 * v ∧ i ≠ 6 + 4 * v ∧ i ≠ 7 + 4 * v ∧ i ≠ 16 + 4 * d ∧ i ≠ 17 + 4 * d ∧ i ≠ 18 + 4 * d ∧ i ≠ 19 + 4 * d ∧ i ≠ 96 + d)) with q | q | q | q | q | q | q | q | q | ⟨_, _, _, _, _, _, _, _, _⟩
    iterate 9 (subst q; simp (disch := omega) only [pk_un, pk_us])
    simp (disch := omega) only [pk_un]
  · rw [empE]
    unfold Em m_X4_addAll
    rw [show 1 + 4 * (4 + d) = 17 + 4 * d by omega, show 2 + 4 * (4 + d) = 18 + 4 * d by omega, show 3 + 4 * (4 + d) = 19 + 4 * d by omega, show 4 * (4 + d) = 16 + 4 * d by omega, show 1 + 4 * (1 + v) = 5 + 4 * v by omega, show 2 + 4 * (1 + v) = 6 + 4 * v by omega, show 3 + 4 * (1 + v) = 7 + 4 * v by omega, show 4 * (1 + v) = 4 + 4 * v by omega]
    rcases (by omega : i = 4 + 4 * v ∨ i = 5 + 4 * v ∨ i = 6 + 4 * v ∨ i = 7 + 4 * v ∨ i = 16 + 4 * d ∨ i = 17 + 4 * d ∨ i = 18 + 4 * d ∨ i = 19 + 4 * d ∨ i = 96 + d ∨ (i ≠ 4 + 4 * v ∧ i ≠ 5 + 4 * v ∧ i ≠ 6 + 4 * v ∧ i ≠ 7 + 4 * v ∧ i ≠ 16 + 4 * d ∧ i ≠ 17 + 4 * d ∧ i ≠ 18 + 4 * d ∧ i ≠ 19 + 4 * d ∧ i ≠ 96 + d)) with q | q | q | q | q | q | q | q | q | ⟨_, _, _, _, _, _, _, _, _⟩
    iterate 9 (subst q; simp (disch := omega) only [pk_un, pk_us, hq])
    simp (disch := omega) only [pk_un]
theorem upd_comm {g : St} {i j : Nat} {x y : Int32} (h : i ≠ j) : upd (upd g i x) j y = upd (upd g j y) i x := by
  funext k
  by_cases q : k = j
  · subst q; rw [pk_us, pk_un (Ne.symm h), pk_us]
  · by_cases q2 : k = i
    · subst q2; rw [pk_un q, pk_us, pk_us]
    · rw [pk_un q, pk_un q2, pk_un q2, pk_un q]
theorem freeze_upd {g : St} {d v : Nat} (hd : d < 4) (hv : v < 3) (n x : Int32) : upd (m_X3_freeze g d n) (76 + v) x = m_X3_freeze (upd g (76 + v) x) d n := by
  unfold m_X3_freeze
  simp (disch := omega) only [pk_un]
  rw [upd_comm (j := 76 + v) (y := x) (by omega), upd_comm (j := 76 + v) (y := x) (by omega), upd_comm (j := 76 + v) (y := x) (by omega), upd_comm (j := 76 + v) (y := x) (by omega), upd_comm (j := 76 + v) (y := x) (by omega), upd_comm (j := 76 + v) (y := x) (by omega), upd_comm (j := 76 + v) (y := x) (by omega), upd_comm (j := 76 + v) (y := x) (by omega)]
theorem frE {f g : St} (H : RI f g) {d : Nat} (hd : d < 4) : m_X3_stuffThatFreezes g d = (if (if 2 ≤ (m_X7_sum f (16 + 4 * d)) then 2 else (m_X7_sum f (16 + 4 * d))) ≤ (20 - (m_X7_sum f (32 + 4 * d))) then (if 2 ≤ (m_X7_sum f (16 + 4 * d)) then 2 else (m_X7_sum f (16 + 4 * d))) else (20 - (m_X7_sum f (32 + 4 * d)))) := by
  unfold m_X3_stuffThatFreezes
  rw [all_sum H (t := 8 + d) (a := 32 + 4 * d) (by omega) (by omega), all_sum H (t := 4 + d) (a := 16 + 4 * d) (by omega) (by omega), mn_if, mn_if]
theorem frT {f : St} (H : Ia f) {d : Nat} (hd : d < 4) : ((if (if 2 ≤ (m_X7_sum f (16 + 4 * d)) then 2 else (m_X7_sum f (16 + 4 * d))) ≤ (20 - (m_X7_sum f (32 + 4 * d))) then (if 2 ≤ (m_X7_sum f (16 + 4 * d)) then 2 else (m_X7_sum f (16 + 4 * d))) else (20 - (m_X7_sum f (32 + 4 * d)))) : Int32).toInt = min (min 2 (m_X7_sum f (16 + 4 * d)).toInt) (20 - (m_X7_sum f (32 + 4 * d)).toInt) := by
  obtain ⟨l1, l2, l3, l4, l5, l6⟩ := sumL H hd
  have e : (20 - m_X7_sum f (32 + 4 * d)).toInt = 20 - (m_X7_sum f (32 + 4 * d)).toInt := by rw [subT] <;> rw [show (20 : Int32).toInt = 20 from rfl] <;> omega
  rw [minT, minT, e, show (2 : Int32).toInt = 2 from rfl]
theorem L_pour_n {f g : St} (H : RI f g) {d : Nat} (hd : d < 4) (hx : m_X7_vesselAt (f (88 + d)) = -1) : (m_X0_pour_n g d).1 = (m_X7_pours f d (f (88 + d))).1 ∧ RI (m_X7_pours f d (f (88 + d))).2 (m_X0_pour_n g d).2 := by
  obtain ⟨l1, l2, l3, l4, l5, l6⟩ := sumL H.2.1 hd
  have hT := frT H.2.1 hd
  unfold m_X7_pours m_X0_pour_n
  rw [frE H hd]
  generalize ((if (if 2 ≤ (m_X7_sum f (16 + 4 * d)) then 2 else (m_X7_sum f (16 + 4 * d))) ≤ (20 - (m_X7_sum f (32 + 4 * d))) then (if 2 ≤ (m_X7_sum f (16 + 4 * d)) then 2 else (m_X7_sum f (16 + 4 * d))) else (20 - (m_X7_sum f (32 + 4 * d)))) : Int32) = n at hT ⊢
  obtain ⟨HF, hsum, ho, hz⟩ := L_freeze H hd (n := n) (by omega) (by omega) (by omega)
  have h88 : m_X3_freeze g d n (88 + d) = f (88 + d) := by rw [(ho _ (by omega)).2]; exact H.p _ (by omega)
  unfold m_X0_canPour_n
  rw [h88, H.p (96 + d) (by omega), H.p (88 + d) (by omega), hx]
  have T52 := L_tip52 HF hd
  have T56 := L_tip56 HF hd
  have T48 := fun h3 => L_tip48 HF hd (hz h3).1 (hz h3).2.1 (hz h3).2.2
  generalize m_X7_skulls f d n = f1 at *
  generalize m_X3_freeze g d n = g1 at *
  have n1 : (-1 : Int32) < 0 := by decide
  by_cases c1 : f (96 + d) = 1
  · rw [c1]
    rw [if_pos rfl, if_pos rfl, if_pos n1, if_neg (show ¬ (1 : Int32) = 2 by decide), if_neg (show ¬ (1 : Int32) = 3 by decide), if_neg (show ¬ false = true by decide)]
    exact ⟨rfl, H⟩
  rw [if_neg c1, if_neg c1]
  by_cases c2 : f (96 + d) = 2
  · rw [if_pos c2, if_pos c2]
    by_cases x2 : f (88 + d) = 2
    · rw [if_pos x2, if_pos x2, if_pos rfl, if_pos x2]
      exact ⟨rfl, T52⟩
    rw [if_neg x2, if_neg x2, if_neg x2]
    by_cases x0 : f (88 + d) = 0
    · rw [if_pos x0, if_pos x0, if_pos rfl, if_pos x0]
      exact ⟨rfl, T56⟩
    rw [if_neg x0, if_neg (show ¬ false = true by decide), if_neg x0, if_neg (show ¬ f (96 + d) = 3 by rw [c2]; decide)]
    exact ⟨rfl, H⟩
  rw [if_neg c2, if_neg c2]
  by_cases c3 : f (96 + d) = 3
  · rw [if_pos c3, if_pos c3]
    by_cases x15 : f (88 + d) = 15
    · rw [if_pos x15, if_pos x15, if_pos rfl, if_neg (show ¬ f (88 + d) = 2 by rw [x15]; decide), if_neg (show ¬ f (88 + d) = 0 by rw [x15]; decide)]
      exact ⟨rfl, T48 c3⟩
    · rw [if_neg x15, if_neg x15, if_neg (show ¬ false = true by decide)]
      exact ⟨rfl, H⟩
  · rw [if_neg c3, if_neg c3, if_neg (show ¬ false = true by decide)]
    exact ⟨rfl, H⟩
theorem sum_cg {f f' : St} {a : Nat} (h0 : f' a = f a) (h1 : f' (1 + a) = f (1 + a)) (h2 : f' (2 + a) = f (2 + a)) (h3 : f' (3 + a) = f (3 + a)) : m_X7_sum f' a = m_X7_sum f a := by
  unfold m_X7_sum; rw [h0, h1, h2, h3]
theorem L_pour_v {f g : St} (H : RI f g) {d v : Nat} (hd : d < 4) (hv : v < 3) (hx : m_X7_vesselAt (f (88 + d)) = nI v) (hx2 : f (88 + d) = nI (4 + 4 * v)) : (m_X0_pour_v g d v).1 = (m_X7_pours f d (f (88 + d))).1 ∧ RI (m_X7_pours f d (f (88 + d))).2 (m_X0_pour_v g d v).2 := by
  obtain ⟨l1, l2, l3, l4, l5, l6⟩ := sumL H.2.1 hd
  obtain ⟨s1, s2, s3⟩ := sumV H.2.1 hv
  have hT := frT H.2.1 hd
  have x2 : ¬ f (88 + d) = 2 := by
    rw [hx2]
    obtain rfl | rfl | rfl : v = 0 ∨ v = 1 ∨ v = 2 := by omega
    all_goals decide
  have x0 : ¬ f (88 + d) = 0 := by
    rw [hx2]
    obtain rfl | rfl | rfl : v = 0 ∨ v = 1 ∨ v = 2 := by omega
    all_goals decide
  have x15 : ¬ f (88 + d) = 15 := by
    rw [hx2]
    obtain rfl | rfl | rfl : v = 0 ∨ v = 1 ∨ v = 2 := by omega
    all_goals decide
  unfold m_X7_pours m_X0_pour_v
  rw [frE H hd]
  generalize ((if (if 2 ≤ (m_X7_sum f (16 + 4 * d)) then 2 else (m_X7_sum f (16 + 4 * d))) ≤ (20 - (m_X7_sum f (32 + 4 * d))) then (if 2 ≤ (m_X7_sum f (16 + 4 * d)) then 2 else (m_X7_sum f (16 + 4 * d))) else (20 - (m_X7_sum f (32 + 4 * d)))) : Int32) = n at hT ⊢
  unfold m_X0_canPour_v
  rw [H.p (96 + d) (by omega), H.p (88 + d) (by omega), hx, nI_clamp (by omega), all_sum H (t := 4 + d) (a := 16 + 4 * d) (by omega) (by omega), all_sum H (t := 1 + v) (a := 4 + 4 * v) (by omega) (by omega)]
  by_cases c1 : f (96 + d) = 1
  rotate_left
  · rw [if_neg c1, if_neg c1]
    by_cases c2 : f (96 + d) = 2
    · rw [if_pos c2, if_pos c2, if_neg x2, if_neg x2, if_neg x0, if_neg x0, if_neg (show ¬ false = true by decide), if_neg (show ¬ f (96 + d) = 3 by rw [c2]; decide)]
      exact ⟨rfl, H⟩
    rw [if_neg c2, if_neg c2]
    by_cases c3 : f (96 + d) = 3
    · rw [if_pos c3, if_pos c3, if_neg x15, if_neg x15, if_neg (show ¬ false = true by decide)]
      exact ⟨rfl, H⟩
    · rw [if_neg c3, if_neg c3, if_neg (show ¬ false = true by decide)]
      exact ⟨rfl, H⟩
  rw [if_pos c1, if_pos c1, if_neg (nI_nl0 (n := v) (by omega))]
  have bT : (m_X7_sum f (16 + 4 * d) - n).toInt = (m_X7_sum f (16 + 4 * d)).toInt - n.toInt := by rw [subT] <;> omega
  have sT : (m_X7_sum f (4 + 4 * v) + (m_X7_sum f (16 + 4 * d) - n)).toInt = (m_X7_sum f (4 + 4 * v)).toInt + ((m_X7_sum f (16 + 4 * d)).toInt - n.toInt) := by rw [addT] <;> rw [bT] <;> omega
  have T300 : (300 : Int32).toInt = 300 := rfl
  by_cases c : m_X7_sum f (4 + 4 * v) + (m_X7_sum f (16 + 4 * d) - n) ≤ 300
  rotate_left
  · rw [if_neg c, if_pos (show 300 < m_X7_sum f (4 + 4 * v) + (m_X7_sum f (16 + 4 * d) - n) by rw [ltT]; rw [leT] at c; omega), if_neg (show ¬ false = true by decide)]
    exact ⟨rfl, H⟩
  rw [if_pos c, if_neg (show ¬ 300 < m_X7_sum f (4 + 4 * v) + (m_X7_sum f (16 + 4 * d) - n) by rw [ltT]; rw [leT] at c; omega), if_pos rfl]
  rw [leT, sT, T300] at c
  unfold m_X5_mixHeat
  by_cases cb : m_X7_sum f (16 + 4 * d) - n ≤ 0
  · rw [if_pos cb, if_pos cb]
    obtain ⟨HF, hsum, ho, hz⟩ := L_freeze H hd (n := n) (by omega) (by omega) (by omega)
    refine ⟨rfl, L_tipv HF hd hv ?_⟩
    rw [hsum, sum_cg (ho _ (by omega)).1 (ho _ (by omega)).1 (ho _ (by omega)).1 (ho _ (by omega)).1]; omega
  rw [if_neg cb, if_neg cb]
  rw [leT, bT, T0] at cb
  obtain ⟨HF, -, ho, -⟩ := L_freeze H hd (n := n) (by omega) (by omega) (by omega)
  have ea : m_X4_all (m_X3_freeze g d n) (1 + v) = m_X7_sum f (4 + 4 * v) := by
    rw [all_sum HF (t := 1 + v) (a := 4 + 4 * v) (by omega) (by omega)]
    exact sum_cg (ho _ (by omega)).1 (ho _ (by omega)).1 (ho _ (by omega)).1 (ho _ (by omega)).1
  rw [ea, (ho (76 + v) (by omega)).2, H.p (76 + v) (by omega), if_neg (by rw [leT, sT, T0]; omega), freeze_upd hd hv]
  generalize (f (76 + v) * m_X7_sum f (4 + 4 * v) + 1150 * (m_X7_sum f (16 + 4 * d) - n)) / (m_X7_sum f (4 + 4 * v) + (m_X7_sum f (16 + 4 * d) - n)) = h
  have H2 := RI_fre H (i := 76 + v) (by unfold Fre; omega) (by unfold Pl; omega) (by omega) h
  have u : ∀ a, a + 3 < 76 → m_X7_sum (upd f (76 + v) h) a = m_X7_sum f a := fun a ha => sum_cg (pk_un (by omega)) (pk_un (by omega)) (pk_un (by omega)) (pk_un (by omega))
  obtain ⟨HG, hsum, ho2, -⟩ := L_freeze H2 hd (n := n) (by omega) (by rw [u _ (by omega)]; omega) (by rw [u _ (by omega)]; omega)
  refine ⟨rfl, L_tipv HG hd hv ?_⟩
  rw [hsum, u _ (by omega), sum_cg (ho2 _ (by omega)).1 (ho2 _ (by omega)).1 (ho2 _ (by omega)).1 (ho2 _ (by omega)).1, u _ (by omega)]; omega
theorem mulT {x y : Int32} (h : -2147483648 ≤ x.toInt * y.toInt) (h2 : x.toInt * y.toInt < 2147483648) : (x * y).toInt = x.toInt * y.toInt := by
  rw [Int32.toInt_mul, Int.bmod_eq_of_le (by omega) (by omega)]
theorem quot {x n s : Int32} (hx : 0 ≤ x.toInt) (hx6 : x.toInt ≤ 600) (hn : 0 ≤ n.toInt) (hn1 : n.toInt ≤ 100) (hs : 0 < s.toInt) (hns : n.toInt ≤ s.toInt) : 0 ≤ (x * n / s).toInt ∧ (x * n / s).toInt ≤ x.toInt ∧ (x * n / s).toInt * s.toInt ≤ x.toInt * n.toInt := by
  have m0 : 0 ≤ x.toInt * n.toInt := Int.mul_nonneg hx hn
  have m1 : x.toInt * n.toInt ≤ 600 * 100 := Int.mul_le_mul hx6 hn1 hn (by omega)
  have eM : (x * n).toInt = x.toInt * n.toInt := mulT (by omega) (by omega)
  have sne : s ≠ -1 := by
    intro h
    rw [h, show (-1 : Int32).toInt = -1 from rfl] at hs
    omega
  have eD : (x * n / s).toInt = x.toInt * n.toInt / s.toInt := by
    rw [Int32.toInt_div_of_ne_right _ _ sne, eM, Int.tdiv_eq_ediv_of_nonneg m0]
  have q0 : 0 ≤ x.toInt * n.toInt / s.toInt := Int.ediv_nonneg m0 (by omega)
  have q1 : x.toInt * n.toInt / s.toInt * s.toInt ≤ x.toInt * n.toInt := Int.ediv_mul_le _ (by omega)
  have q2 : x.toInt * n.toInt ≤ x.toInt * s.toInt := Int.mul_le_mul_of_nonneg_left hns hx
  rw [eD]
  exact ⟨q0, Int.le_of_mul_le_mul_right (Int.le_trans q1 q2) hs, q1⟩
theorem quot2 {x y n s : Int32} (hx : 0 ≤ x.toInt) (hy : 0 ≤ y.toInt) (hxy : x.toInt + y.toInt ≤ s.toInt) (h6 : s.toInt ≤ 600) (hn : 0 ≤ n.toInt) (hn1 : n.toInt ≤ 100) (hs : 0 < s.toInt) (hns : n.toInt ≤ s.toInt) : (x * n / s).toInt + (y * n / s).toInt ≤ n.toInt := by
  have a := (quot (x := x) (n := n) (s := s) hx (by omega) hn hn1 hs hns).2.2
  have b := (quot (x := y) (n := n) (s := s) hy (by omega) hn hn1 hs hns).2.2
  have c : (x.toInt + y.toInt) * n.toInt ≤ s.toInt * n.toInt := Int.mul_le_mul_of_nonneg_right hxy hn
  refine Int.le_of_mul_le_mul_right (a := s.toInt) ?_ hs
  rw [Int.add_mul] at c
  rw [Int.add_mul, Int.mul_comm n.toInt]
  omega
theorem L_tap3 {f g : St} (H : RI f g) {d : Nat} (hd : d < 4) {t0 t1 t2 : Int32} (p0 : 0 ≤ t0.toInt) (p1 : 0 ≤ t1.toInt) (p2 : 0 ≤ t2.toInt) (q0 : t0.toInt ≤ (f 0).toInt) (q1 : t1.toInt ≤ (f 1).toInt) (q2 : t2.toInt ≤ (f 2).toInt) (hr : t0.toInt + t1.toInt + t2.toInt ≤ (m_X7_room f d).toInt) : RI (upd (upd (upd (upd (upd (upd (upd f 0 (f 0 - t0)) (16 + 4 * d) (f (16 + 4 * d) + t0)) 1 (f 1 - t1)) (17 + 4 * d) (f (17 + 4 * d) + t1)) 2 (f 2 - t2)) (18 + 4 * d) (f (18 + 4 * d) + t2)) (96 + d) 1) (m_X0_tapStuff (m_X0_tapStuff (m_X0_tapStuff (upd g (96 + d) 1) d 1 t0) d 2 t1) d 3 t2) := by
  have hq := H.p
  have b := H.2.1.1
  obtain ⟨l1, l2, l3, l4, l5, l6⟩ := sumL H.2.1 hd
  have rT := roomT H.2.1 hd
  have s6 := H.2.1.2.1
  have B0 := b 0 (by omega); have B1 := b 1 (by omega); have B2 := b 2 (by omega); have B3 := b 3 (by omega)
  have C0 := b (16 + 4 * d) (by omega); have C1 := b (17 + 4 * d) (by omega); have C2 := b (18 + 4 * d) (by omega); have C3 := b (19 + 4 * d) (by omega)
  have X0 : (f 0 - t0).toInt = (f 0).toInt - t0.toInt := by rw [subT] <;> omega
  have X1 : (f 1 - t1).toInt = (f 1).toInt - t1.toInt := by rw [subT] <;> omega
  have X2 : (f 2 - t2).toInt = (f 2).toInt - t2.toInt := by rw [subT] <;> omega
  have Y0 : (f (16 + 4 * d) + t0).toInt = (f (16 + 4 * d)).toInt + t0.toInt := by rw [addT] <;> omega
  have Y1 : (f (17 + 4 * d) + t1).toInt = (f (17 + 4 * d)).toInt + t1.toInt := by rw [addT] <;> omega
  have Y2 : (f (18 + 4 * d) + t2).toInt = (f (18 + 4 * d)).toInt + t2.toInt := by rw [addT] <;> omega
  unfold m_X0_tapStuff
  rw [addK1 (t := 0) (a := 0) (by omega), addK1 (t := 4 + d) (a := 16 + 4 * d) (by omega), addK2 (t := 0) (a := 1) (by omega), addK2 (t := 4 + d) (a := 17 + 4 * d) (by omega), addK3 (t := 0) (a := 2) (by omega), addK3 (t := 4 + d) (a := 18 + 4 * d) (by omega)]
  simp only [← Int32.sub_eq_add_neg]
  simp (disch := omega) only [pk_un, hq]
  refine RI_amt H (fun i hi => ?_) (fun i hi => ?_) ⟨?_, ?_⟩ (fun i h1 h2 => ?_) ⟨fun i hi => ?_, ?_, fun w hw => ?_, fun d' hd' => ?_⟩ (fun d' hd' => ?_) ?_
  · rcases (by omega : i = 0 ∨ i = 1 ∨ i = 2 ∨ i = 16 + 4 * d ∨ i = 17 + 4 * d ∨ i = 18 + 4 * d ∨ i = 96 + d ∨ (i ≠ 0 ∧ i ≠ 1 ∧ i ≠ 2 ∧ i ≠ 16 + 4 * d ∧ i ≠ 17 + 4 * d ∧ i ≠ 18 + 4 * d ∧ i ≠ 96 + d)) with q | q | q | q | q | q | q | ⟨_, _, _, _, _, _, _⟩
    iterate 7 (subst q; simp (disch := omega) only [pk_un, pk_us])
    simp (disch := omega) only [pk_un]; exact hq i hi
  · simp (disch := omega) only [pk_un]
  · simp (disch := omega) only [pk_un]
  · simp (disch := omega) only [pk_un]
  · by_cases q : i = 96 + d
    · omega
    right; right; right; right
    simp (disch := omega) only [pk_un]
  · rcases (by omega : i = 0 ∨ i = 1 ∨ i = 2 ∨ i = 16 + 4 * d ∨ i = 17 + 4 * d ∨ i = 18 + 4 * d ∨ (i ≠ 0 ∧ i ≠ 1 ∧ i ≠ 2 ∧ i ≠ 16 + 4 * d ∧ i ≠ 17 + 4 * d ∧ i ≠ 18 + 4 * d)) with q | q | q | q | q | q | ⟨_, _, _, _, _, _⟩
    iterate 6 (subst q; simp (disch := omega) only [pk_un, pk_us]; omega)
    simp (disch := omega) only [pk_un]; exact H.2.1.1 i hi
  · simp (disch := omega) only [pk_un, pk_us]; omega
  · simp (disch := omega) only [pk_un]; exact H.2.1.2.2.1 w hw
  · obtain ⟨h5, h6⟩ := H.2.1.2.2.2 d' hd'
    by_cases q : d' = d
    · subst q
      simp (disch := omega) only [pk_un, pk_us]; omega
    · simp (disch := omega) only [pk_un]; exact ⟨h5, h6⟩
  · by_cases q : d' = d
    · subst q
      rw [pk_us]
      exact ⟨fun h => absurd h (by decide), fun h => absurd h (by decide)⟩
    · simp (disch := omega) only [pk_un]; exact H.2.2.1 d' hd'
  · simp (disch := omega) only [pk_un]; exact H.2.2.2.2.2.2.2.2.2
theorem L_taps {f g : St} (H : RI f g) {d : Nat} (hd : d < 4) (h3 : f 3 = 0) : (m_X0_tap g d).1 = (m_X7_taps f d (f (88 + d))).1 ∧ RI (m_X7_taps f d (f (88 + d))).2 (m_X0_tap g d).2 := by
  have b := H.2.1.1
  obtain ⟨s1, s2, s3⟩ := sumF H.2.1
  obtain ⟨l1, l2, l3, l4, l5, l6⟩ := sumL H.2.1 hd
  have rT := roomT H.2.1 hd
  have B0 := b 0 (by omega); have B1 := b 1 (by omega); have B2 := b 2 (by omega)
  rw [h3, T0] at s1
  unfold m_X0_tap m_X7_taps
  rw [H.p (88 + d) (by omega), H.p (96 + d) (by omega), roomE H hd, all_sum H (t := 0) (a := 0) (by omega) (by omega), H.p 0 (by omega), H.p 1 (by omega), H.p 2 (by omega)]
  by_cases c88 : f (88 + d) = 0
  rotate_left
  · rw [if_neg c88, if_neg c88]; exact ⟨rfl, H⟩
  rw [if_pos c88, if_pos c88]
  by_cases c96 : f (96 + d) = 0
  rotate_left
  · rw [if_neg c96, if_neg c96]; exact ⟨rfl, H⟩
  rw [if_pos c96, if_pos c96]
  simp only [mnC]
  have E := minT (m_X7_room f d) (m_X7_sum f 0)
  generalize (if m_X7_room f d ≤ m_X7_sum f 0 then m_X7_room f d else m_X7_sum f 0 : Int32) = n at E ⊢
  generalize m_X7_sum f 0 = s at *
  by_cases cn : n = 0
  · rw [if_pos cn]
    have : ¬ 1 ≤ n := by rw [cn]; decide
    rw [if_neg this]; simp only [ite_self]; exact ⟨trivial, H⟩
  have n1 : 1 ≤ n.toInt := by rw [eqT, T0] at cn; omega
  rw [if_neg cn, if_neg (show ¬ s < 1 by rw [ltT, T1]; omega), if_pos (show 1 ≤ n by rw [leT, T1]; omega)]
  obtain ⟨a0, a1, -⟩ := quot (x := f 0) (n := n) (s := s) B0 (by omega) (by omega) (by omega) (by omega) (by omega)
  obtain ⟨a2, a3, -⟩ := quot (x := f 1) (n := n) (s := s) B1 (by omega) (by omega) (by omega) (by omega) (by omega)
  have a4 := quot2 (x := f 0) (y := f 1) (n := n) (s := s) B0 B1 (by omega) (by omega) (by omega) (by omega) (by omega) (by omega)
  generalize f 0 * n / s = q0 at *
  generalize f 1 * n / s = q1 at *
  have R0 : (n - q0).toInt = n.toInt - q0.toInt := by rw [subT] <;> omega
  have R1 : (n - q0 - q1).toInt = n.toInt - q0.toInt - q1.toInt := by rw [subT] <;> rw [R0] <;> omega
  have F1 : (f 1 - q1).toInt = (f 1).toInt - q1.toInt := by rw [subT] <;> omega
  by_cases c : n - q0 - q1 ≤ f 2
  · rw [if_pos c]
    rw [leT, R1] at c
    have e2 : (if f 2 ≤ n - q0 - q1 then f 2 else n - q0 - q1 : Int32) = n - q0 - q1 := by rw [eqT, minT, R1]; omega
    rw [e2]
    have e1 : (if f 1 - q1 ≤ n - q0 - q1 - (n - q0 - q1) then f 1 - q1 else n - q0 - q1 - (n - q0 - q1) : Int32) = 0 := by rw [eqT, minT, Int32.sub_self, F1, T0]; omega
    rw [e1, Int32.add_zero]
    have e0 : n - q1 - (n - q0 - q1) = q0 := by
      have w : (n - q1).toInt = n.toInt - q1.toInt := by rw [subT] <;> omega
      rw [eqT, subT] <;> rw [w, R1] <;> omega
    rw [e0]
    exact ⟨rfl, L_tap3 H hd a0 a2 (by omega) a1 a3 (by omega) (by omega)⟩
  · rw [if_neg c]
    rw [leT, R1] at c
    have e2 : (if f 2 ≤ n - q0 - q1 then f 2 else n - q0 - q1 : Int32) = f 2 := by rw [eqT, minT, R1]; omega
    rw [e2]
    have R2 : (n - q0 - q1 - f 2).toInt = n.toInt - q0.toInt - q1.toInt - (f 2).toInt := by rw [subT] <;> rw [R1] <;> omega
    have M := minT (f 1 - q1) (n - q0 - q1 - f 2)
    generalize (if f 1 - q1 ≤ n - q0 - q1 - f 2 then f 1 - q1 else n - q0 - q1 - f 2 : Int32) = m at M ⊢
    rw [F1, R2] at M
    have Q1 : (q1 + m).toInt = q1.toInt + m.toInt := by rw [addT] <;> omega
    have R3 : (n - q0 - q1 - f 2 - m).toInt = n.toInt - q0.toInt - q1.toInt - (f 2).toInt - m.toInt := by rw [subT] <;> rw [R2] <;> omega
    have Q0 : (q0 + (n - q0 - q1 - f 2 - m)).toInt = n.toInt - q1.toInt - (f 2).toInt - m.toInt := by rw [addT] <;> rw [R3] <;> omega
    have e0 : n - (q1 + m) - f 2 = q0 + (n - q0 - q1 - f 2 - m) := by
      have w : (n - (q1 + m)).toInt = n.toInt - q1.toInt - m.toInt := by rw [subT] <;> rw [Q1] <;> omega
      rw [eqT, Q0, subT] <;> rw [w] <;> omega
    rw [e0]
    exact ⟨rfl, L_tap3 H hd (by omega) (by omega) (by omega) (by omega) (by omega) (by omega) (by omega)⟩
theorem pairE (P : Bool × St) : (if P.1 = true then (true, P.2) else (false, P.2)) = P := by
  rcases P with ⟨a, b⟩
  cases a <;> rfl
theorem L_does {f g : St} (H : RI f g) (h3 : f 3 = 0) {r w : Nat} (hr : r < 2) (w1 : 1 ≤ w) (w7 : w ≤ 7) (hfw : m_X2_firstWhat g r = nI w) : (m_X0_isCarriedOut g r).1 = (m_X7_does f r (nI w)).1 ∧ RI (m_X7_does f r (nI w)).2 (m_X0_isCarriedOut g r).2 := by
  unfold m_X0_isCarriedOut m_X7_does
  rw [hfw]
  simp only [pairE]
  rcases carry H hr with ⟨e1, e2⟩ | ⟨d, hd, e1, e2, e3, e4⟩
  · rw [e2, if_neg (show ¬ (none : Option Nat).isSome = true by decide), e1, if_neg (show ¬ (0 : Int32) ≤ -1 by decide)]
    by_cases q : w = 1
    · subst q
      rw [if_pos (show nI 1 = 1 by decide), if_pos (show nI 1 = 1 by decide)]
      exact L_takes H hr e1
    · have q2 : ¬ nI w = 1 := fun h => q (nI_one (a := w) (b := 1) (by omega) (by omega) h)
      rw [if_neg q2, if_neg q2]
      exact ⟨rfl, H⟩
  rw [e4, if_pos (show (some d).isSome = true from rfl), e1, if_pos (nI_pos' (by omega)), H.p (100 + r) (by omega), nI_clamp (by omega)]
  have gd : (some d).getD 0 = d := rfl
  rw [gd, ← e3]
  have Hs := L_sets H hr hd e1 e2 e3
  rw [← e3] at Hs
  have Ht1 := L_taps H hd h3
  have Hc := L_cleans H hd
  have Htk : m_X7_takes f r (f (88 + d)) = (false, f) := by
    unfold m_X7_takes
    rw [e1, if_pos (nI_pos' (by omega))]
  rcases vAt g (f (88 + d)) with ⟨v1, v2⟩ | ⟨v, hv, v1, v2, v3⟩
  · rw [v2, if_neg (show ¬ (none : Option Nat).isSome = true by decide)]
    have Hp := L_pour_n H hd v1
    have Hk : m_X7_skims f d (f (88 + d)) = (false, f) := by
      unfold m_X7_skims
      rw [v1, if_pos (show (-1 : Int32) < 0 by decide)]
    have Hw : m_X7_draws f d (f (88 + d)) = (false, f) := by
      unfold m_X7_draws
      rw [v1, if_pos (show (-1 : Int32) < 0 by decide)]
    rw [Htk, Hk, Hw]
    obtain rfl | rfl | rfl | rfl | rfl | rfl | rfl : w = 1 ∨ w = 2 ∨ w = 3 ∨ w = 4 ∨ w = 5 ∨ w = 6 ∨ w = 7 := by omega
    · exact ⟨rfl, H⟩
    · exact Hs
    · exact Ht1
    · exact Hp
    · exact ⟨rfl, H⟩
    · exact ⟨rfl, H⟩
    · exact Hc
  · rw [v2, if_pos (show (some v).isSome = true from rfl)]
    have gv : (some v).getD 0 = v := rfl
    rw [gv, Htk]
    have Hp := L_pour_v H hd hv v1 v3
    have Hk := L_skims H hd hv v1
    have Hw := L_draws H hd hv v1
    obtain rfl | rfl | rfl | rfl | rfl | rfl | rfl : w = 1 ∨ w = 2 ∨ w = 3 ∨ w = 4 ∨ w = 5 ∨ w = 6 ∨ w = 7 := by omega
    · exact ⟨rfl, H⟩
    · exact Hs
    · exact Ht1
    · exact Hp
    · exact Hk
    · exact Hw
    · exact Hc
theorem firstE {f g : St} (H : RI f g) {r : Nat} (hr : r < 2) : (f (104 + r) = 0 ∧ m_X2_firstWhat g r = (-4)) ∨ ∃ n w, 1 ≤ n ∧ n ≤ 8 ∧ w ≤ 7 ∧ f (104 + r) = nI n ∧ f (108 + 16 * r) = nI w ∧ m_X2_firstWhat g r = nI w ∧ g (109 + 16 * r) = f (109 + 16 * r) := by
  unfold m_X2_firstWhat
  rw [H.p (104 + r) (by omega)]
  obtain ⟨n, h8, hn⟩ := H.2.2.2.2.1.1 r hr
  rw [hn]
  by_cases q : n = 0
  · subst q
    exact Or.inl ⟨rfl, rfl⟩
  right
  obtain ⟨w, w7, hw⟩ := H.2.2.2.2.1.2 r 0 hr (by rw [hn, nI_clamp (by omega)]; omega)
  obtain ⟨y1, y2⟩ := H.1.2.2.2 r 0 hr (by rw [hn, nI_clamp (by omega)]; omega)
  refine ⟨n, w, by omega, h8, w7, rfl, hw, ?_, y2⟩
  rw [if_neg (nI_nle (by omega) (by omega))]
  exact y1.trans hw
theorem L_goesl {r : Nat} (hr : r < 2) : ∀ (j : Nat) {f g : St}, RI f g → RI (m_X7_goes_l j f r) (m_X0_work_l j g r)
  | 0, f, g, H => H
  | j + 1, f, g, H => by
    show RI (if f (104 + r) ≤ 0 then f else if f (108 + 16 * r) = 0 then (if f (109 + 16 * r) = f (100 + r) then m_X7_goes_l j (m_X7_finishes f r) r else f) else f) (if m_X2_goesWhereItIs g r = true then m_X0_work_l j (m_X0_finishFirst g r) r else g)
    unfold m_X2_goesWhereItIs
    rcases firstE H hr with ⟨e1, e2⟩ | ⟨n, w, n1, n8, w7, e1, e2, e3, e4⟩
    · rw [e2, e1, if_pos (show (0 : Int32) ≤ 0 by decide), if_neg (show ¬ ((-4) : Int32) = 0 by decide), if_neg (show ¬ false = true by decide)]
      exact H
    · rw [e3, e4, H.p (100 + r) (by omega), e1, if_neg (nI_nle (by omega) (by omega)), e2]
      by_cases c : nI w = 0
      · rw [if_pos c, if_pos c]
        by_cases c2 : f (109 + 16 * r) = f (100 + r)
        · rw [if_pos c2, if_pos c2, if_pos rfl]
          exact L_goesl hr j (L_finish H hr e1 n1 n8)
        · rw [if_neg c2, if_neg c2, if_neg (show ¬ false = true by decide)]
          exact H
      · rw [if_neg c, if_neg c, if_neg (show ¬ false = true by decide)]
        exact H
/-- heats, and no slag in the furnace -/
def Hz (f : St) : Prop := Ht f ∧ f 3 = 0
theorem Hz_un {f f' : St} (h : Hz f) (e : ∀ i, i = 3 ∨ (76 ≤ i ∧ i < 79) → f' i = f i) : Hz f' := ⟨Ht_un h.1 (fun v hv => e _ (by omega)), by rw [e 3 (by omega)]; exact h.2⟩
theorem Hz_takes {f : St} (h : Hz f) (r : Nat) (hr : r < 2) (x : Int32) : Hz (m_X7_takes f r x).2 := by
  unfold m_X7_takes
  split
  · exact h
  split
  · exact Hz_un h (fun i hi => by show upd (upd f _ _) _ _ i = f i; simp (disch := omega) only [pk_un])
  · exact h
theorem Hz_sets {f : St} (h : Hz f) (r : Nat) (hr : r < 2) (x : Int32) : Hz (m_X7_sets f r x).2 := by
  unfold m_X7_sets
  split
  · split
    · exact Hz_un h (fun i hi => by show upd (upd f _ _) _ _ i = f i; simp (disch := omega) only [pk_un])
    · exact h
  · exact h
theorem Hz_cleans {f : St} (h : Hz f) {d : Nat} (hd : d < 4) (x : Int32) : Hz (m_X7_cleans f d x).2 := by
  unfold m_X7_cleans
  (repeat' split) <;> first | exact h | exact Hz_un h (fun i hi => by simp (disch := omega) only [pk_un])
theorem Hz_taps {f : St} (h : Hz f) {d : Nat} (hd : d < 4) (x : Int32) : Hz (m_X7_taps f d x).2 := by
  unfold m_X7_taps
  generalize (if (m_X7_room f d) ≤ (m_X7_sum f 0) then (m_X7_room f d) else (m_X7_sum f 0) : Int32) = n
  by_cases c : x = 0
  · rw [if_pos c]
    by_cases c2 : f (96 + d) = 0
    · rw [if_pos c2]
      by_cases c3 : n = 0
      · rw [if_pos c3]; exact h
      rw [if_neg c3]
      by_cases c4 : n - f 0 * n / m_X7_sum f 0 - f 1 * n / m_X7_sum f 0 ≤ f 2
      · rw [if_pos c4]; exact Hz_un h (fun i hi => by simp (disch := omega) only [pk_un])
      · rw [if_neg c4]; exact Hz_un h (fun i hi => by simp (disch := omega) only [pk_un])
    · rw [if_neg c2]; exact h
  · rw [if_neg c]; exact h
theorem Hz_skims {f : St} (h : Hz f) {d v : Nat} (hd : d < 4) (hv : v < 3) {x : Int32} (hx : m_X7_vesselAt x = -1 ∨ m_X7_vesselAt x = nI v) : Hz (m_X7_skims f d x).2 := by
  unfold m_X7_skims
  rcases hx with hx | hx
  · rw [hx, if_pos (show (-1 : Int32) < 0 by decide)]; exact h
  rw [hx, if_neg (nI_nl0 (n := v) (by omega)), nI_clamp (by omega)]
  generalize (if (m_X7_room f d) ≤ (f (7 + 4 * v)) then (m_X7_room f d) else (f (7 + 4 * v)) : Int32) = n
  (repeat' split) <;> first | exact h | exact Hz_un h (fun i hi => by simp (disch := omega) only [pk_un])
theorem Hz_draws {f : St} (h : Hz f) {d v : Nat} (hd : d < 4) (hv : v < 3) {x : Int32} (hx : m_X7_vesselAt x = -1 ∨ m_X7_vesselAt x = nI v) : Hz (m_X7_draws f d x).2 := by
  unfold m_X7_draws
  rcases hx with hx | hx
  · rw [hx, if_pos (show (-1 : Int32) < 0 by decide)]; exact h
  rw [hx, if_neg (nI_nl0 (n := v) (by omega)), nI_clamp (by omega)]
  generalize (if (m_X7_room f d) ≤ (f (4 + 4 * v)) then (m_X7_room f d) else (f (4 + 4 * v)) : Int32) = n
  (repeat' split) <;> first | exact h | exact Hz_un h (fun i hi => by simp (disch := omega) only [pk_un])
theorem Hz_skulls {f : St} (h : Hz f) {d : Nat} (hd : d < 4) (n : Int32) : Hz (m_X7_skulls f d n) := by
  refine Hz_un h (fun i hi => ?_)
  unfold m_X7_skulls
  simp (disch := omega) only [pk_un]
theorem mixT {h s b : Int32} (h0 : 0 ≤ h.toInt) (h1 : h.toInt ≤ 1400) (s0 : 0 ≤ s.toInt) (b0 : 0 < b.toInt) (hsb : s.toInt + b.toInt ≤ 400) : 0 ≤ ((h * s + 1150 * b) / (s + b)).toInt ∧ ((h * s + 1150 * b) / (s + b)).toInt ≤ 1400 := by
  have p0 : 0 ≤ h.toInt * s.toInt := Int.mul_nonneg h0 s0
  have p1 : h.toInt * s.toInt ≤ 1400 * s.toInt := Int.mul_le_mul_of_nonneg_right h1 s0
  have e1 : (h * s).toInt = h.toInt * s.toInt := mulT (by omega) (by omega)
  have T1150 : (1150 : Int32).toInt = 1150 := rfl
  have e2 : (1150 * b).toInt = 1150 * b.toInt := by rw [mulT] <;> rw [T1150] <;> omega
  have e3 : (h * s + 1150 * b).toInt = h.toInt * s.toInt + 1150 * b.toInt := by rw [addT] <;> rw [e1, e2] <;> omega
  have e4 : (s + b).toInt = s.toInt + b.toInt := by rw [addT] <;> omega
  have sne : s + b ≠ -1 := by
    intro q
    rw [q, show (-1 : Int32).toInt = -1 from rfl] at e4
    omega
  rw [Int32.toInt_div_of_ne_right _ _ sne, e3, e4, Int.tdiv_eq_ediv_of_nonneg (by omega)]
  refine ⟨Int.ediv_nonneg (by omega) (by omega), Int.ediv_le_of_le_mul (by omega) ?_⟩
  rw [Int.mul_add]; omega
