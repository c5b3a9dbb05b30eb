/-! the two objects as they are first -/
def z0 : Sg := fun _ _ => 0
def zM : Sg := sgM (sgNN z0)
set_option maxRecDepth 100000 in
theorem z_f : ∀ f, f < 9 → (zM 114 (ixF f 0) = nI (tn (zM 114 (ixF f 0))) ∧ tn (zM 114 (ixF f 0)) ≤ 8) ∧ (zM 114 (ixF f 1) = nI (tn (zM 114 (ixF f 1))) ∧ tn (zM 114 (ixF f 1)) ≤ 99) ∧ (zM 114 (ixF f 2) = nI (tn (zM 114 (ixF f 2))) ∧ tn (zM 114 (ixF f 2)) ≤ 4) := by decide +kernel
set_option maxRecDepth 100000 in
theorem z_p : ∀ p, p < 8 → ∀ k, k < 7 → zM 114 (ixP p k) = 0 := by decide +kernel
set_option maxRecDepth 100000 in
theorem z_s : zM 114 0 = nI 0 ∧ zM 114 1 = nI 0 ∧ zM 114 2 = nI 0 ∧ zM 114 5 = nI 10 ∧ zM 113 13 = -1 ∧ tn (zM 114 1) = 0 := by decide +kernel
theorem In0 {m : Nat} : In 0 m := ⟨by decide +kernel, by show tn 0 ≤ m; rw [show tn 0 = 0 by decide +kernel]; exact Nat.zero_le _⟩
theorem z_good : Good (zM 114) := by
  obtain ⟨s0, s1, s2, s5, -, t1⟩ := z_s
  refine ⟨⟨by rw [s0]; exact In.mk' (by decide) (by decide), by rw [s1]; exact In.mk' (by decide) (by decide), by rw [s2]; exact In.mk' (by decide) (by decide), by rw [s5]; exact In.mk' (by decide) (by decide), fun f hf => z_f f hf, fun p hp => ?_, fun t ht => absurd ht (by rw [t1]; exact Nat.not_lt_zero _)⟩, ⟨fun p hp => ?_, fun a b ha hb => ?_, fun p _ hp => ?_⟩, by rw [s2]; exact In.mk' (by decide) (by decide), fun a ha => ?_⟩
  · rw [z_p p hp 0 (by decide), z_p p hp 1 (by decide), z_p p hp 2 (by decide)]
    exact ⟨In0, In0, In0⟩
  · rw [z_p p hp 3 (by decide), z_p p hp 6 (by decide)]
    exact ⟨In0, In0⟩
  · have h : ∀ c, c < 8 → decide ((0 : Int32) >>> (nI c &&& 31) &&& nI 1 = nI 1) = false := by decide +kernel
    unfold sTalk
    rw [z_p a ha 6 (by decide), z_p b hb 6 (by decide), h a ha, h b hb]
  · exact ⟨z_p p hp 3 (by decide), z_p p hp 4 (by decide), z_p p hp 5 (by decide), z_p p hp 6 (by decide)⟩
  · have h : ∀ c, c < 8 → decide ((0 : Int32) >>> (nI c &&& 31) &&& nI 1 = nI 1) = false := by decide +kernel
    unfold sTalk
    rw [z_p a ha 6 (by decide), h a ha]
set_option maxRecDepth 100000 in
theorem z_w1 : ∀ k, k < 6 → ∀ i, i < 8 → zM (28 + 2 + k) i = zM 114 (ixP i k) := by decide +kernel
set_option maxRecDepth 100000 in
theorem z_w2 : ∀ k, k < 3 → ∀ f, f < 9 → zM (28 + 9 + k) f = zM 114 (ixF f k) := by decide +kernel
set_option maxRecDepth 100000 in
theorem z_w3 : (∀ i, i < 8 → zM (28 + 12) i = zM 114 (ixP i 6)) ∧ (∀ k, k < 3 → zM (28 + 14) k = cnt (zM 114) k) ∧
  zM 28 7 = zM 114 0 ∧ zM 28 8 = zM 114 2 ∧ zM 28 9 = zM 114 5 ∧ zM 28 10 = zM 114 3 ∧ zM 28 11 = zM 114 4 ∧ zM 28 12 = zM 114 6 ∧ zM 28 13 = zM 114 1 := by decide +kernel
theorem z_A : LA zM := by
  obtain ⟨s0, s1, s2, s5, s13, t1⟩ := z_s
  exact ⟨z_good, ⟨fun k i hk hi => z_w1 k hk i hi, fun k f hk hf => z_w2 k hk f hf, z_w3⟩, fun t ht => absurd ht (by rw [t1]; exact Nat.not_lt_zero _), s13⟩
set_option maxRecDepth 100000 in
theorem z_b1 : ∀ k, k < 4 → zM (81 + 3 * k) 2 = zM 117 k ∧ zM (81 + 3 * k) 3 = zM 118 k ∧ zM 117 k = -1 ∧ zM 118 k = 0 ∧ ∀ i, i < 24 → zM 119 (24 * k + i) = 0 ∧ zM (81 + 3 * k + 2) i = 0 ∧ zM (81 + 3 * k + 1) i = 0 := by decide +kernel
theorem z_B : LB zM := by
  refine ⟨fun k hk => ?_, fun k hk i hi => Or.inr ?_⟩
  · obtain ⟨a, b, c, d, e⟩ := z_b1 k hk
    refine ⟨⟨a, b, fun i hi => Or.inr ?_⟩, by rw [c]; exact Or.inl rfl, by rw [d]; exact In0⟩
    obtain ⟨e1, e2, e3⟩ := e i hi
    show zM 119 (24 * k + i) ≠ NONEi ∧ zM (81 + 3 * k + 2) i = 0 ∧ zM (81 + 3 * k + 1) i = zM 119 (24 * k + i)
    rw [e1, e2, e3]
    exact ⟨by decide +kernel, rfl, rfl⟩
  · obtain ⟨-, -, -, -, e⟩ := z_b1 k hk
    show -99999 ≤ (zM 119 (24 * k + i)).toInt ∧ (zM 119 (24 * k + i)).toInt ≤ 99999
    rw [(e i hi).1]
    decide +kernel
set_option maxRecDepth 100000 in
theorem z_c1 : ∀ k, k < 5 → zM (93 + 4 * k) 1 = 0 ∧ zM 120 k = 0 ∧ zM (93 + 4 * k + 1) 2 = -1 ∧ zM (93 + 4 * k + 1) 3 = 0 ∧ ∀ i, i < 24 → zM (93 + 4 * k + 1 + 2) i = 0 ∧ zM (93 + 4 * k + 1 + 1) i = 0 := by decide +kernel
theorem z_C : LC zM := by
  intro k hk
  obtain ⟨a, b, c, d, e⟩ := z_c1 k hk
  rw [b]
  refine ⟨a, In0, fun q => absurd q (by decide +kernel), fun q => absurd q (by decide +kernel), fun q => absurd q (by decide +kernel), -1, 0, fun _ => 0, c, d, fun i hi => Or.inr ⟨(by decide +kernel : (0 : Int32) ≠ NONEi), (e i hi).1, (e i hi).2⟩⟩
set_option maxRecDepth 100000 in
theorem z_d1 : zM 73 2 = nI 0 ∧ zM 113 18 = nI 0 ∧ zM 0 11 = nI 0 ∧ zM 113 33 = nI 0 ∧ zM 0 12 = 0 ∧ zM 113 3 = 0 := by decide +kernel
theorem z_row : zM 78 = zM 133 := by
  funext j
  simp [zM, sgM, sgNN, sgW28, sgW43, sgW58, updS, z0]
theorem z_LI : LI zM := by
  obtain ⟨d1, d2, d3, d4, d5, d6⟩ := z_d1
  exact ⟨z_A, z_B, z_C, ⟨fun _ => 0, 0, by decide, fun i hi => absurd hi (Nat.not_lt_zero _), ⟨d1, fun i hi => absurd hi (Nat.not_lt_zero _)⟩, ⟨d2, fun i hi => absurd hi (Nat.not_lt_zero _)⟩⟩, ⟨0, by decide, d3, d4, z_row⟩, by rw [d5, d6], by rw [d6]; exact Or.inl rfl, fun q => absurd q (by rw [d6]; decide +kernel)⟩
