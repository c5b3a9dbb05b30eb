/-! THE SPEC: everything that an image keeps as one row of numbers (the model's row s): 0 how many PEOPLE, 1 TEXTS, 2 THE NOON, 3 STEPS, 4 LEFT, 5 LATE, 6 z; FIELD f from 7 + 3 f; one p from 34 + 7 p; TEXT t from 90 + 200 t -/
abbrev Rw : Type := Nat → Int32
def ixF (f k : Nat) : Nat := 7 + 3 * f + k
def ixP (p k : Nat) : Nat := 34 + 7 * p + k
def ixT (t k : Nat) : Nat := 90 + 200 * t + k
def farN (a b : Nat) : Nat := (a / 3 - b / 3) + (b / 3 - a / 3) + ((a % 3 - b % 3) + (b % 3 - a % 3))
/-- the last of the first n texts for a key, or -1 -/
def cntN (S : Rw) (key : Int32) : Nat → Int32
  | 0 => -1
  | t + 1 => if S (ixT t 0) = key then nI t else cntN S key t
def cnt (S : Rw) (key : Nat) : Int32 := cntN S (nI key) (tn (S 1))
def sTalk (S : Rw) (a b : Nat) : Bool := decide (S (ixP a 6) >>> (nI b &&& 31) &&& nI 1 = nI 1)
/-- the cells of the World at w hold the row S -/
def WRel (w : Nat) (S : Rw) (σ : Sg) : Prop :=
  (∀ k i, k < 6 → i < 8 → σ (w + 2 + k) i = S (ixP i k)) ∧ (∀ k f, k < 3 → f < 9 → σ (w + 9 + k) f = S (ixF f k)) ∧ (∀ i, i < 8 → σ (w + 12) i = S (ixP i 6)) ∧ (∀ k, k < 3 → σ (w + 14) k = cnt S k) ∧
  σ w 7 = S 0 ∧ σ w 8 = S 2 ∧ σ w 9 = S 5 ∧ σ w 10 = S 3 ∧ σ w 11 = S 4 ∧ σ w 12 = S 6 ∧ σ w 13 = S 1
section WR
variable {w : Nat} {S : Rw} {σ : Sg}
theorem WRel.p (h : WRel w S σ) {i : Nat} (k : Nat) (hk : k < 6) (hi : i < 8) : σ (w + 2 + k) i = S (ixP i k) := h.1 k i hk hi
theorem WRel.f (h : WRel w S σ) {f : Nat} (k : Nat) (hk : k < 3) (hf : f < 9) : σ (w + 9 + k) f = S (ixF f k) := h.2.1 k f hk hf
theorem WRel.t (h : WRel w S σ) {i : Nat} (hi : i < 8) : σ (w + 12) i = S (ixP i 6) := h.2.2.1 i hi
theorem WRel.c (h : WRel w S σ) {k : Nat} (hk : k < 3) : σ (w + 14) k = cnt S k := h.2.2.2.1 k hk
theorem WRel.n (h : WRel w S σ) : σ w 7 = S 0 := h.2.2.2.2.1
theorem WRel.noon (h : WRel w S σ) : σ w 8 = S 2 := h.2.2.2.2.2.1
theorem WRel.late (h : WRel w S σ) : σ w 9 = S 5 := h.2.2.2.2.2.2.1
theorem WRel.steps (h : WRel w S σ) : σ w 10 = S 3 := h.2.2.2.2.2.2.2.1
theorem WRel.left (h : WRel w S σ) : σ w 11 = S 4 := h.2.2.2.2.2.2.2.2.1
theorem WRel.z (h : WRel w S σ) : σ w 12 = S 6 := h.2.2.2.2.2.2.2.2.2.1
theorem WRel.texts (h : WRel w S σ) : σ w 13 = S 1 := h.2.2.2.2.2.2.2.2.2.2
theorem WRel.frame {σ' : Sg} (h : WRel w S σ) (hf : ∀ k, w ≤ k → k < w + 15 → k ≠ w + 13 → σ' k = σ k) : WRel w S σ' := by
  have e0 := hf w (by omega) (by omega) (by omega)
  refine ⟨fun k i hk hi => ?_, fun k f hk hf' => ?_, fun i hi => ?_, fun k hk => ?_, ?_⟩
  · rw [hf (w + 2 + k) (by omega) (by omega) (by omega)]; exact h.p k hk hi
  · rw [hf (w + 9 + k) (by omega) (by omega) (by omega)]; exact h.f k hk hf'
  · rw [hf (w + 12) (by omega) (by omega) (by omega)]; exact h.t hi
  · rw [hf (w + 14) (by omega) (by omega) (by omega)]; exact h.c hk
  · rw [e0]; exact h.2.2.2.2
end WR
theorem pi_of {v v' : Int32} {σ : Sg} (h : v = v') : PI v' σ (some (.int v)) σ := ⟨by rw [h], rfl⟩
theorem far_c : ∀ a, a < 9 → ∀ b, b < 9 → (if 0 ≤ nI a / nI 3 - nI b / nI 3 then nI a / nI 3 - nI b / nI 3 else 0 - (nI a / nI 3 - nI b / nI 3)) + (if 0 ≤ nI a - nI a / nI 3 * nI 3 - (nI b - nI b / nI 3 * nI 3) then nI a - nI a / nI 3 * nI 3 - (nI b - nI b / nI 3 * nI 3) else 0 - (nI a - nI a / nI 3 * nI 3 - (nI b - nI b / nI 3 * nI 3))) = nI (farN a b) := by decide +kernel
theorem far_le : ∀ a, a < 9 → ∀ b, b < 9 → farN a b ≤ 4 := by decide +kernel
theorem p_N_isUpTo (g : CX) (d : Nat) (hd : 0 ≤ d) (σ : Sg) (v m : Int32) : RunM g d N_isUpTo [.int v, .int m] σ (PI (bI (upB v m)) σ) := by
  refine RunM.of 0 (by decide +kernel) rfl ?_
  intro κ hg hx hk0 G E
  subst hg
  have hk : 2 ≤ kn κ := Nat.le_of_eq hk0.symm
  show X κ NC 0 [some (.int v), some (.int m)] [] (hv σ)
  refine x_iload0 G d_N_isUpTo_0 ?_
  refine x_if_lt G d_N_isUpTo_1 (fun c1 => ?_) (fun c1 => ?_)
  · refine x_iconst (v := nI 0) G d_N_isUpTo_13 rfl ?_
    exact m_iret E G d_N_isUpTo_14 hx rfl rfl ⟨by simp [bI, upB, nI_0, nI1, *], rfl⟩
  · refine x_iload0 G d_N_isUpTo_4 ?_
    refine x_iload1 G d_N_isUpTo_5 ?_
    refine x_icmp_gt G d_N_isUpTo_6 (fun c6 => ?_) (fun c6 => ?_)
    · refine x_iconst (v := nI 0) G d_N_isUpTo_13 rfl ?_
      exact m_iret E G d_N_isUpTo_14 hx rfl rfl ⟨by simp [bI, upB, nI_0, nI1, *], rfl⟩
    · refine x_iconst (v := nI 1) G d_N_isUpTo_9 rfl ?_
      refine x_goto G d_N_isUpTo_10 ?_
      exact m_iret E G d_N_isUpTo_14 hx rfl rfl ⟨by simp [bI, upB, nI_0, nI1, *], rfl⟩
theorem p_N_exchange (g : CX) (d : Nat) (hd : 0 ≤ d) (σ : Sg) (r len j : Nat) (hs : shp r = .inr (0, len)) (hj : j < len) (hl9 : len < 2 ^ 30) (v : Int32) : RunM g d N_exchange [.ref r, .int (nI j), .int v] σ (PI (σ r j) (updS σ r j v)) := by
  refine RunM.of 1 (by decide +kernel) rfl ?_
  intro κ hg hx hk0 G E
  subst hg
  have hk : 4 ≤ kn κ := Nat.le_of_eq hk0.symm
  show X κ NC 0 [some (.ref r), some (.int (nI j)), some (.int v), none] [] (hv σ)
  refine x_aload0 G d_N_exchange_0 ?_
  refine x_iload1 G d_N_exchange_1 ?_
  refine m_iald _ G d_N_exchange_2 hs rfl ⟨by omega, by first | decide | omega⟩ ?_
  refine x_istore3 G d_N_exchange_3 rfl hk ?_
  refine x_aload0 G d_N_exchange_4 ?_
  refine x_iload1 G d_N_exchange_5 ?_
  refine x_iload2 G d_N_exchange_6 ?_
  refine m_iast _ G d_N_exchange_7 hs rfl ⟨by omega, by first | decide | omega⟩ ?_
  refine x_iload3 G d_N_exchange_8 ?_
  exact m_iret E G d_N_exchange_9 hx rfl rfl ⟨rfl, rfl⟩
theorem p_Wo_isOne (g : CX) (d : Nat) (hd : 0 ≤ d) (σ : Sg) (w : Nat) (hw : isW w) (one : Int32) : RunM g d Wo_isOne [.ref w, .int one] σ (PI (bI (isO (σ w 7) one)) σ) := by
  refine RunM.of 0 (by decide +kernel) rfl ?_
  intro κ hg hx hk0 G E
  subst hg
  have hk : 2 ≤ kn κ := Nat.le_of_eq hk0.symm
  show X κ NC 0 [some (.ref w), some (.int one)] [] (hv σ)
  refine x_iload1 G d_Wo_isOne_0 ?_
  refine x_if_lt G d_Wo_isOne_1 (fun c1 => ?_) (fun c1 => ?_)
  · refine x_iconst (v := nI 0) G d_Wo_isOne_16 rfl ?_
    exact m_iret E G d_Wo_isOne_17 hx rfl rfl ⟨by simp [bI, isO, nI_0, nI1, *], rfl⟩
  · refine x_iload1 G d_Wo_isOne_4 ?_
    refine x_aload0 G d_Wo_isOne_5 ?_
    refine m_geti G d_Wo_isOne_6 fl_Wo_29 (W_o hw) (W_l hw) (W_ij hw 7 (by decide) (by decide)) ?_
    refine x_icmp_ge G d_Wo_isOne_9 (fun c9 => ?_) (fun c9 => ?_)
    · refine x_iconst (v := nI 0) G d_Wo_isOne_16 rfl ?_
      exact m_iret E G d_Wo_isOne_17 hx rfl rfl ⟨by simp [bI, isO, nI_0, nI1, *], rfl⟩
    · refine x_iconst (v := nI 1) G d_Wo_isOne_12 rfl ?_
      refine x_goto G d_Wo_isOne_13 ?_
      exact m_iret E G d_Wo_isOne_17 hx rfl rfl ⟨by simp [bI, isO, nI_0, nI1, *], rfl⟩
theorem p_Wo_apart (g : CX) (d : Nat) (hd : 1 ≤ d) (σ : Sg) (a b : Nat) (ha : a < 9) (hb : b < 9) : RunM g d Wo_apart [.int (nI a), .int (nI b)] σ (PI (nI (farN a b)) σ) := by
  refine RunM.of 0 (by decide +kernel) rfl ?_
  intro κ hg hx hk0 G E
  subst hg
  have hk : 2 ≤ kn κ := Nat.le_of_eq hk0.symm
  show X κ NC 0 [some (.int (nI a)), some (.int (nI b))] [] (hv σ)
  refine x_iload0 G d_Wo_apart_0 ?_
  refine x_iconst (v := nI 3) G d_Wo_apart_1 rfl ?_
  refine x_idiv G d_Wo_apart_2 (by decide +kernel) ?_
  refine x_iload1 G d_Wo_apart_3 ?_
  refine x_iconst (v := nI 3) G d_Wo_apart_4 rfl ?_
  refine x_idiv G d_Wo_apart_5 (by decide +kernel) ?_
  refine x_isub G d_Wo_apart_6 ?_
  refine x_abs lm_Wo_81 G d_Wo_apart_7 (by omega) (Nat.le_of_ble_eq_true rfl) (Nat.le_of_eq hx.symm) ?_
  refine x_iload0 G d_Wo_apart_10 ?_
  refine x_iconst (v := nI 3) G d_Wo_apart_11 rfl ?_
  refine x_irem G d_Wo_apart_12 (by decide +kernel) ?_
  refine x_iload1 G d_Wo_apart_13 ?_
  refine x_iconst (v := nI 3) G d_Wo_apart_14 rfl ?_
  refine x_irem G d_Wo_apart_15 (by decide +kernel) ?_
  refine x_isub G d_Wo_apart_16 ?_
  refine x_abs lm_Wo_81 G d_Wo_apart_17 (by omega) (Nat.le_of_ble_eq_true rfl) (Nat.le_of_eq hx.symm) ?_
  refine x_iadd G d_Wo_apart_20 ?_
  exact m_iret E G d_Wo_apart_21 hx rfl rfl (pi_of (far_c a ha b hb))
theorem p_Wo_isTalk (g : CX) (d : Nat) (hd : 0 ≤ d) (σ : Sg) (w : Nat) (hw : isW w) (S : Rw) (hR : WRel w S σ) (a : Nat) (b : Nat) (ha : a < 8) : RunM g d Wo_isTalk [.ref w, .int (nI a), .int (nI b)] σ (PI (bI (sTalk S a b)) σ) := by
  refine RunM.of 0 (by decide +kernel) rfl ?_
  intro κ hg hx hk0 G E
  subst hg
  have hk : 3 ≤ kn κ := Nat.le_of_eq hk0.symm
  show X κ NC 0 [some (.ref w), some (.int (nI a)), some (.int (nI b))] [] (hv σ)
  refine x_aload0 G d_Wo_isTalk_0 ?_
  refine m_getr G d_Wo_isTalk_1 fl_Wo_19 (W_o hw) (W_l hw) (W_r4 hw) ?_
  refine x_iload1 G d_Wo_isTalk_4 ?_
  refine m_iald _ G d_Wo_isTalk_5 (W_s12 hw) rfl ⟨by omega, by first | decide | omega⟩ ?_
  refine x_iload2 G d_Wo_isTalk_6 ?_
  refine x_ishr G d_Wo_isTalk_7 ?_
  refine x_iconst (v := nI 1) G d_Wo_isTalk_8 rfl ?_
  refine x_iand G d_Wo_isTalk_9 ?_
  refine x_iconst (v := nI 1) G d_Wo_isTalk_10 rfl ?_
  refine x_icmp_ne G d_Wo_isTalk_11 (fun c11 => ?_) (fun c11 => ?_)
  · refine x_iconst (v := nI 0) G d_Wo_isTalk_18 rfl ?_
    exact m_iret E G d_Wo_isTalk_19 hx rfl rfl ⟨by rw [hR.t ha] at *; simp_all [bI, sTalk, nI_0, nI1], rfl⟩
  · refine x_iconst (v := nI 1) G d_Wo_isTalk_14 rfl ?_
    refine x_goto G d_Wo_isTalk_15 ?_
    exact m_iret E G d_Wo_isTalk_19 hx rfl rfl ⟨by rw [hR.t ha] at *; simp_all [bI, sTalk, nI_0, nI1], rfl⟩
