/-! the model's noon -/
theorem clampI_w (v : Int32) : withB v (nI 999) = clampI v := rfl
theorem clamp_rng (v : Int32) : ∃ k, k < 1000 ∧ clampI v = nI k := by
  unfold clampI
  rcases pk_ix v (n := 1000) (by decide) with h | h | ⟨j, hj, rfl⟩
  · exact ⟨0, by decide, by rw [if_pos h]; rfl⟩
  · refine ⟨999, by decide, ?_⟩
    have h0 : ¬ v < 0 := fun q => by
      have := Int32.lt_of_lt_of_le q (nI_pos' (n := 1000) (by decide))
      exact absurd h (Int32.not_le.mpr this)
    rw [if_neg h0]
    split
    · rfl
    · rename_i q
      have q2 := Int32.not_lt.mp q
      have := Int32.le_trans h q2
      exact absurd this (by decide +kernel)
  · refine ⟨j, hj, ?_⟩
    rw [if_neg (nI_pos (by omega)), if_neg (nI_nlt (by omega) (by decide))]
theorem plain_rng {S : Rw} (hI : Inv S) {p f : Nat} (hp : p < 8) (hf : f < 9) : ∃ k, k < 1000 ∧ sPlain S p f = nI k := by
  unfold sPlain
  split
  · have h1 := far_le (tn (S (ixP p 1))) (by have := (hI.home hp).2; omega) f hf
    have h2 := hI.corn hf
    refine ⟨10 * sFar S p f + tn (S (ixF f 1)), by unfold sFar; omega, ?_⟩
    rw [h2.1, pk_mul, nI_add, tn_nI (by omega)]
  · exact clamp_rng _
theorem child_c : ∀ v, v < 1000 → withB (nI v / nI 2 - nI 3) (nI 999) = (if nI 0 < nI v / nI 2 - nI 3 then nI v / nI 2 - nI 3 else nI 0) := by decide +kernel
theorem corn_c : ∀ v, v < 100 → withB (nI v - nI 1) (nI 99) = (if nI 0 < nI v - nI 1 then nI v - nI 1 else nI 0) := by decide +kernel
theorem gst_val {S : Rw} {T : Nat → Int32} {p : Nat} : ∀ n, n ≤ 9 → ∀ f l, f < 2 ^ 31 → gst S T p n = (nI f, l) → l = sWalk S p f
  | 0, _, f, l, hf, h => by
    have h1 : (-1 : Int32) = nI f := congrArg Prod.fst h
    exact absurd h1.symm (nI_nn hf (by decide +kernel))
  | n + 1, hn, f, l, hf, h => by
    unfold gst at h
    split at h
    · have h1 := congrArg Prod.fst h
      have h2 := congrArg Prod.snd h
      have h3 := (neq (by omega) hf).mp h1
      rw [← h3]; exact h2.symm
    · exact gst_val n (by omega) f l hf h
theorem kcs6 {j : Nat} (h : j ≤ 5) : j = 0 ∨ j = 1 ∨ j = 2 ∨ j = 3 ∨ j = 4 ∨ j = 5 := by omega
/-- the model holds the row S, and stands T -/
def MT (T : Nat → Int32) (σ : Sg) : Prop := ∀ i, i < 8 → σ 125 i = T i
def OutW2 (σ σ' : Sg) : Prop := ∀ k, k ≠ 130 → k ≠ 131 → σ' k = σ k
theorem p_M_areTalked (g : CX) (d : Nat) (hd : 1 ≤ d) (σ : Sg) (S : Rw) (hS : σ 114 = S) (a b : Nat) (ha : a < 8) : RunM g d M_areTalked [.ref 113, .int (nI a), .int (nI b)] σ (PI (bI (sTalk S a b)) σ) := by
  refine RunM.of 0 (by decide +kernel) rfl ?_
  intro κ hg hx hk0 G E
  subst hg
  have hk : 3 ≤ kn κ := Nat.le_of_eq hk0.symm
  show X κ NC 0 [some (.ref 113), some (.int (nI a)), some (.int (nI b))] [] (hv σ)
  refine x_aload0 G d_M_areTalked_0 ?_
  refine x_iload1 G d_M_areTalked_1 ?_
  refine x_bipush (v := nI 6) G d_M_areTalked_2 rfl ?_
  refine m_callV_pi (p_M_of (kg κ) (d - 1) (by omega) _ a 6 ha (by decide)) G d_M_areTalked_4 lk_M_107 rfl ⟨by decide, rfl⟩ (by decide) (by omega) rfl (Nat.le_of_ble_eq_true rfl) hx ?_
  rw [hS]
  refine x_iload2 G d_M_areTalked_7 ?_
  refine x_ishr G d_M_areTalked_8 ?_
  refine x_iconst (v := nI 1) G d_M_areTalked_9 rfl ?_
  refine x_iand G d_M_areTalked_10 ?_
  refine x_iconst (v := nI 1) G d_M_areTalked_11 rfl ?_
  refine x_icmp_ne G d_M_areTalked_12 (fun c12 => ?_) (fun c12 => ?_)
  · refine x_iconst (v := nI 0) G d_M_areTalked_19 rfl ?_
    exact m_iret E G d_M_areTalked_20 hx rfl rfl (pi_of (by simp_all [bI, sTalk, nI_0, nI1]))
  · refine x_iconst (v := nI 1) G d_M_areTalked_15 rfl ?_
    refine x_goto G d_M_areTalked_16 ?_
    exact m_iret E G d_M_areTalked_20 hx rfl rfl (pi_of (by simp_all [bI, sTalk, nI_0, nI1]))
theorem worth_c (x : Int32) : nI 93 - x = nI 99 - x - nI 6 := by
  have e : nI 93 = nI 99 - nI 6 := by decide +kernel
  rw [e]
  simp only [Int32.sub_eq_add_neg, Int32.add_assoc]
  rw [Int32.add_comm (-nI 6)]
theorem p_M_worth (g : CX) (d : Nat) (hd : 1 ≤ d) (σ : Sg) (S : Rw) (hS : σ 114 = S) (hI : Inv S) (p : Nat) (hp : p < 8) : RunM g d M_worth [.ref 113, .int (nI p)] σ (PI (worthB (tn (S (ixP p 0))) (S (ixP p 2))) σ) := by
  refine RunM.of 1 (by decide +kernel) rfl ?_
  intro κ hg hx hk0 G E
  subst hg
  have hk : 3 ≤ kn κ := Nat.le_of_eq hk0.symm
  show X κ NC 0 [some (.ref 113), some (.int (nI p)), none] [] (hv σ)
  refine x_aload0 G d_M_worth_0 ?_
  refine x_iload1 G d_M_worth_1 ?_
  refine x_iconst (v := nI 2) G d_M_worth_2 rfl ?_
  refine m_callV_pi (p_M_of (kg κ) (d - 1) (by omega) _ p 2 hp (by decide)) G d_M_worth_3 lk_M_107 rfl ⟨by decide, rfl⟩ (by decide) (by omega) rfl (Nat.le_of_ble_eq_true rfl) hx ?_
  rw [hS]
  refine x_istore2 G d_M_worth_6 rfl hk ?_
  refine x_aload0 G d_M_worth_7 ?_
  refine x_iload1 G d_M_worth_8 ?_
  refine x_iconst (v := nI 0) G d_M_worth_9 rfl ?_
  refine m_callV_pi (p_M_of (kg κ) (d - 1) (by omega) _ p 0 hp (by decide)) G d_M_worth_10 lk_M_107 rfl ⟨by decide, rfl⟩ (by decide) (by omega) rfl (Nat.le_of_ble_eq_true rfl) hx ?_
  rw [hS]
  rcases kcs6 (hI.kind hp).2 with hk0 | hk0 | hk0 | hk0 | hk0 | hk0
  · rw [show S (ixP p 0) = nI 0 by rw [(hI.kind hp).1, hk0]]
    refine x_tabOut 70 G d_M_worth_13 (by decide +kernel) rfl ?_
    refine x_iload2 G d_M_worth_70 ?_
    exact m_iret E G d_M_worth_71 hx rfl rfl (pi_of (by rw [hk0]; rfl))
  · rw [show S (ixP p 0) = nI 1 by rw [(hI.kind hp).1, hk0]]
    refine x_tabIn (35) 48 G d_M_worth_13 (by decide +kernel) (by decide +kernel) (by decide +kernel) rfl ?_
    refine x_iload2 G d_M_worth_48 ?_
    refine x_iconst (v := nI 4) G d_M_worth_49 rfl ?_
    refine x_iadd G d_M_worth_50 ?_
    exact m_iret E G d_M_worth_51 hx rfl rfl (pi_of (by rw [hk0]; rfl))
  · rw [show S (ixP p 0) = nI 2 by rw [(hI.kind hp).1, hk0]]
    refine x_tabIn (39) 52 G d_M_worth_13 (by decide +kernel) (by decide +kernel) (by decide +kernel) rfl ?_
    refine x_bipush (v := nI 99) G d_M_worth_52 rfl ?_
    refine x_iload2 G d_M_worth_54 ?_
    refine x_isub G d_M_worth_55 ?_
    exact m_iret E G d_M_worth_56 hx rfl rfl (pi_of (by rw [hk0]; rfl))
  · rw [show S (ixP p 0) = nI 3 by rw [(hI.kind hp).1, hk0]]
    refine x_tabIn (44) 57 G d_M_worth_13 (by decide +kernel) (by decide +kernel) (by decide +kernel) rfl ?_
    refine x_iconst (v := nI 2) G d_M_worth_57 rfl ?_
    refine x_iload2 G d_M_worth_58 ?_
    refine x_iconst (v := nI 4) G d_M_worth_59 rfl ?_
    refine x_iadd G d_M_worth_60 ?_
    refine x_imul G d_M_worth_61 ?_
    exact m_iret E G d_M_worth_62 hx rfl rfl (pi_of (by rw [hk0]; rfl))
  · rw [show S (ixP p 0) = nI 4 by rw [(hI.kind hp).1, hk0]]
    refine x_tabIn (50) 63 G d_M_worth_13 (by decide +kernel) (by decide +kernel) (by decide +kernel) rfl ?_
    refine x_bipush (v := nI 93) G d_M_worth_63 rfl ?_
    refine x_iload2 G d_M_worth_65 ?_
    refine x_isub G d_M_worth_66 ?_
    exact m_iret E G d_M_worth_67 hx rfl rfl (pi_of (by rw [hk0]; exact worth_c _))
  · rw [show S (ixP p 0) = nI 5 by rw [(hI.kind hp).1, hk0]]
    refine x_tabIn (55) 68 G d_M_worth_13 (by decide +kernel) (by decide +kernel) (by decide +kernel) rfl ?_
    refine x_iconst (v := nI 3) G d_M_worth_68 rfl ?_
    exact m_iret E G d_M_worth_69 hx rfl rfl (pi_of (by rw [hk0]; rfl))
theorem isOfN : ∀ j, j < 6 → ∀ v, v < 6 → isOfB j (nI v) = (decide (v = j) || decide (v = 0) || (decide (v = 1) && decide (j = 3)) || (decide (v = 2) && decide (j = 4))) := by decide +kernel
theorem isT {j v : Nat} (hj : j < 6) (hv : v < 6) (h : v = j ∨ v = 0 ∨ (v = 1 ∧ j = 3) ∨ (v = 2 ∧ j = 4)) : nI 1 = bI (isOfB j (nI v)) := by
  rw [isOfN j hj v hv, show (decide (v = j) || decide (v = 0) || (decide (v = 1) && decide (j = 3)) || (decide (v = 2) && decide (j = 4))) = true by simp; omega]
  rfl
theorem isF {j v : Nat} (hj : j < 6) (hv : v < 6) (h : ¬ (v = j ∨ v = 0 ∨ (v = 1 ∧ j = 3) ∨ (v = 2 ∧ j = 4))) : nI 0 = bI (isOfB j (nI v)) := by
  rw [isOfN j hj v hv, show (decide (v = j) || decide (v = 0) || (decide (v = 1) && decide (j = 3)) || (decide (v = 2) && decide (j = 4))) = false by simp; omega]
  rfl
theorem n0e {v : Nat} (h : v < 2 ^ 31) : nI v = 0 ↔ v = 0 := neq h (by decide)
theorem p_M_isOf (g : CX) (d : Nat) (hd : 0 ≤ d) (σ : Sg) (j : Nat) (hj : j < 6) (v : Nat) (hv9 : v < 6) : RunM g d M_isOf [.int (nI j), .int (nI v)] σ (PI (bI (isOfB j (nI v))) σ) := by
  refine RunM.of 0 (by decide +kernel) rfl ?_
  intro κ hg hx hk0 G E
  subst hg
  have hk : 2 ≤ kn κ := Nat.le_of_eq hk0.symm
  show X κ NC 0 [some (.int (nI j)), some (.int (nI v))] [] (hv σ)
  refine x_iload0 G d_M_isOf_0 ?_
  refine x_iload1 G d_M_isOf_1 ?_
  refine x_icmp_eq G d_M_isOf_2 (fun c2 => ?_) (fun c2 => ?_)
  · rw [neq (by omega) (by omega)] at c2
    refine x_iconst (v := nI 1) G d_M_isOf_29 rfl ?_
    refine x_goto G d_M_isOf_30 ?_
    exact m_iret E G d_M_isOf_34 hx rfl rfl (pi_of (by first | exact isT hj hv9 (by omega) | exact isF hj hv9 (by omega)))
  · rw [neq (by omega) (by omega)] at c2
    refine x_iload1 G d_M_isOf_5 ?_
    refine x_if_eq G d_M_isOf_6 (fun c6 => ?_) (fun c6 => ?_)
    · rw [n0e (by omega)] at c6
      refine x_iconst (v := nI 1) G d_M_isOf_29 rfl ?_
      refine x_goto G d_M_isOf_30 ?_
      exact m_iret E G d_M_isOf_34 hx rfl rfl (pi_of (by first | exact isT hj hv9 (by omega) | exact isF hj hv9 (by omega)))
    · rw [n0e (by omega)] at c6
      refine x_iload1 G d_M_isOf_9 ?_
      refine x_iconst (v := nI 1) G d_M_isOf_10 rfl ?_
      refine x_icmp_ne G d_M_isOf_11 (fun c11 => ?_) (fun c11 => ?_)
      · rw [neq (by omega) (by omega)] at c11
        refine x_iload1 G d_M_isOf_19 ?_
        refine x_iconst (v := nI 2) G d_M_isOf_20 rfl ?_
        refine x_icmp_ne G d_M_isOf_21 (fun c21 => ?_) (fun c21 => ?_)
        · rw [neq (by omega) (by omega)] at c21
          refine x_iconst (v := nI 0) G d_M_isOf_33 rfl ?_
          exact m_iret E G d_M_isOf_34 hx rfl rfl (pi_of (by first | exact isT hj hv9 (by omega) | exact isF hj hv9 (by omega)))
        · rw [neq (by omega) (by omega)] at c21
          refine x_iload0 G d_M_isOf_24 ?_
          refine x_iconst (v := nI 4) G d_M_isOf_25 rfl ?_
          refine x_icmp_ne G d_M_isOf_26 (fun c26 => ?_) (fun c26 => ?_)
          · rw [neq (by omega) (by omega)] at c26
            refine x_iconst (v := nI 0) G d_M_isOf_33 rfl ?_
            exact m_iret E G d_M_isOf_34 hx rfl rfl (pi_of (by first | exact isT hj hv9 (by omega) | exact isF hj hv9 (by omega)))
          · rw [neq (by omega) (by omega)] at c26
            refine x_iconst (v := nI 1) G d_M_isOf_29 rfl ?_
            refine x_goto G d_M_isOf_30 ?_
            exact m_iret E G d_M_isOf_34 hx rfl rfl (pi_of (by first | exact isT hj hv9 (by omega) | exact isF hj hv9 (by omega)))
      · rw [neq (by omega) (by omega)] at c11
        refine x_iload0 G d_M_isOf_14 ?_
        refine x_iconst (v := nI 3) G d_M_isOf_15 rfl ?_
        refine x_icmp_eq G d_M_isOf_16 (fun c16 => ?_) (fun c16 => ?_)
        · rw [neq (by omega) (by omega)] at c16
          refine x_iconst (v := nI 1) G d_M_isOf_29 rfl ?_
          refine x_goto G d_M_isOf_30 ?_
          exact m_iret E G d_M_isOf_34 hx rfl rfl (pi_of (by first | exact isT hj hv9 (by omega) | exact isF hj hv9 (by omega)))
        · rw [neq (by omega) (by omega)] at c16
          refine x_iload1 G d_M_isOf_19 ?_
          refine x_iconst (v := nI 2) G d_M_isOf_20 rfl ?_
          refine x_icmp_ne G d_M_isOf_21 (fun c21 => ?_) (fun c21 => ?_)
          · rw [neq (by omega) (by omega)] at c21
            refine x_iconst (v := nI 0) G d_M_isOf_33 rfl ?_
            exact m_iret E G d_M_isOf_34 hx rfl rfl (pi_of (by first | exact isT hj hv9 (by omega) | exact isF hj hv9 (by omega)))
          · rw [neq (by omega) (by omega)] at c21
            refine x_iload0 G d_M_isOf_24 ?_
            refine x_iconst (v := nI 4) G d_M_isOf_25 rfl ?_
            refine x_icmp_ne G d_M_isOf_26 (fun c26 => ?_) (fun c26 => ?_)
            · rw [neq (by omega) (by omega)] at c26
              refine x_iconst (v := nI 0) G d_M_isOf_33 rfl ?_
              exact m_iret E G d_M_isOf_34 hx rfl rfl (pi_of (by first | exact isT hj hv9 (by omega) | exact isF hj hv9 (by omega)))
            · rw [neq (by omega) (by omega)] at c26
              refine x_iconst (v := nI 1) G d_M_isOf_29 rfl ?_
              refine x_goto G d_M_isOf_30 ?_
              exact m_iret E G d_M_isOf_34 hx rfl rfl (pi_of (by first | exact isT hj hv9 (by omega) | exact isF hj hv9 (by omega)))
theorem p_M_walkOf (g : CX) (d : Nat) (hd : 2 ≤ d) (σ : Sg) (S : Rw) (hS : σ 114 = S) (hI : Inv S) (p : Nat) (hp : p < 8) (f : Nat) (hf : f < 9) : RunM g d M_walkOf [.ref 113, .int (nI p), .int (nI f)] σ (PR (fun v σ1 => v = sWalk S p f ∧ OutW2 σ σ1)) := by
  refine RunM.of 3 (by decide +kernel) rfl ?_
  intro κ hg hx hk0 G E
  subst hg
  have hk : 6 ≤ kn κ := Nat.le_of_eq hk0.symm
  show X κ NC 0 [some (.ref 113), some (.int (nI p)), some (.int (nI f)), none, none, none] [] (hv σ)
  refine x_aload0 G d_M_walkOf_0 ?_
  refine x_iload1 G d_M_walkOf_1 ?_
  refine x_iconst (v := nI 1) G d_M_walkOf_2 rfl ?_
  refine m_callV_pi (p_M_of (kg κ) (d - 1) (by omega) _ p 1 hp (by decide)) G d_M_walkOf_3 lk_M_107 rfl ⟨by decide, rfl⟩ (by decide) (by omega) rfl (Nat.le_of_ble_eq_true rfl) hx ?_
  rw [hS, (hI.home hp).1]
  refine x_iload2 G d_M_walkOf_6 ?_
  refine m_callS_pi (p_M_farOf (kg κ) (d - 1) (by omega) _ (tn (S (ixP p 1))) f (by have := (hI.home hp).2; omega) hf) G d_M_walkOf_7 lk_M_110 (by omega) rfl (Nat.le_of_ble_eq_true rfl) hx ?_
  refine x_istore3 G d_M_walkOf_10 rfl hk ?_
  refine x_bipush (v := nI 10) G d_M_walkOf_11 rfl ?_
  refine x_iload3 G d_M_walkOf_13 ?_
  refine x_imul G d_M_walkOf_14 ?_
  refine x_aload0 G d_M_walkOf_15 ?_
  refine x_iload2 G d_M_walkOf_16 ?_
  refine x_iconst (v := nI 1) G d_M_walkOf_17 rfl ?_
  refine m_callV_pi (p_M_in (kg κ) (d - 1) (by omega) _ f 1 hf (by decide)) G d_M_walkOf_18 lk_M_113 rfl ⟨by decide, rfl⟩ (by decide) (by omega) rfl (Nat.le_of_ble_eq_true rfl) hx ?_
  rw [hS]
  refine x_iadd G d_M_walkOf_21 ?_
  refine x_istore4 G d_M_walkOf_22 rfl hk ?_
  refine x_aload0 G d_M_walkOf_24 ?_
  refine x_iconst (v := nI 0) G d_M_walkOf_25 rfl ?_
  refine m_callV_pi (p_M_counts (kg κ) (d - 1) (by omega) _ S hS hI 0) G d_M_walkOf_26 lk_M_116 rfl ⟨by decide, rfl⟩ (by decide) (by omega) rfl (Nat.le_of_ble_eq_true rfl) hx ?_
  refine x_istore5 G d_M_walkOf_29 rfl hk ?_
  refine x_iload5 G d_M_walkOf_31 ?_
  refine x_if_lt G d_M_walkOf_33 (fun c33 => ?_) (fun c33 => ?_)
  · have hS' := hS
    have hF : OutW2 σ σ := fun _ _ _ => rfl
    have hpl : nI 10 * nI (farN (tn (S (ixP p 1))) f) + S (ixF f 1) = sPlain S p f := by unfold sPlain; rw [if_pos c33]; rfl
    rw [hpl]
    refine x_aload0 G d_M_walkOf_88 ?_
    refine x_iload1 G d_M_walkOf_89 ?_
    refine x_iconst (v := nI 0) G d_M_walkOf_90 rfl ?_
    refine m_callV_pi (p_M_of (kg κ) (d - 1) (by omega) _ p 0 hp (by decide)) G d_M_walkOf_91 lk_M_107 rfl ⟨by decide, rfl⟩ (by decide) (by omega) rfl (Nat.le_of_ble_eq_true rfl) hx ?_
    rw [hS']
    rcases kcs6 (hI.kind hp).2 with hk0 | hk0 | hk0 | hk0 | hk0 | hk0
    · rw [show S (ixP p 0) = nI 0 by rw [(hI.kind hp).1, hk0]]
      refine x_tabOut 160 G d_M_walkOf_94 (by decide +kernel) rfl ?_
      refine x_iload4 G d_M_walkOf_160 ?_
      exact m_iret E G d_M_walkOf_162 hx rfl rfl ⟨_, rfl, (by unfold sWalk; rw [hk0]; rfl), hF⟩
    · rw [show S (ixP p 0) = nI 1 by rw [(hI.kind hp).1, hk0]]
      refine x_tabIn (34) 128 G d_M_walkOf_94 (by decide +kernel) (by decide +kernel) (by decide +kernel) rfl ?_
      refine x_iconst (v := nI 2) G d_M_walkOf_128 rfl ?_
      refine x_iload4 G d_M_walkOf_129 ?_
      refine x_imul G d_M_walkOf_131 ?_
      exact m_iret E G d_M_walkOf_132 hx rfl rfl ⟨_, rfl, (by unfold sWalk; rw [hk0]; rfl), hF⟩
    · rw [show S (ixP p 0) = nI 2 by rw [(hI.kind hp).1, hk0]]
      refine x_tabIn (39) 133 G d_M_walkOf_94 (by decide +kernel) (by decide +kernel) (by decide +kernel) rfl ?_
      refine x_iload4 G d_M_walkOf_133 ?_
      refine x_iconst (v := nI 2) G d_M_walkOf_135 rfl ?_
      refine x_idiv G d_M_walkOf_136 (by decide +kernel) ?_
      exact m_iret E G d_M_walkOf_137 hx rfl rfl ⟨_, rfl, (by unfold sWalk; rw [hk0]; rfl), hF⟩
    · rw [show S (ixP p 0) = nI 3 by rw [(hI.kind hp).1, hk0]]
      refine x_tabIn (44) 138 G d_M_walkOf_94 (by decide +kernel) (by decide +kernel) (by decide +kernel) rfl ?_
      refine x_iconst (v := nI 2) G d_M_walkOf_138 rfl ?_
      refine x_iload4 G d_M_walkOf_139 ?_
      refine x_imul G d_M_walkOf_141 ?_
      refine x_iconst (v := nI 5) G d_M_walkOf_142 rfl ?_
      refine x_iadd G d_M_walkOf_143 ?_
      exact m_iret E G d_M_walkOf_144 hx rfl rfl ⟨_, rfl, (by unfold sWalk; rw [hk0]; rfl), hF⟩
    · rw [show S (ixP p 0) = nI 4 by rw [(hI.kind hp).1, hk0]]
      refine x_tabIn (51) 145 G d_M_walkOf_94 (by decide +kernel) (by decide +kernel) (by decide +kernel) rfl ?_
      refine x_iload4 G d_M_walkOf_145 ?_
      refine x_iconst (v := nI 2) G d_M_walkOf_147 rfl ?_
      refine x_idiv G d_M_walkOf_148 (by decide +kernel) ?_
      refine x_iconst (v := nI 3) G d_M_walkOf_149 rfl ?_
      refine x_isub G d_M_walkOf_150 ?_
      refine x_sipush (v := nI 999) G d_M_walkOf_151 rfl ?_
      refine m_callS_pi (p_M_within (kg κ) (d - 1) (by omega) _ _ _) G d_M_walkOf_154 lk_M_123 (by omega) rfl (Nat.le_of_ble_eq_true rfl) hx ?_
      exact m_iret E G d_M_walkOf_157 hx rfl rfl ⟨_, rfl, (by unfold sWalk; rw [hk0]; obtain ⟨k9, hk9, e9⟩ := plain_rng hI hp hf; rw [e9, child_c k9 hk9]; rfl), hF⟩
    · rw [show S (ixP p 0) = nI 5 by rw [(hI.kind hp).1, hk0]]
      refine x_tabIn (64) 158 G d_M_walkOf_94 (by decide +kernel) (by decide +kernel) (by decide +kernel) rfl ?_
      refine x_iconst (v := nI 0) G d_M_walkOf_158 rfl ?_
      exact m_iret E G d_M_walkOf_159 hx rfl rfl ⟨_, rfl, (by unfold sWalk; rw [hk0]; rfl), hF⟩
  · rcases cnt_cases S 0 with ht | ⟨t, ht1, ht2, ht3⟩
    · exact absurd (by rw [ht]; decide) c33
    obtain ⟨hTV, ht14⟩ := hI.txt ht1
    refine x_aload0 G d_M_walkOf_36 ?_
    refine m_getr G d_M_walkOf_37 fl_M_62 rfl (by decide) rfl ?_
    refine x_bipush (v := nI 100) G d_M_walkOf_40 rfl ?_
    refine x_iload3 G d_M_walkOf_42 ?_
    refine m_iast_n 100 G d_M_walkOf_43 rfl rfl ⟨by omega, by first | decide | omega⟩ (fun σ1 e1 => ?_)
    refine x_aload0 G d_M_walkOf_44 ?_
    refine m_getr G d_M_walkOf_45 fl_M_62 rfl (by decide) rfl ?_
    refine x_bipush (v := nI 99) G d_M_walkOf_48 rfl ?_
    refine x_aload0 G d_M_walkOf_50 ?_
    refine x_iload2 G d_M_walkOf_51 ?_
    refine x_iconst (v := nI 1) G d_M_walkOf_52 rfl ?_
    refine m_callV_pi (p_M_in (kg κ) (d - 1) (by omega) _ f 1 hf (by decide)) G d_M_walkOf_53 lk_M_113 rfl ⟨by decide, rfl⟩ (by decide) (by omega) rfl (Nat.le_of_ble_eq_true rfl) hx ?_
    rw [show σ1 114 = S by rw [e1, updS_nk (by decide)]; exact hS]
    refine m_iast_n 99 G d_M_walkOf_56 rfl rfl ⟨by omega, by first | decide | omega⟩ (fun σ2 e2 => ?_)
    refine x_aload0 G d_M_walkOf_57 ?_
    refine m_getr G d_M_walkOf_58 fl_M_62 rfl (by decide) rfl ?_
    refine x_bipush (v := nI 104) G d_M_walkOf_61 rfl ?_
    refine x_aload0 G d_M_walkOf_63 ?_
    refine x_iload1 G d_M_walkOf_64 ?_
    refine x_iconst (v := nI 3) G d_M_walkOf_65 rfl ?_
    refine m_callV_pi (p_M_of (kg κ) (d - 1) (by omega) _ p 3 hp (by decide)) G d_M_walkOf_66 lk_M_107 rfl ⟨by decide, rfl⟩ (by decide) (by omega) rfl (Nat.le_of_ble_eq_true rfl) hx ?_
    rw [show σ2 114 = S by rw [e2, updS_nk (by decide), e1, updS_nk (by decide)]; exact hS]
    refine x_iload2 G d_M_walkOf_69 ?_
    refine x_ishr G d_M_walkOf_70 ?_
    refine x_iconst (v := nI 1) G d_M_walkOf_71 rfl ?_
    refine x_iand G d_M_walkOf_72 ?_
    refine m_iast_n 104 G d_M_walkOf_73 rfl rfl ⟨by omega, by first | decide | omega⟩ (fun σ3 e3 => ?_)
    refine x_aload0 G d_M_walkOf_74 ?_
    refine x_iload5 G d_M_walkOf_75 ?_
    rw [ht2]
    have hS3 : σ3 114 = S := by rw [e3, updS_nk (by decide), e2, updS_nk (by decide), e1, updS_nk (by decide)]; exact hS
    have n1 : σ3 130 100 = nI (sFar S p f) := by rw [e3, updS_ne (by decide), e2, updS_ne (by decide), e1, updS_at]; rfl
    have n2 : σ3 130 99 = S (ixF f 1) := by rw [e3, updS_ne (by decide), e2, updS_at]
    have n3 : σ3 130 104 = hadB S p f := by rw [e3, updS_at]; rfl
    refine m_callV_pr (p_M_worked (kg κ) (d - 1) (by omega) σ3 S hS3 t ht14 hTV) G d_M_walkOf_77 lk_M_120 rfl ⟨by decide, rfl⟩ (by decide) (by omega) rfl (Nat.le_of_ble_eq_true rfl) hx (fun v4 σ4 ⟨hv4, hF4⟩ => ?_)
    have hS' : σ4 114 = S := by rw [hF4 114 (by decide)]; exact hS3
    have hF : OutW2 σ σ4 := fun k h1 h2 => by rw [hF4 k h2, e3, updS_nk h1, e2, updS_nk h1, e1, updS_nk h1]
    refine x_sipush (v := nI 999) G d_M_walkOf_80 rfl ?_
    refine m_callS_pi (p_M_within (kg κ) (d - 1) (by omega) _ _ _) G d_M_walkOf_83 lk_M_123 (by omega) rfl (Nat.le_of_ble_eq_true rfl) hx ?_
    rw [clampI_w, show clampI v4 = sPlain S p f by unfold sPlain; rw [if_neg c33, ht2, tn_nI (by omega), hv4, ev_cong hTV (nm' := nmf 0 (nI (sFar S p f)) (S (ixF f 1)) (hadB S p f)) (fun c hc => nmf0 n1 n2 n3 (by rw [ht3, tn_nI (by decide)] at hc; exact hc))]]
    refine x_istore4 G d_M_walkOf_86 rfl hk ?_
    refine x_aload0 G d_M_walkOf_88 ?_
    refine x_iload1 G d_M_walkOf_89 ?_
    refine x_iconst (v := nI 0) G d_M_walkOf_90 rfl ?_
    refine m_callV_pi (p_M_of (kg κ) (d - 1) (by omega) _ p 0 hp (by decide)) G d_M_walkOf_91 lk_M_107 rfl ⟨by decide, rfl⟩ (by decide) (by omega) rfl (Nat.le_of_ble_eq_true rfl) hx ?_
    rw [hS']
    rcases kcs6 (hI.kind hp).2 with hk0 | hk0 | hk0 | hk0 | hk0 | hk0
    · rw [show S (ixP p 0) = nI 0 by rw [(hI.kind hp).1, hk0]]
      refine x_tabOut 160 G d_M_walkOf_94 (by decide +kernel) rfl ?_
      refine x_iload4 G d_M_walkOf_160 ?_
      exact m_iret E G d_M_walkOf_162 hx rfl rfl ⟨_, rfl, (by unfold sWalk; rw [hk0]; rfl), hF⟩
    · rw [show S (ixP p 0) = nI 1 by rw [(hI.kind hp).1, hk0]]
      refine x_tabIn (34) 128 G d_M_walkOf_94 (by decide +kernel) (by decide +kernel) (by decide +kernel) rfl ?_
      refine x_iconst (v := nI 2) G d_M_walkOf_128 rfl ?_
      refine x_iload4 G d_M_walkOf_129 ?_
      refine x_imul G d_M_walkOf_131 ?_
      exact m_iret E G d_M_walkOf_132 hx rfl rfl ⟨_, rfl, (by unfold sWalk; rw [hk0]; rfl), hF⟩
    · rw [show S (ixP p 0) = nI 2 by rw [(hI.kind hp).1, hk0]]
      refine x_tabIn (39) 133 G d_M_walkOf_94 (by decide +kernel) (by decide +kernel) (by decide +kernel) rfl ?_
      refine x_iload4 G d_M_walkOf_133 ?_
      refine x_iconst (v := nI 2) G d_M_walkOf_135 rfl ?_
      refine x_idiv G d_M_walkOf_136 (by decide +kernel) ?_
      exact m_iret E G d_M_walkOf_137 hx rfl rfl ⟨_, rfl, (by unfold sWalk; rw [hk0]; rfl), hF⟩
    · rw [show S (ixP p 0) = nI 3 by rw [(hI.kind hp).1, hk0]]
      refine x_tabIn (44) 138 G d_M_walkOf_94 (by decide +kernel) (by decide +kernel) (by decide +kernel) rfl ?_
      refine x_iconst (v := nI 2) G d_M_walkOf_138 rfl ?_
      refine x_iload4 G d_M_walkOf_139 ?_
      refine x_imul G d_M_walkOf_141 ?_
      refine x_iconst (v := nI 5) G d_M_walkOf_142 rfl ?_
      refine x_iadd G d_M_walkOf_143 ?_
      exact m_iret E G d_M_walkOf_144 hx rfl rfl ⟨_, rfl, (by unfold sWalk; rw [hk0]; rfl), hF⟩
    · rw [show S (ixP p 0) = nI 4 by rw [(hI.kind hp).1, hk0]]
      refine x_tabIn (51) 145 G d_M_walkOf_94 (by decide +kernel) (by decide +kernel) (by decide +kernel) rfl ?_
      refine x_iload4 G d_M_walkOf_145 ?_
      refine x_iconst (v := nI 2) G d_M_walkOf_147 rfl ?_
      refine x_idiv G d_M_walkOf_148 (by decide +kernel) ?_
      refine x_iconst (v := nI 3) G d_M_walkOf_149 rfl ?_
      refine x_isub G d_M_walkOf_150 ?_
      refine x_sipush (v := nI 999) G d_M_walkOf_151 rfl ?_
      refine m_callS_pi (p_M_within (kg κ) (d - 1) (by omega) _ _ _) G d_M_walkOf_154 lk_M_123 (by omega) rfl (Nat.le_of_ble_eq_true rfl) hx ?_
      exact m_iret E G d_M_walkOf_157 hx rfl rfl ⟨_, rfl, (by unfold sWalk; rw [hk0]; obtain ⟨k9, hk9, e9⟩ := plain_rng hI hp hf; rw [e9, child_c k9 hk9]; rfl), hF⟩
    · rw [show S (ixP p 0) = nI 5 by rw [(hI.kind hp).1, hk0]]
      refine x_tabIn (64) 158 G d_M_walkOf_94 (by decide +kernel) (by decide +kernel) (by decide +kernel) rfl ?_
      refine x_iconst (v := nI 0) G d_M_walkOf_158 rfl ?_
      exact m_iret E G d_M_walkOf_159 hx rfl rfl ⟨_, rfl, (by unfold sWalk; rw [hk0]; rfl), hF⟩
theorem p_M_mayStand (g : CX) (d : Nat) (hd : 2 ≤ d) (σ : Sg) (S : Rw) (hS : σ 114 = S) (hI : Inv S) (p : Nat) (hp : p < 8) (f : Nat) (hf : f < 9) : RunM g d M_mayStand [.ref 113, .int (nI p), .int (nI f)] σ (PI (bI (sMay S p f)) σ) := by
  refine RunM.of 1 (by decide +kernel) rfl ?_
  intro κ hg hx hk0 G E
  subst hg
  have hk : 4 ≤ kn κ := Nat.le_of_eq hk0.symm
  show X κ NC 0 [some (.ref 113), some (.int (nI p)), some (.int (nI f)), none] [] (hv σ)
  refine x_aload0 G d_M_mayStand_0 ?_
  refine x_iload2 G d_M_mayStand_1 ?_
  refine x_iconst (v := nI 0) G d_M_mayStand_2 rfl ?_
  refine m_callV_pi (p_M_in (kg κ) (d - 1) (by omega) _ f 0 hf (by decide)) G d_M_mayStand_3 lk_M_113 rfl ⟨by decide, rfl⟩ (by decide) (by omega) rfl (Nat.le_of_ble_eq_true rfl) hx ?_
  rw [hS]
  refine x_iload1 G d_M_mayStand_6 ?_
  refine x_icmp_eq G d_M_mayStand_7 (fun c7 => ?_) (fun c7 => ?_)
  · refine x_iconst (v := nI 0) G d_M_mayStand_14 rfl ?_
    refine x_istore3 G d_M_mayStand_15 rfl hk ?_
    refine x_aload0 G d_M_mayStand_16 ?_
    refine x_iload1 G d_M_mayStand_17 ?_
    refine x_iconst (v := nI 0) G d_M_mayStand_18 rfl ?_
    refine m_callV_pi (p_M_of (kg κ) (d - 1) (by omega) _ p 0 hp (by decide)) G d_M_mayStand_19 lk_M_107 rfl ⟨by decide, rfl⟩ (by decide) (by omega) rfl (Nat.le_of_ble_eq_true rfl) hx ?_
    rw [hS]
    rcases kcs6 (hI.kind hp).2 with hk0 | hk0 | hk0 | hk0 | hk0 | hk0
    · rw [show S (ixP p 0) = nI 0 by rw [(hI.kind hp).1, hk0]]
      refine x_tabOut 93 G d_M_mayStand_22 (by decide +kernel) rfl ?_
      refine x_iload3 G d_M_mayStand_93 ?_
      exact m_iret E G d_M_mayStand_94 hx rfl (by first | rfl | (rw [nI_0]; rfl)) (pi_of (by unfold sMay sFar; rw [hk0]; simp_all [mayB, bI, nI_0, nI1]))
    · rw [show S (ixP p 0) = nI 1 by rw [(hI.kind hp).1, hk0]]
      refine x_tabOut 93 G d_M_mayStand_22 (by decide +kernel) rfl ?_
      refine x_iload3 G d_M_mayStand_93 ?_
      exact m_iret E G d_M_mayStand_94 hx rfl (by first | rfl | (rw [nI_0]; rfl)) (pi_of (by unfold sMay sFar; rw [hk0]; simp_all [mayB, bI, nI_0, nI1]))
    · rw [show S (ixP p 0) = nI 2 by rw [(hI.kind hp).1, hk0]]
      refine x_tabOut 93 G d_M_mayStand_22 (by decide +kernel) rfl ?_
      refine x_iload3 G d_M_mayStand_93 ?_
      exact m_iret E G d_M_mayStand_94 hx rfl (by first | rfl | (rw [nI_0]; rfl)) (pi_of (by unfold sMay sFar; rw [hk0]; simp_all [mayB, bI, nI_0, nI1]))
    · rw [show S (ixP p 0) = nI 3 by rw [(hI.kind hp).1, hk0]]
      refine x_tabIn (26) 48 G d_M_mayStand_22 (by decide +kernel) (by decide +kernel) (by decide +kernel) rfl ?_
      refine x_iload3 G d_M_mayStand_48 ?_
      refine x_if_eq G d_M_mayStand_49 (fun c49 => ?_) (fun c49 => ?_)
      · refine x_iconst (v := nI 0) G d_M_mayStand_70 rfl ?_
        exact m_iret E G d_M_mayStand_71 hx rfl rfl (pi_of (by unfold sMay sFar; rw [hk0]; simp_all [mayB, bI, nI_0, nI1]))
      · refine x_aload0 G d_M_mayStand_52 ?_
        refine x_iload1 G d_M_mayStand_53 ?_
        refine x_iconst (v := nI 1) G d_M_mayStand_54 rfl ?_
        refine m_callV_pi (p_M_of (kg κ) (d - 1) (by omega) _ p 1 hp (by decide)) G d_M_mayStand_55 lk_M_107 rfl ⟨by decide, rfl⟩ (by decide) (by omega) rfl (Nat.le_of_ble_eq_true rfl) hx ?_
        rw [hS, (hI.home hp).1]
        refine x_iload2 G d_M_mayStand_58 ?_
        refine m_callS_pi (p_M_farOf (kg κ) (d - 1) (by omega) _ (tn (S (ixP p 1))) f (by have := (hI.home hp).2; omega) hf) G d_M_mayStand_59 lk_M_110 (by omega) rfl (Nat.le_of_ble_eq_true rfl) hx ?_
        refine x_iconst (v := nI 2) G d_M_mayStand_62 rfl ?_
        refine x_icmp_gt G d_M_mayStand_63 (fun c63 => ?_) (fun c63 => ?_)
        · refine x_iconst (v := nI 0) G d_M_mayStand_70 rfl ?_
          exact m_iret E G d_M_mayStand_71 hx rfl rfl (pi_of (by unfold sMay sFar; rw [hk0]; simp_all [mayB, bI, nI_0, nI1]))
        · refine x_iconst (v := nI 1) G d_M_mayStand_66 rfl ?_
          refine x_goto G d_M_mayStand_67 ?_
          exact m_iret E G d_M_mayStand_71 hx rfl rfl (pi_of (by unfold sMay sFar; rw [hk0]; simp_all [mayB, bI, nI_0, nI1]))
    · rw [show S (ixP p 0) = nI 4 by rw [(hI.kind hp).1, hk0]]
      refine x_tabIn (50) 72 G d_M_mayStand_22 (by decide +kernel) (by decide +kernel) (by decide +kernel) rfl ?_
      refine x_iload3 G d_M_mayStand_72 ?_
      refine x_if_ne G d_M_mayStand_73 (fun c73 => ?_) (fun c73 => ?_)
      · refine x_iconst (v := nI 1) G d_M_mayStand_85 rfl ?_
        refine x_goto G d_M_mayStand_86 ?_
        exact m_iret E G d_M_mayStand_90 hx rfl rfl (pi_of (by unfold sMay sFar; rw [hk0]; simp_all [mayB, bI, nI_0, nI1]))
      · refine x_aload0 G d_M_mayStand_76 ?_
        refine x_iload2 G d_M_mayStand_77 ?_
        refine x_iconst (v := nI 1) G d_M_mayStand_78 rfl ?_
        refine m_callV_pi (p_M_in (kg κ) (d - 1) (by omega) _ f 1 hf (by decide)) G d_M_mayStand_79 lk_M_113 rfl ⟨by decide, rfl⟩ (by decide) (by omega) rfl (Nat.le_of_ble_eq_true rfl) hx ?_
        rw [hS]
        refine x_if_ne G d_M_mayStand_82 (fun c82 => ?_) (fun c82 => ?_)
        · refine x_iconst (v := nI 0) G d_M_mayStand_89 rfl ?_
          exact m_iret E G d_M_mayStand_90 hx rfl rfl (pi_of (by unfold sMay sFar; rw [hk0]; simp_all [mayB, bI, nI_0, nI1]))
        · refine x_iconst (v := nI 1) G d_M_mayStand_85 rfl ?_
          refine x_goto G d_M_mayStand_86 ?_
          exact m_iret E G d_M_mayStand_90 hx rfl rfl (pi_of (by unfold sMay sFar; rw [hk0]; simp_all [mayB, bI, nI_0, nI1]))
    · rw [show S (ixP p 0) = nI 5 by rw [(hI.kind hp).1, hk0]]
      refine x_tabIn (69) 91 G d_M_mayStand_22 (by decide +kernel) (by decide +kernel) (by decide +kernel) rfl ?_
      refine x_iconst (v := nI 1) G d_M_mayStand_91 rfl ?_
      exact m_iret E G d_M_mayStand_92 hx rfl rfl (pi_of (by unfold sMay sFar; rw [hk0]; simp_all [mayB, bI, nI_0, nI1]))
  · refine x_iconst (v := nI 1) G d_M_mayStand_10 rfl ?_
    refine x_goto G d_M_mayStand_11 ?_
    refine x_istore3 G d_M_mayStand_15 rfl hk ?_
    refine x_aload0 G d_M_mayStand_16 ?_
    refine x_iload1 G d_M_mayStand_17 ?_
    refine x_iconst (v := nI 0) G d_M_mayStand_18 rfl ?_
    refine m_callV_pi (p_M_of (kg κ) (d - 1) (by omega) _ p 0 hp (by decide)) G d_M_mayStand_19 lk_M_107 rfl ⟨by decide, rfl⟩ (by decide) (by omega) rfl (Nat.le_of_ble_eq_true rfl) hx ?_
    rw [hS]
    rcases kcs6 (hI.kind hp).2 with hk0 | hk0 | hk0 | hk0 | hk0 | hk0
    · rw [show S (ixP p 0) = nI 0 by rw [(hI.kind hp).1, hk0]]
      refine x_tabOut 93 G d_M_mayStand_22 (by decide +kernel) rfl ?_
      refine x_iload3 G d_M_mayStand_93 ?_
      exact m_iret E G d_M_mayStand_94 hx rfl (by first | rfl | (rw [nI_0]; rfl)) (pi_of (by unfold sMay sFar; rw [hk0]; simp_all [mayB, bI, nI_0, nI1]))
    · rw [show S (ixP p 0) = nI 1 by rw [(hI.kind hp).1, hk0]]
      refine x_tabOut 93 G d_M_mayStand_22 (by decide +kernel) rfl ?_
      refine x_iload3 G d_M_mayStand_93 ?_
      exact m_iret E G d_M_mayStand_94 hx rfl (by first | rfl | (rw [nI_0]; rfl)) (pi_of (by unfold sMay sFar; rw [hk0]; simp_all [mayB, bI, nI_0, nI1]))
    · rw [show S (ixP p 0) = nI 2 by rw [(hI.kind hp).1, hk0]]
      refine x_tabOut 93 G d_M_mayStand_22 (by decide +kernel) rfl ?_
      refine x_iload3 G d_M_mayStand_93 ?_
      exact m_iret E G d_M_mayStand_94 hx rfl (by first | rfl | (rw [nI_0]; rfl)) (pi_of (by unfold sMay sFar; rw [hk0]; simp_all [mayB, bI, nI_0, nI1]))
    · rw [show S (ixP p 0) = nI 3 by rw [(hI.kind hp).1, hk0]]
      refine x_tabIn (26) 48 G d_M_mayStand_22 (by decide +kernel) (by decide +kernel) (by decide +kernel) rfl ?_
      refine x_iload3 G d_M_mayStand_48 ?_
      refine x_if_eq G d_M_mayStand_49 (fun c49 => ?_) (fun c49 => ?_)
      · refine x_iconst (v := nI 0) G d_M_mayStand_70 rfl ?_
        exact m_iret E G d_M_mayStand_71 hx rfl rfl (pi_of (by unfold sMay sFar; rw [hk0]; simp_all [mayB, bI, nI_0, nI1]))
      · refine x_aload0 G d_M_mayStand_52 ?_
        refine x_iload1 G d_M_mayStand_53 ?_
        refine x_iconst (v := nI 1) G d_M_mayStand_54 rfl ?_
        refine m_callV_pi (p_M_of (kg κ) (d - 1) (by omega) _ p 1 hp (by decide)) G d_M_mayStand_55 lk_M_107 rfl ⟨by decide, rfl⟩ (by decide) (by omega) rfl (Nat.le_of_ble_eq_true rfl) hx ?_
        rw [hS, (hI.home hp).1]
        refine x_iload2 G d_M_mayStand_58 ?_
        refine m_callS_pi (p_M_farOf (kg κ) (d - 1) (by omega) _ (tn (S (ixP p 1))) f (by have := (hI.home hp).2; omega) hf) G d_M_mayStand_59 lk_M_110 (by omega) rfl (Nat.le_of_ble_eq_true rfl) hx ?_
        refine x_iconst (v := nI 2) G d_M_mayStand_62 rfl ?_
        refine x_icmp_gt G d_M_mayStand_63 (fun c63 => ?_) (fun c63 => ?_)
        · refine x_iconst (v := nI 0) G d_M_mayStand_70 rfl ?_
          exact m_iret E G d_M_mayStand_71 hx rfl rfl (pi_of (by unfold sMay sFar; rw [hk0]; simp_all [mayB, bI, nI_0, nI1]))
        · refine x_iconst (v := nI 1) G d_M_mayStand_66 rfl ?_
          refine x_goto G d_M_mayStand_67 ?_
          exact m_iret E G d_M_mayStand_71 hx rfl rfl (pi_of (by unfold sMay sFar; rw [hk0]; simp_all [mayB, bI, nI_0, nI1]))
    · rw [show S (ixP p 0) = nI 4 by rw [(hI.kind hp).1, hk0]]
      refine x_tabIn (50) 72 G d_M_mayStand_22 (by decide +kernel) (by decide +kernel) (by decide +kernel) rfl ?_
      refine x_iload3 G d_M_mayStand_72 ?_
      refine x_if_ne G d_M_mayStand_73 (fun c73 => ?_) (fun c73 => ?_)
      · refine x_iconst (v := nI 1) G d_M_mayStand_85 rfl ?_
        refine x_goto G d_M_mayStand_86 ?_
        exact m_iret E G d_M_mayStand_90 hx rfl rfl (pi_of (by unfold sMay sFar; rw [hk0]; simp_all [mayB, bI, nI_0, nI1]))
      · refine x_aload0 G d_M_mayStand_76 ?_
        refine x_iload2 G d_M_mayStand_77 ?_
        refine x_iconst (v := nI 1) G d_M_mayStand_78 rfl ?_
        refine m_callV_pi (p_M_in (kg κ) (d - 1) (by omega) _ f 1 hf (by decide)) G d_M_mayStand_79 lk_M_113 rfl ⟨by decide, rfl⟩ (by decide) (by omega) rfl (Nat.le_of_ble_eq_true rfl) hx ?_
        rw [hS]
        refine x_if_ne G d_M_mayStand_82 (fun c82 => ?_) (fun c82 => ?_)
        · refine x_iconst (v := nI 0) G d_M_mayStand_89 rfl ?_
          exact m_iret E G d_M_mayStand_90 hx rfl rfl (pi_of (by unfold sMay sFar; rw [hk0]; simp_all [mayB, bI, nI_0, nI1]))
        · refine x_iconst (v := nI 1) G d_M_mayStand_85 rfl ?_
          refine x_goto G d_M_mayStand_86 ?_
          exact m_iret E G d_M_mayStand_90 hx rfl rfl (pi_of (by unfold sMay sFar; rw [hk0]; simp_all [mayB, bI, nI_0, nI1]))
    · rw [show S (ixP p 0) = nI 5 by rw [(hI.kind hp).1, hk0]]
      refine x_tabIn (69) 91 G d_M_mayStand_22 (by decide +kernel) (by decide +kernel) (by decide +kernel) rfl ?_
      refine x_iconst (v := nI 1) G d_M_mayStand_91 rfl ?_
      exact m_iret E G d_M_mayStand_92 hx rfl rfl (pi_of (by unfold sMay sFar; rw [hk0]; simp_all [mayB, bI, nI_0, nI1]))
