/-! what will be: the model's side -/
theorem agt_back {S S' : Rw} (h : AgT S S') {S1 : Rw} (h1 : ∀ i, i < 90 → S1 i = S i) (h2 : ∀ i, 90 ≤ i → S1 i = S' i) : S1 = S := by
  funext i
  rcases Nat.lt_or_ge i 90 with q | q
  · exact h1 i q
  · rw [h2 i q, h.2 i q]
theorem rtN_end {S : Rw} {m k : Nat} (hk : k ≤ 101) (h : k = 101 ∨ ¬ rtN S m k < 0) : rtN S m k = rtN S m 101 := by
  rcases h with rfl | h
  · rfl
  · have := rtN_stay (S := S) (m := m) (k := k) rfl (fun q => h (by rw [q]; decide)) (101 - k)
    rw [show k + (101 - k) = 101 by omega] at this
    exact this.symm
theorem rtN_rng (S : Rw) (m : Nat) : ∀ k, k ≤ 101 → rtN S m k = -1 ∨ ∃ j, j < k ∧ rtN S m k = nI j
  | 0, _ => Or.inl rfl
  | k + 1, h => by
    unfold rtN
    split
    · split
      · exact Or.inr ⟨k, Nat.lt_succ_self k, rfl⟩
      · exact Or.inl rfl
    · rcases rtN_rng S m k (by omega) with q | ⟨j, h1, h2⟩
      · exact absurd q (by assumption)
      · exact Or.inr ⟨j, by omega, h2⟩
theorem nbN_rng (S : Rw) (n : Nat) (f : Nat) (h : f ≤ 9) : (nbN S n f).1 = -1 ∨ ¬ (nbN S n f).1 < 0 ∧ (nbN S n f).1 ≠ -1 := by
  rcases Nat.eq_zero_or_pos f with z | z
  · rw [z]; exact Or.inl rfl
  · obtain ⟨j, h1, h2⟩ := nbN_pos (S := S) (n := n) f z h
    rw [h2]
    exact Or.inr ⟨nI_pos (by omega), nI_m1 (by omega)⟩
theorem TOk.neg {T : Nat → Int32} (h : TOk T) {a : Nat} (ha : a < 8) : T a < 0 ↔ T a = -1 := by
  rcases h a ha with e | ⟨f, hf, e⟩
  · rw [e]; exact ⟨fun _ => rfl, fun _ => by decide⟩
  · rw [e]; exact ⟨fun q => absurd q (nI_pos (by omega)), fun q => absurd q (nI_m1 (by omega))⟩
def fWhy (S : Rw) (key : Int32) : Int32 × Rw := (if upB key (nI 2) then (if cnt S (tn key) < 0 then -1000000005 else cnt S (tn key)) else -1000000001, S)
def CloseOf (S : Rw) (σ : Sg) : Prop := ∀ i, i < 90 → σ 127 i = S i
theorem p_M_laysBy (g : CX) (d : Nat) (hd : 0 ≤ d) (σ : Sg) (S : Rw) (hS : σ 114 = S) : RunM g d M_laysBy [.ref 113] σ (PV (fun σ1 => CloseOf S σ1 ∧ ∀ c, c ≠ 127 → σ1 c = σ c)) := by
  refine RunM.of 1 (by decide +kernel) rfl ?_
  intro κ hg hx hk0 G E
  subst hg
  have hk : 2 ≤ kn κ := Nat.le_of_eq hk0.symm
  show X κ NC 0 [some (.ref 113), none] [] (hv σ)
  refine x_iconst (v := nI 0) G d_M_laysBy_0 rfl ?_
  refine x_istore1 G d_M_laysBy_1 rfl hk ?_
  have hloop : ∀ (m i : Nat) (σ1 : Sg), i ≤ 90 → 90 < i + m → (∀ q, q < i → σ1 127 q = σ 114 q) → (∀ q, i ≤ q → σ1 127 q = σ 127 q) → (∀ c, c ≠ 127 → σ1 c = σ c) → X κ NC 2 [some (.ref 113), some (.int (nI i))] [] (hv σ1) := by
    intro m
    induction m with
    | zero => intro i σ1 h1 h2; omega
    | succ m ih =>
      intro i σ1 hi1 hi2 hd1 hd2 hF
      refine x_iload1 G d_M_laysBy_2 ?_
      refine x_bipush (v := nI 90) G d_M_laysBy_3 rfl ?_
      refine x_icmp_ge G d_M_laysBy_5 (fun c5 => ?_) (fun c5 => ?_)
      · have hi90 : i = 90 := by rw [nle (by omega) (by omega)] at c5; omega
        exact m_vret E G d_M_laysBy_26 hx rfl ⟨rfl, fun q hq => by rw [hd1 q (by omega), hS], hF⟩
      · have hi90 : i < 90 := by rw [nle (by omega) (by omega)] at c5; omega
        refine x_aload0 G d_M_laysBy_8 ?_
        refine m_getr G d_M_laysBy_9 fl_M_53 rfl (by decide) rfl ?_
        refine x_iload1 G d_M_laysBy_12 ?_
        refine x_aload0 G d_M_laysBy_13 ?_
        refine m_getr G d_M_laysBy_14 fl_M_7 rfl (by decide) rfl ?_
        refine x_iload1 G d_M_laysBy_17 ?_
        refine m_iald i G d_M_laysBy_18 rfl rfl ⟨by omega, by first | decide | omega⟩ ?_
        refine m_iast_n i G d_M_laysBy_19 rfl rfl ⟨by omega, by first | decide | omega⟩ (fun σ2 e2 => ?_)
        refine x_iinc1 (v := nI (i + 1)) G d_M_laysBy_20 rfl hk (nI_1 _) ?_
        refine x_goto G d_M_laysBy_23 ?_
        exact ih (i + 1) σ2 (by omega) (by omega) (fun q hq => if e : q = i then (by rw [e, e2, updS_at, hF 114 (by decide)]) else (by rw [e2, updS_ne (by omega)]; exact hd1 q (by omega))) (fun q hq => by rw [e2, updS_ne (by omega)]; exact hd2 q (by omega)) (fun c hc => by rw [e2, updS_nk hc]; exact hF c hc)
  exact hloop 91 0 σ (by decide) (by decide) (fun q hq => absurd hq (Nat.not_lt_zero q)) (fun _ _ => rfl) (fun _ _ => rfl)
theorem p_M_laysBack (g : CX) (d : Nat) (hd : 0 ≤ d) (σ : Sg) (S S' : Rw) (hS : σ 114 = S') (hA : AgT S S') (hc : CloseOf S σ) : RunM g d M_laysBack [.ref 113] σ (PV (fun σ1 => σ1 114 = S ∧ ∀ c, c ≠ 114 → σ1 c = σ c)) := by
  refine RunM.of 1 (by decide +kernel) rfl ?_
  intro κ hg hx hk0 G E
  subst hg
  have hk : 2 ≤ kn κ := Nat.le_of_eq hk0.symm
  show X κ NC 0 [some (.ref 113), none] [] (hv σ)
  refine x_iconst (v := nI 0) G d_M_laysBack_0 rfl ?_
  refine x_istore1 G d_M_laysBack_1 rfl hk ?_
  have hloop : ∀ (m i : Nat) (σ1 : Sg), i ≤ 90 → 90 < i + m → (∀ q, q < i → σ1 114 q = σ 127 q) → (∀ q, i ≤ q → σ1 114 q = σ 114 q) → (∀ c, c ≠ 114 → σ1 c = σ c) → X κ NC 2 [some (.ref 113), some (.int (nI i))] [] (hv σ1) := by
    intro m
    induction m with
    | zero => intro i σ1 h1 h2; omega
    | succ m ih =>
      intro i σ1 hi1 hi2 hd1 hd2 hF
      refine x_iload1 G d_M_laysBack_2 ?_
      refine x_bipush (v := nI 90) G d_M_laysBack_3 rfl ?_
      refine x_icmp_ge G d_M_laysBack_5 (fun c5 => ?_) (fun c5 => ?_)
      · have hi90 : i = 90 := by rw [nle (by omega) (by omega)] at c5; omega
        exact m_vret E G d_M_laysBack_26 hx rfl ⟨rfl, agt_back hA (fun q hq => by rw [hd1 q (by omega)]; exact hc q hq) (fun q hq => by rw [hd2 q (by omega), hS]), hF⟩
      · have hi90 : i < 90 := by rw [nle (by omega) (by omega)] at c5; omega
        refine x_aload0 G d_M_laysBack_8 ?_
        refine m_getr G d_M_laysBack_9 fl_M_7 rfl (by decide) rfl ?_
        refine x_iload1 G d_M_laysBack_12 ?_
        refine x_aload0 G d_M_laysBack_13 ?_
        refine m_getr G d_M_laysBack_14 fl_M_53 rfl (by decide) rfl ?_
        refine x_iload1 G d_M_laysBack_17 ?_
        refine m_iald i G d_M_laysBack_18 rfl rfl ⟨by omega, by first | decide | omega⟩ ?_
        refine m_iast_n i G d_M_laysBack_19 rfl rfl ⟨by omega, by first | decide | omega⟩ (fun σ2 e2 => ?_)
        refine x_iinc1 (v := nI (i + 1)) G d_M_laysBack_20 rfl hk (nI_1 _) ?_
        refine x_goto G d_M_laysBack_23 ?_
        exact ih (i + 1) σ2 (by omega) (by omega) (fun q hq => if e : q = i then (by rw [e, e2, updS_at, hF 127 (by decide)]) else (by rw [e2, updS_ne (by omega)]; exact hd1 q (by omega))) (fun q hq => by rw [e2, updS_ne (by omega)]; exact hd2 q (by omega)) (fun c hc => by rw [e2, updS_nk hc]; exact hF c hc)
  exact hloop 91 0 σ (by decide) (by decide) (fun q hq => absurd hq (Nat.not_lt_zero q)) (fun _ _ => rfl) (fun _ _ => rfl)
theorem p_M_allHad (g : CX) (d : Nat) (hd : 1 ≤ d) (σ : Sg) (S : Rw) (hS : σ 114 = S) (hI : Inv S) (hJ : Inv2 S) (mm : Nat) (hm9 : mm < 100) : RunM g d M_allHad [.ref 113, .int (nI mm)] σ (PI (bI (ahN S mm (tn (S 0)))) σ) := by
  refine RunM.of 1 (by decide +kernel) rfl ?_
  intro κ hg hx hk0 G E
  subst hg
  have hk : 3 ≤ kn κ := Nat.le_of_eq hk0.symm
  show X κ NC 0 [some (.ref 113), some (.int (nI mm)), none] [] (hv σ)
  have hn8 := hI.n
  refine x_iconst (v := nI 0) G d_M_allHad_0 rfl ?_
  refine x_istore2 G d_M_allHad_1 rfl hk ?_
  have hloop : ∀ (m i : Nat), i ≤ tn (S 0) → tn (S 0) < i + m → ahN S mm i = true → X κ NC 2 [some (.ref 113), some (.int (nI mm)), some (.int (nI i))] [] (hv σ) := by
    intro m
    induction m with
    | zero => intro i h1 h2; omega
    | succ m ih =>
      intro i hi1 hi2 ha
      refine x_iload2 G d_M_allHad_2 ?_
      refine x_aload0 G d_M_allHad_3 ?_
      refine m_getr G d_M_allHad_4 fl_M_7 rfl (by decide) rfl ?_
      refine x_iconst (v := nI 0) G d_M_allHad_7 rfl ?_
      refine m_iald 0 G d_M_allHad_8 rfl rfl ⟨by omega, by first | decide | omega⟩ ?_
      rw [show σ 114 0 = nI (tn (S 0)) by rw [hS]; exact hn8.1]
      refine x_icmp_ge G d_M_allHad_9 (fun c9 => ?_) (fun c9 => ?_)
      · have hin : i = tn (S 0) := by rw [nle (by omega) (by omega)] at c9; omega
        refine x_iconst (v := nI 1) G d_M_allHad_33 rfl ?_
        exact m_iret E G d_M_allHad_34 hx rfl rfl (pi_of (by rw [← hin, ha]; rfl))
      · have hin : i < tn (S 0) := by rw [nle (by omega) (by omega)] at c9; omega
        refine x_aload0 G d_M_allHad_12 ?_
        refine x_iload2 G d_M_allHad_13 ?_
        refine x_iconst (v := nI 3) G d_M_allHad_14 rfl ?_
        refine m_callV_pi (p_M_ofS (kg κ) (d - 1) _ S hS _ _ (by omega) (by first | decide | omega)) G d_M_allHad_15 lk_M_107 rfl ⟨by decide, rfl⟩ (by decide) (by omega) rfl (Nat.le_of_ble_eq_true rfl) hx ?_
        rw [show S (ixP i 3) = nI (tn (S (ixP i 3))) from (hJ.had (by omega)).1]
        refine m_callS_pi (p_M_manyIn (kg κ) (d - 1) (by omega) σ (tn (S (ixP i 3))) (by have := (hJ.had (p := i) (by omega)).2; omega)) G d_M_allHad_18 lk_M_197 (by omega) rfl (Nat.le_of_ble_eq_true rfl) hx ?_
        refine x_iload1 G d_M_allHad_21 ?_
        refine x_icmp_ge G d_M_allHad_22 (fun c22 => ?_) (fun c22 => ?_)
        · have hp9 := pop_le (tn (S (ixP i 3)))
          have h22 : ¬ popN (tn (S (ixP i 3))) < mm := by rw [nle (by omega) (by omega)] at c22; omega
          refine x_iinc2 (v := nI (i + 1)) G d_M_allHad_27 rfl hk (nI_1 _) ?_
          refine x_goto G d_M_allHad_30 ?_
          exact ih (i + 1) (by omega) (by omega) (by rw [ahN, ha, decide_eq_false h22]; rfl)
        · have hp9 := pop_le (tn (S (ixP i 3)))
          have h22 : popN (tn (S (ixP i 3))) < mm := by rw [nle (by omega) (by omega)] at c22; omega
          refine x_iconst (v := nI 0) G d_M_allHad_25 rfl ?_
          exact m_iret E G d_M_allHad_26 hx rfl rfl (pi_of (by rw [show ahN S mm (tn (S 0)) = false from ahN_no (tn (S 0)) (i + 1) hin (by rw [ahN, ha]; simp [h22])]; rfl))
  exact hloop (tn (S 0) + 1) 0 (Nat.zero_le _) (by omega) rfl
theorem p_M_behind (g : CX) (d : Nat) (hd : 7 ≤ d) (σ : Sg) (S : Rw) (hO : MO S σ) (n what : Int32) : RunM g d M_behind [.ref 113, .int n, .int what] σ (PR (MC (fBehind S n what) σ)) := by
  refine RunM.of 1 (by decide +kernel) rfl ?_
  intro κ hg hx hk0 G E
  subst hg
  have hk : 4 ≤ kn κ := Nat.le_of_eq hk0.symm
  show X κ NC 0 [some (.ref 113), some (.int n), some (.int what), none] [] (hv σ)
  obtain ⟨hS, hI, hJ, h9, hab⟩ := hO
  have hn8 := hI.n
  refine x_iload1 G d_M_behind_0 ?_
  refine x_i2l G d_M_behind_1 ?_
  refine x_lconst (v := 0) G d_M_behind_2 rfl ?_
  refine x_ldc2 G d_M_behind_3 kc_M_157 ?_
  refine m_callS_pi (p_M_isUp (kg κ) (d - 1) _ _ 100 _ _ _ rfl (by decide +kernel) (by decide +kernel)) G d_M_behind_6 lk_M_82 (by omega) rfl (Nat.le_of_ble_eq_true rfl) hx ?_
  refine x_if_eq G d_M_behind_9 (fun c9 => ?_) (fun c9 => ?_)
  · replace c9 := bI_0.mp c9
    refine x_ldc G d_M_behind_24 kc_M_98 ?_
    exact m_iret E G d_M_behind_26 hx rfl rfl ⟨_, rfl, MC.same hS (by simp only [fBehind, c9, Bool.and_true, Bool.true_and, Bool.and_false, Bool.false_and, Bool.or_true, Bool.true_or, Bool.or_false, Bool.false_or, Bool.not_true, Bool.not_false, Bool.false_eq_true, decide_true, decide_false, if_true, if_false])⟩
  · replace c9 := bI_n0.mp c9
    obtain ⟨j, hj, tj, rfl⟩ := upB_ex (by decide) c9
    refine x_iload2 G d_M_behind_12 ?_
    refine x_i2l G d_M_behind_13 ?_
    refine x_lconst (v := 0) G d_M_behind_14 rfl ?_
    refine x_ldc2 G d_M_behind_15 kc_M_186 ?_
    refine m_callS_pi (p_M_isUp (kg κ) (d - 1) _ _ 3 _ _ _ rfl (by decide +kernel) (by decide +kernel)) G d_M_behind_18 lk_M_82 (by omega) rfl (Nat.le_of_ble_eq_true rfl) hx ?_
    refine x_if_ne G d_M_behind_21 (fun c21 => ?_) (fun c21 => ?_)
    · replace c21 := bI_n0.mp c21
      refine x_aload0 G d_M_behind_27 ?_
      refine m_callV_pv (p_M_laysBy (kg κ) (d - 1) (by omega) σ S hS) G d_M_behind_28 lk_M_188 rfl ⟨by decide, rfl⟩ (by decide) (by omega) rfl (Nat.le_of_ble_eq_true rfl) hx (fun σ1 ⟨l1, l2⟩ => ?_)
      have hS1 : σ1 114 = S := by rw [l2 114 (by decide)]; exact hS
      have hab1 : σ1 113 13 = -1 := by rw [l2 113 (by decide)]; exact hab
      have hO1 : OutN σ σ1 := fun k _ _ _ _ e _ _ _ _ _ => l2 k e
      refine x_aload0 G d_M_behind_31 ?_
      refine x_iload1 G d_M_behind_32 ?_
      refine m_callV_pv (p_M_goesOnMany (kg κ) (d - 1) (by omega) σ1 S hS1 hI (-1) hab1 j (by have := h9.2; omega)) G d_M_behind_33 lk_M_191 rfl ⟨by decide, rfl⟩ (by decide) (by omega) rfl (Nat.le_of_ble_eq_true rfl) hx (fun σ2 ⟨g1, g2, _⟩ => ?_)
      obtain ⟨kI, k0, -, kz, kA, -⟩ := passN_keep hI (-1) j (by have := h9.2; omega)
      have kJ := passN_keep2 hI hJ (-1) j (by have := h9.2; omega)
      have hO2 : OutN σ σ2 := hO1.trans (OutN.of g2)
      have l3 : CloseOf S σ2 := fun i hi => by rw [g2 127 (by decide) (by decide) (by decide) (by decide)]; exact l1 i hi
      refine x_iload2 G d_M_behind_36 ?_
      refine x_if_ne G d_M_behind_37 (fun c37 => ?_) (fun c37 => ?_)
      · refine x_iload2 G d_M_behind_49 ?_
        refine x_iconst (v := nI 1) G d_M_behind_50 rfl ?_
        refine x_icmp_ne G d_M_behind_51 (fun c51 => ?_) (fun c51 => ?_)
        · refine x_iload2 G d_M_behind_63 ?_
          refine x_iconst (v := nI 2) G d_M_behind_64 rfl ?_
          refine x_icmp_ne G d_M_behind_65 (fun c65 => ?_) (fun c65 => ?_)
          · refine x_aload0 G d_M_behind_75 ?_
            refine x_iconst (v := nI 5) G d_M_behind_76 rfl ?_
            refine m_callV_pi (p_M_allOf (kg κ) (d - 1) (by omega) σ2 _ g1 kI 5 (by decide) (fun p a b => (kJ.2.2 p a b).2.2.1)) G d_M_behind_77 lk_M_179 rfl ⟨by decide, rfl⟩ (by decide) (by omega) rfl (Nat.le_of_ble_eq_true rfl) hx ?_
            refine x_istore3 G d_M_behind_80 rfl hk ?_
            refine x_aload0 G d_M_behind_81 ?_
            refine m_callV_pv (p_M_laysBack (kg κ) (d - 1) (by omega) σ2 S _ g1 kA l3) G d_M_behind_82 lk_M_194 rfl ⟨by decide, rfl⟩ (by decide) (by omega) rfl (Nat.le_of_ble_eq_true rfl) hx (fun σ3 ⟨b1, b2⟩ => ?_)
            refine x_iload3 G d_M_behind_85 ?_
            exact m_iret E G d_M_behind_86 hx rfl rfl ⟨_, rfl, MC.mk' (S1 := S) (v1 := sumN (fun p => passN S (-1) j (ixP p 5)) 8) (by unfold fBehind; rw [c9, c21, tj]; simp only [Bool.and_true, if_true, eq_false (show ¬ what = nI 0 from c37), c51, c65, if_false]) rfl b1 (hO2.trans (fun k a _ _ _ _ _ _ _ _ _ => b2 k a))⟩
          · refine x_aload0 G d_M_behind_68 ?_
            refine m_callV_pi (p_M_allCorn (kg κ) (d - 1) (by omega) σ2 _ g1) G d_M_behind_69 lk_M_176 rfl ⟨by decide, rfl⟩ (by decide) (by omega) rfl (Nat.le_of_ble_eq_true rfl) hx ?_
            refine x_goto G d_M_behind_72 ?_
            refine x_istore3 G d_M_behind_80 rfl hk ?_
            refine x_aload0 G d_M_behind_81 ?_
            refine m_callV_pv (p_M_laysBack (kg κ) (d - 1) (by omega) σ2 S _ g1 kA l3) G d_M_behind_82 lk_M_194 rfl ⟨by decide, rfl⟩ (by decide) (by omega) rfl (Nat.le_of_ble_eq_true rfl) hx (fun σ3 ⟨b1, b2⟩ => ?_)
            refine x_iload3 G d_M_behind_85 ?_
            exact m_iret E G d_M_behind_86 hx rfl rfl ⟨_, rfl, MC.mk' (S1 := S) (v1 := sumN (fun f => passN S (-1) j (ixF f 1)) 9) (by unfold fBehind; rw [c9, c21, tj]; simp only [Bool.and_true, if_true, eq_false (show ¬ what = nI 0 from c37), c51, eq_true c65, if_false]) rfl b1 (hO2.trans (fun k a _ _ _ _ _ _ _ _ _ => b2 k a))⟩
        · refine x_aload0 G d_M_behind_54 ?_
          refine m_getr G d_M_behind_55 fl_M_7 rfl (by decide) rfl ?_
          refine x_iconst (v := nI 4) G d_M_behind_58 rfl ?_
          refine m_iald 4 G d_M_behind_59 rfl rfl ⟨by omega, by first | decide | omega⟩ ?_
          refine x_goto G d_M_behind_60 ?_
          refine x_istore3 G d_M_behind_80 rfl hk ?_
          refine x_aload0 G d_M_behind_81 ?_
          refine m_callV_pv (p_M_laysBack (kg κ) (d - 1) (by omega) σ2 S _ g1 kA l3) G d_M_behind_82 lk_M_194 rfl ⟨by decide, rfl⟩ (by decide) (by omega) rfl (Nat.le_of_ble_eq_true rfl) hx (fun σ3 ⟨b1, b2⟩ => ?_)
          refine x_iload3 G d_M_behind_85 ?_
          exact m_iret E G d_M_behind_86 hx rfl rfl ⟨_, rfl, MC.mk' (S1 := S) (v1 := passN S (-1) j 4) (by unfold fBehind; rw [c9, c21, tj]; simp only [Bool.and_true, if_true, eq_false (show ¬ what = nI 0 from c37), eq_true c51, if_false]) (by rw [g1]) b1 (hO2.trans (fun k a _ _ _ _ _ _ _ _ _ => b2 k a))⟩
      · refine x_aload0 G d_M_behind_40 ?_
        refine m_getr G d_M_behind_41 fl_M_7 rfl (by decide) rfl ?_
        refine x_iconst (v := nI 3) G d_M_behind_44 rfl ?_
        refine m_iald 3 G d_M_behind_45 rfl rfl ⟨by omega, by first | decide | omega⟩ ?_
        refine x_goto G d_M_behind_46 ?_
        refine x_istore3 G d_M_behind_80 rfl hk ?_
        refine x_aload0 G d_M_behind_81 ?_
        refine m_callV_pv (p_M_laysBack (kg κ) (d - 1) (by omega) σ2 S _ g1 kA l3) G d_M_behind_82 lk_M_194 rfl ⟨by decide, rfl⟩ (by decide) (by omega) rfl (Nat.le_of_ble_eq_true rfl) hx (fun σ3 ⟨b1, b2⟩ => ?_)
        refine x_iload3 G d_M_behind_85 ?_
        exact m_iret E G d_M_behind_86 hx rfl rfl ⟨_, rfl, MC.mk' (S1 := S) (v1 := passN S (-1) j 3) (by unfold fBehind; rw [c9, c21, tj]; simp only [Bool.and_true, if_true, eq_true (show what = nI 0 from c37), if_false]) (by rw [g1]) b1 (hO2.trans (fun k a _ _ _ _ _ _ _ _ _ => b2 k a))⟩
    · replace c21 := bI_0.mp c21
      refine x_ldc G d_M_behind_24 kc_M_98 ?_
      exact m_iret E G d_M_behind_26 hx rfl rfl ⟨_, rfl, MC.same hS (by simp only [fBehind, c9, tj, c21, Bool.and_true, Bool.true_and, Bool.and_false, Bool.false_and, Bool.or_true, Bool.true_or, Bool.or_false, Bool.false_or, Bool.not_true, Bool.not_false, Bool.false_eq_true, decide_true, decide_false, if_true, if_false])⟩
theorem p_M_has (g : CX) (d : Nat) (hd : 7 ≤ d) (σ : Sg) (S : Rw) (hO : MO S σ) (one n what : Int32) : RunM g d M_has [.ref 113, .int one, .int n, .int what] σ (PR (MC (fHas S one n what) σ)) := by
  refine RunM.of 1 (by decide +kernel) rfl ?_
  intro κ hg hx hk0 G E
  subst hg
  have hk : 5 ≤ kn κ := Nat.le_of_eq hk0.symm
  show X κ NC 0 [some (.ref 113), some (.int one), some (.int n), some (.int what), none] [] (hv σ)
  obtain ⟨hS, hI, hJ, h9, hab⟩ := hO
  have hn8 := hI.n
  refine x_aload0 G d_M_has_0 ?_
  refine x_iload1 G d_M_has_1 ?_
  refine m_callV_pi (p_M_isOn (kg κ) (d - 1) (by omega) _ S hS hI _) G d_M_has_2 lk_M_126 rfl ⟨by decide, rfl⟩ (by decide) (by omega) rfl (Nat.le_of_ble_eq_true rfl) hx ?_
  refine x_if_eq G d_M_has_5 (fun c5 => ?_) (fun c5 => ?_)
  · replace c5 := bI_0.mp c5
    refine x_ldc G d_M_has_30 kc_M_98 ?_
    exact m_iret E G d_M_has_32 hx rfl rfl ⟨_, rfl, MC.same hS (by simp only [fHas, c5, Bool.and_true, Bool.true_and, Bool.and_false, Bool.false_and, Bool.or_true, Bool.true_or, Bool.or_false, Bool.false_or, Bool.not_true, Bool.not_false, Bool.false_eq_true, decide_true, decide_false, if_true, if_false])⟩
  · replace c5 := bI_n0.mp c5
    obtain ⟨p, hp, hpn, tp, rfl⟩ := one_ex hI c5
    refine x_iload2 G d_M_has_8 ?_
    refine x_i2l G d_M_has_9 ?_
    refine x_lconst (v := 0) G d_M_has_10 rfl ?_
    refine x_ldc2 G d_M_has_11 kc_M_157 ?_
    refine m_callS_pi (p_M_isUp (kg κ) (d - 1) _ _ 100 _ _ _ rfl (by decide +kernel) (by decide +kernel)) G d_M_has_14 lk_M_82 (by omega) rfl (Nat.le_of_ble_eq_true rfl) hx ?_
    refine x_if_eq G d_M_has_17 (fun c17 => ?_) (fun c17 => ?_)
    · replace c17 := bI_0.mp c17
      refine x_ldc G d_M_has_30 kc_M_98 ?_
      exact m_iret E G d_M_has_32 hx rfl rfl ⟨_, rfl, MC.same hS (by simp only [fHas, c5, tp, c17, Bool.and_true, Bool.true_and, Bool.and_false, Bool.false_and, Bool.or_true, Bool.true_or, Bool.or_false, Bool.false_or, Bool.not_true, Bool.not_false, Bool.false_eq_true, decide_true, decide_false, if_true, if_false])⟩
    · replace c17 := bI_n0.mp c17
      obtain ⟨j, hj, tj, rfl⟩ := upB_ex (by decide) c17
      refine x_iload3 G d_M_has_20 ?_
      refine x_i2l G d_M_has_21 ?_
      refine x_lconst (v := 0) G d_M_has_22 rfl ?_
      refine x_lconst (v := 1) G d_M_has_23 rfl ?_
      refine m_callS_pi (p_M_isUp (kg κ) (d - 1) _ _ 1 _ _ _ rfl (by decide +kernel) (by decide +kernel)) G d_M_has_24 lk_M_82 (by omega) rfl (Nat.le_of_ble_eq_true rfl) hx ?_
      refine x_if_ne G d_M_has_27 (fun c27 => ?_) (fun c27 => ?_)
      · replace c27 := bI_n0.mp c27
        refine x_aload0 G d_M_has_33 ?_
        refine m_callV_pv (p_M_laysBy (kg κ) (d - 1) (by omega) σ S hS) G d_M_has_34 lk_M_188 rfl ⟨by decide, rfl⟩ (by decide) (by omega) rfl (Nat.le_of_ble_eq_true rfl) hx (fun σ1 ⟨l1, l2⟩ => ?_)
        have hS1 : σ1 114 = S := by rw [l2 114 (by decide)]; exact hS
        have hab1 : σ1 113 13 = -1 := by rw [l2 113 (by decide)]; exact hab
        have hO1 : OutN σ σ1 := fun k _ _ _ _ e _ _ _ _ _ => l2 k e
        refine x_aload0 G d_M_has_37 ?_
        refine x_iload2 G d_M_has_38 ?_
        refine m_callV_pv (p_M_goesOnMany (kg κ) (d - 1) (by omega) σ1 S hS1 hI (-1) hab1 j (by have := h9.2; omega)) G d_M_has_39 lk_M_191 rfl ⟨by decide, rfl⟩ (by decide) (by omega) rfl (Nat.le_of_ble_eq_true rfl) hx (fun σ2 ⟨g1, g2, _⟩ => ?_)
        obtain ⟨kI, k0, -, kz, kA, -⟩ := passN_keep hI (-1) j (by have := h9.2; omega)
        have kJ := passN_keep2 hI hJ (-1) j (by have := h9.2; omega)
        have hO2 : OutN σ σ2 := hO1.trans (OutN.of g2)
        have l3 : CloseOf S σ2 := fun i hi => by rw [g2 127 (by decide) (by decide) (by decide) (by decide)]; exact l1 i hi
        refine x_aload0 G d_M_has_42 ?_
        refine x_iload1 G d_M_has_43 ?_
        refine x_iload3 G d_M_has_44 ?_
        refine x_if_ne G d_M_has_45 (fun c45 => ?_) (fun c45 => ?_)
        · refine x_iconst (v := nI 3) G d_M_has_52 rfl ?_
          refine m_callV_pi (p_M_ofS (kg κ) (d - 1) σ2 _ g1 _ _ (by omega) (by decide)) G d_M_has_53 lk_M_107 rfl ⟨by decide, rfl⟩ (by decide) (by omega) rfl (Nat.le_of_ble_eq_true rfl) hx ?_
          refine x_istore4 G d_M_has_56 rfl hk ?_
          refine x_aload0 G d_M_has_58 ?_
          refine m_callV_pv (p_M_laysBack (kg κ) (d - 1) (by omega) σ2 S _ g1 kA l3) G d_M_has_59 lk_M_194 rfl ⟨by decide, rfl⟩ (by decide) (by omega) rfl (Nat.le_of_ble_eq_true rfl) hx (fun σ3 ⟨b1, b2⟩ => ?_)
          refine x_iload4 G d_M_has_62 ?_
          exact m_iret E G d_M_has_64 hx rfl rfl ⟨_, rfl, MC.mk' (S1 := S) (v1 := passN S (-1) j (ixP p 3)) (by simp only [fHas, c5, tp, c17, tj, c27, c45, Bool.and_true, Bool.true_and, Bool.and_false, Bool.false_and, Bool.or_true, Bool.true_or, Bool.or_false, Bool.false_or, Bool.not_true, Bool.not_false, Bool.false_eq_true, decide_true, decide_false, if_true, if_false]) rfl b1 (hO2.trans (fun k a _ _ _ _ _ _ _ _ _ => b2 k a))⟩
        · refine x_iconst (v := nI 4) G d_M_has_48 rfl ?_
          refine x_goto G d_M_has_49 ?_
          refine m_callV_pi (p_M_ofS (kg κ) (d - 1) σ2 _ g1 _ _ (by omega) (by decide)) G d_M_has_53 lk_M_107 rfl ⟨by decide, rfl⟩ (by decide) (by omega) rfl (Nat.le_of_ble_eq_true rfl) hx ?_
          refine x_istore4 G d_M_has_56 rfl hk ?_
          refine x_aload0 G d_M_has_58 ?_
          refine m_callV_pv (p_M_laysBack (kg κ) (d - 1) (by omega) σ2 S _ g1 kA l3) G d_M_has_59 lk_M_194 rfl ⟨by decide, rfl⟩ (by decide) (by omega) rfl (Nat.le_of_ble_eq_true rfl) hx (fun σ3 ⟨b1, b2⟩ => ?_)
          refine x_iload4 G d_M_has_62 ?_
          exact m_iret E G d_M_has_64 hx rfl rfl ⟨_, rfl, MC.mk' (S1 := S) (v1 := passN S (-1) j (ixP p 4)) (by simp only [fHas, c5, tp, c17, tj, c27, eq_true c45, Bool.and_true, Bool.true_and, Bool.and_false, Bool.false_and, Bool.or_true, Bool.true_or, Bool.or_false, Bool.false_or, Bool.not_true, Bool.not_false, Bool.false_eq_true, decide_true, decide_false, if_true, if_false]) rfl b1 (hO2.trans (fun k a _ _ _ _ _ _ _ _ _ => b2 k a))⟩
      · replace c27 := bI_0.mp c27
        refine x_ldc G d_M_has_30 kc_M_98 ?_
        exact m_iret E G d_M_has_32 hx rfl rfl ⟨_, rfl, MC.same hS (by simp only [fHas, c5, tp, c17, tj, c27, Bool.and_true, Bool.true_and, Bool.and_false, Bool.false_and, Bool.or_true, Bool.true_or, Bool.or_false, Bool.false_or, Bool.not_true, Bool.not_false, Bool.false_eq_true, decide_true, decide_false, if_true, if_false])⟩
theorem p_M_rota (g : CX) (d : Nat) (hd : 7 ≤ d) (σ : Sg) (S : Rw) (hO : MO S σ) (m : Int32) : RunM g d M_rota [.ref 113, .int m] σ (PR (MC (fRota S m) σ)) := by
  refine RunM.of 2 (by decide +kernel) rfl ?_
  intro κ hg hx hk0 G E
  subst hg
  have hk : 4 ≤ kn κ := Nat.le_of_eq hk0.symm
  show X κ NC 0 [some (.ref 113), some (.int m), none, none] [] (hv σ)
  obtain ⟨hS, hI, hJ, h9, hab⟩ := hO
  have hn8 := hI.n
  refine x_iload1 G d_M_rota_0 ?_
  refine x_i2l G d_M_rota_1 ?_
  refine x_lconst (v := 0) G d_M_rota_2 rfl ?_
  refine x_ldc2 G d_M_rota_3 kc_M_200 ?_
  refine m_callS_pi (p_M_isUp (kg κ) (d - 1) _ _ 9 _ _ _ rfl (by decide +kernel) (by decide +kernel)) G d_M_rota_6 lk_M_82 (by omega) rfl (Nat.le_of_ble_eq_true rfl) hx ?_
  refine x_if_ne G d_M_rota_9 (fun c9 => ?_) (fun c9 => ?_)
  · replace c9 := bI_n0.mp c9
    obtain ⟨m, hm, tm, rfl⟩ := upB_ex (by decide) c9
    refine x_aload0 G d_M_rota_15 ?_
    refine m_callV_pv (p_M_laysBy (kg κ) (d - 1) (by omega) σ S hS) G d_M_rota_16 lk_M_188 rfl ⟨by decide, rfl⟩ (by decide) (by omega) rfl (Nat.le_of_ble_eq_true rfl) hx (fun σ1 ⟨l1, l2⟩ => ?_)
    have hS1 : σ1 114 = S := by rw [l2 114 (by decide)]; exact hS
    have hab1 : σ1 113 13 = -1 := by rw [l2 113 (by decide)]; exact hab
    have hO1 : OutN σ σ1 := fun k _ _ _ _ e _ _ _ _ _ => l2 k e
    refine x_iconst (v := (-1)) G d_M_rota_19 rfl ?_
    refine x_istore2 G d_M_rota_20 rfl hk ?_
    refine x_iconst (v := nI 0) G d_M_rota_21 rfl ?_
    refine x_istore3 G d_M_rota_22 rfl hk ?_
    have hloop : ∀ (k2 k : Nat) (σ2 : Sg), k ≤ 101 → 101 < k + k2 → σ2 114 = passN S (-1) k → CloseOf S σ2 → OutN σ σ2 → X κ NC 23 [some (.ref 113), some (.int (nI m)), some (.int (rtN S m k)), some (.int (nI k))] [] (hv σ2) := by
      intro k2
      induction k2 with
      | zero => intro k σ2 h1 h2; omega
      | succ k2 ih =>
        intro k σ2 hk1 hk2 g1 l3 hO2
        obtain ⟨kI, k0, -, kz, kA, -⟩ := passN_keep hI (-1) k (by have := h9.2; omega)
        have kJ := passN_keep2 hI hJ (-1) k (by have := h9.2; omega)
        have hrg := rtN_rng S m k hk1
        refine x_iload3 G d_M_rota_23 ?_
        refine x_bipush (v := nI 100) G d_M_rota_24 rfl ?_
        refine x_icmp_gt G d_M_rota_26 (fun c26 => ?_) (fun c26 => ?_)
        · have hend : k = 101 ∨ ¬ rtN S m k < 0 := Or.inl (by rcases Nat.lt_or_ge k 101 with z | z; exact absurd c26 (fun q => by rw [nlt (by decide) (by omega)] at q; omega); omega)
          refine x_aload0 G d_M_rota_57 ?_
          refine m_callV_pv (p_M_laysBack (kg κ) (d - 1) (by omega) σ2 S _ g1 kA l3) G d_M_rota_58 lk_M_194 rfl ⟨by decide, rfl⟩ (by decide) (by omega) rfl (Nat.le_of_ble_eq_true rfl) hx (fun σ4 ⟨b1, b2⟩ => ?_)
          refine x_iload2 G d_M_rota_61 ?_
          refine m_callS_pi (p_M_orNone (kg κ) (d - 1) (by omega) _ _) G d_M_rota_62 lk_M_205 (by omega) rfl (Nat.le_of_ble_eq_true rfl) hx ?_
          exact m_iret E G d_M_rota_65 hx rfl rfl ⟨_, rfl, MC.mk' (S1 := S) (v1 := if rtN S m 101 < 0 then -1000000005 else rtN S m 101) (by simp only [fRota, c9, tm, if_true]) (by rw [rtN_end hk1 hend]) b1 (hO2.trans (fun k a _ _ _ _ _ _ _ _ _ => b2 k a))⟩
        · have hk101 : k < 101 := by rcases Nat.lt_or_ge 100 k with z | z; exact absurd ((nlt (by decide) (by omega)).mpr z) c26; omega
          refine x_iload2 G d_M_rota_29 ?_
          refine x_if_ge G d_M_rota_30 (fun c30 => ?_) (fun c30 => ?_)
          · replace c30 := Int32.not_lt.mpr c30
            have hend : k = 101 ∨ ¬ rtN S m k < 0 := Or.inr c30
            refine x_aload0 G d_M_rota_57 ?_
            refine m_callV_pv (p_M_laysBack (kg κ) (d - 1) (by omega) σ2 S _ g1 kA l3) G d_M_rota_58 lk_M_194 rfl ⟨by decide, rfl⟩ (by decide) (by omega) rfl (Nat.le_of_ble_eq_true rfl) hx (fun σ4 ⟨b1, b2⟩ => ?_)
            refine x_iload2 G d_M_rota_61 ?_
            refine m_callS_pi (p_M_orNone (kg κ) (d - 1) (by omega) _ _) G d_M_rota_62 lk_M_205 (by omega) rfl (Nat.le_of_ble_eq_true rfl) hx ?_
            exact m_iret E G d_M_rota_65 hx rfl rfl ⟨_, rfl, MC.mk' (S1 := S) (v1 := if rtN S m 101 < 0 then -1000000005 else rtN S m 101) (by simp only [fRota, c9, tm, if_true]) (by rw [rtN_end hk1 hend]) b1 (hO2.trans (fun k a _ _ _ _ _ _ _ _ _ => b2 k a))⟩
          · replace c30 := Int32.not_le.mp c30
            have hr1 : rtN S m k = -1 := by
              rcases hrg with q | ⟨j, hj, q⟩
              · exact q
              · rw [q] at c30; exact absurd c30 (nI_pos (by omega))
            refine x_aload0 G d_M_rota_33 ?_
            refine x_iload1 G d_M_rota_34 ?_
            refine m_callV_pi (p_M_allHad (kg κ) (d - 1) (by omega) σ2 _ g1 kI kJ m (by omega)) G d_M_rota_35 lk_M_202 rfl ⟨by decide, rfl⟩ (by decide) (by omega) rfl (Nat.le_of_ble_eq_true rfl) hx ?_
            refine x_if_eq G d_M_rota_38 (fun c38 => ?_) (fun c38 => ?_)
            · replace c38 := bI_0.mp c38
              have hr2 : rtN S m (k + 1) = -1 := by rw [rtN, if_pos hr1, if_neg (by rw [c38]; decide)]
              refine x_iconst (v := (-1)) G d_M_rota_45 rfl ?_
              refine x_istore2 G d_M_rota_46 rfl hk ?_
              refine x_aload0 G d_M_rota_47 ?_
              refine m_callV_pv (p_M_goesOn (kg κ) (d - 1) (by omega) σ2 _ g1 kI (-1) (by rw [hO2 113 (by decide) (by decide) (by decide) (by decide) (by decide) (by decide) (by decide) (by decide) (by decide) (by decide)]; exact hab)) G d_M_rota_48 lk_M_173 rfl ⟨by decide, rfl⟩ (by decide) (by omega) rfl (Nat.le_of_ble_eq_true rfl) hx (fun σ3 ⟨j1, j2, j3⟩ => ?_)
              refine x_iinc3 (v := nI (k + 1)) G d_M_rota_51 rfl hk (nI_1 _) ?_
              refine x_goto G d_M_rota_54 ?_
              rw [← hr2]; exact ih (k + 1) σ3 (by omega) (by omega) j1 (fun i hi => by rw [j3 127 (by decide) (by decide) (by decide) (by decide)]; exact l3 i hi) (hO2.trans (OutN.of j3))
            · replace c38 := bI_n0.mp c38
              have hr2 : rtN S m (k + 1) = nI k := by rw [rtN, if_pos hr1, if_pos c38]
              refine x_iload3 G d_M_rota_41 ?_
              refine x_goto G d_M_rota_42 ?_
              refine x_istore2 G d_M_rota_46 rfl hk ?_
              refine x_aload0 G d_M_rota_47 ?_
              refine m_callV_pv (p_M_goesOn (kg κ) (d - 1) (by omega) σ2 _ g1 kI (-1) (by rw [hO2 113 (by decide) (by decide) (by decide) (by decide) (by decide) (by decide) (by decide) (by decide) (by decide) (by decide)]; exact hab)) G d_M_rota_48 lk_M_173 rfl ⟨by decide, rfl⟩ (by decide) (by omega) rfl (Nat.le_of_ble_eq_true rfl) hx (fun σ3 ⟨j1, j2, j3⟩ => ?_)
              refine x_iinc3 (v := nI (k + 1)) G d_M_rota_51 rfl hk (nI_1 _) ?_
              refine x_goto G d_M_rota_54 ?_
              rw [← hr2]; exact ih (k + 1) σ3 (by omega) (by omega) j1 (fun i hi => by rw [j3 127 (by decide) (by decide) (by decide) (by decide)]; exact l3 i hi) (hO2.trans (OutN.of j3))
    exact hloop 102 0 σ1 (by decide) (by decide) hS1 l1 hO1
  · replace c9 := bI_0.mp c9
    refine x_ldc G d_M_rota_12 kc_M_98 ?_
    exact m_iret E G d_M_rota_14 hx rfl rfl ⟨_, rfl, MC.same hS (by simp only [fRota, c9, Bool.and_true, Bool.true_and, Bool.and_false, Bool.false_and, Bool.or_true, Bool.true_or, Bool.or_false, Bool.false_or, Bool.not_true, Bool.not_false, Bool.false_eq_true, decide_true, decide_false, if_true, if_false])⟩
theorem p_M_sold (g : CX) (d : Nat) (hd : 7 ≤ d) (σ : Sg) (S : Rw) (hO : MO S σ) (f one n : Int32) : RunM g d M_sold [.ref 113, .int f, .int one, .int n] σ (PR (MC (fSold S f one n) σ)) := by
  refine RunM.of 2 (by decide +kernel) rfl ?_
  intro κ hg hx hk0 G E
  subst hg
  have hk : 6 ≤ kn κ := Nat.le_of_eq hk0.symm
  show X κ NC 0 [some (.ref 113), some (.int f), some (.int one), some (.int n), none, none] [] (hv σ)
  obtain ⟨hS, hI, hJ, h9, hab⟩ := hO
  have hn8 := hI.n
  refine x_iload1 G d_M_sold_0 ?_
  refine m_callS_pi (p_M_isFi (kg κ) (d - 1) _ _) G d_M_sold_1 lk_M_92 (by omega) rfl (Nat.le_of_ble_eq_true rfl) hx ?_
  refine x_if_eq G d_M_sold_4 (fun c4 => ?_) (fun c4 => ?_)
  · replace c4 := bI_0.mp c4
    refine x_ldc G d_M_sold_27 kc_M_98 ?_
    exact m_iret E G d_M_sold_29 hx rfl rfl ⟨_, rfl, MC.same hS (by simp only [fSold, c4, Bool.and_true, Bool.true_and, Bool.and_false, Bool.false_and, Bool.or_true, Bool.true_or, Bool.or_false, Bool.false_or, Bool.not_true, Bool.not_false, Bool.false_eq_true, decide_true, decide_false, if_true, if_false])⟩
  · replace c4 := bI_n0.mp c4
    obtain ⟨f, hf, tf, rfl⟩ := upB_ex (by decide) c4
    refine x_aload0 G d_M_sold_7 ?_
    refine x_iload2 G d_M_sold_8 ?_
    refine m_callV_pi (p_M_isOn (kg κ) (d - 1) (by omega) _ S hS hI _) G d_M_sold_9 lk_M_126 rfl ⟨by decide, rfl⟩ (by decide) (by omega) rfl (Nat.le_of_ble_eq_true rfl) hx ?_
    refine x_if_eq G d_M_sold_12 (fun c12 => ?_) (fun c12 => ?_)
    · replace c12 := bI_0.mp c12
      refine x_ldc G d_M_sold_27 kc_M_98 ?_
      exact m_iret E G d_M_sold_29 hx rfl rfl ⟨_, rfl, MC.same hS (by simp only [fSold, c4, tf, c12, Bool.and_true, Bool.true_and, Bool.and_false, Bool.false_and, Bool.or_true, Bool.true_or, Bool.or_false, Bool.false_or, Bool.not_true, Bool.not_false, Bool.false_eq_true, decide_true, decide_false, if_true, if_false])⟩
    · replace c12 := bI_n0.mp c12
      obtain ⟨p, hp, hpn, tp, rfl⟩ := one_ex hI c12
      refine x_iload3 G d_M_sold_15 ?_
      refine x_i2l G d_M_sold_16 ?_
      refine x_lconst (v := 1) G d_M_sold_17 rfl ?_
      refine x_ldc2 G d_M_sold_18 kc_M_208 ?_
      refine m_callS_pi (p_M_isIn (kg κ) (d - 1) (Nat.zero_le _) _ _ (nI 1) (nI 60) _ _ _ rfl (by decide +kernel) (by decide +kernel)) G d_M_sold_21 lk_M_82 (by omega) rfl (Nat.le_of_ble_eq_true rfl) hx ?_
      refine x_if_ne G d_M_sold_24 (fun c24 => ?_) (fun c24 => ?_)
      · replace c24 := bI_n0.mp c24
        obtain ⟨j, hj1, hj2, tj, rfl⟩ := inB_1 (by decide) c24
        refine x_aload0 G d_M_sold_30 ?_
        refine m_callV_pv (p_M_laysBy (kg κ) (d - 1) (by omega) σ S hS) G d_M_sold_31 lk_M_188 rfl ⟨by decide, rfl⟩ (by decide) (by omega) rfl (Nat.le_of_ble_eq_true rfl) hx (fun σ1 ⟨l1, l2⟩ => ?_)
        have hS1 : σ1 114 = S := by rw [l2 114 (by decide)]; exact hS
        have hab1 : σ1 113 13 = -1 := by rw [l2 113 (by decide)]; exact hab
        have hO1 : OutN σ σ1 := fun k _ _ _ _ e _ _ _ _ _ => l2 k e
        refine x_aload0 G d_M_sold_34 ?_
        refine x_iload3 G d_M_sold_35 ?_
        refine m_callV_pv (p_M_goesOnMany (kg κ) (d - 1) (by omega) σ1 S hS1 hI (-1) hab1 j (by have := h9.2; omega)) G d_M_sold_36 lk_M_191 rfl ⟨by decide, rfl⟩ (by decide) (by omega) rfl (Nat.le_of_ble_eq_true rfl) hx (fun σ2 ⟨g1, g2, _⟩ => ?_)
        obtain ⟨kI, k0, -, kz, kA, -⟩ := passN_keep hI (-1) j (by have := h9.2; omega)
        have kJ := passN_keep2 hI hJ (-1) j (by have := h9.2; omega)
        have hO2 : OutN σ σ2 := hO1.trans (OutN.of g2)
        have l3 : CloseOf S σ2 := fun i hi => by rw [g2 127 (by decide) (by decide) (by decide) (by decide)]; exact l1 i hi
        refine x_aload0 G d_M_sold_39 ?_
        refine m_getr G d_M_sold_40 fl_M_7 rfl (by decide) rfl ?_
        refine x_iconst (v := nI 3) G d_M_sold_43 rfl ?_
        refine m_iald 3 G d_M_sold_44 rfl rfl ⟨by omega, by first | decide | omega⟩ ?_
        refine x_istore4 G d_M_sold_45 rfl hk ?_
        refine x_aload0 G d_M_sold_47 ?_
        refine m_callV_pv (p_M_laysBack (kg κ) (d - 1) (by omega) σ2 S _ g1 kA l3) G d_M_sold_48 lk_M_194 rfl ⟨by decide, rfl⟩ (by decide) (by omega) rfl (Nat.le_of_ble_eq_true rfl) hx (fun σ3 ⟨b1, b2⟩ => ?_)
        refine x_aload0 G d_M_sold_51 ?_
        refine x_iload1 G d_M_sold_52 ?_
        refine x_iconst (v := nI 0) G d_M_sold_53 rfl ?_
        refine x_iload2 G d_M_sold_54 ?_
        refine m_callV_pv (p_M_puts (kg κ) (d - 1) (by omega) σ3 f 0 (by omega) (by decide) _) G d_M_sold_55 lk_M_77 rfl ⟨by decide, rfl⟩ (by decide) (by omega) rfl (Nat.le_of_ble_eq_true rfl) hx (fun σ4 e4 => ?_)
        have hS4 : σ4 114 = own S f (nI p) := by rw [e4, updS_row, b1]; rfl
        have hab4 : σ4 113 13 = -1 := by rw [e4, updS_nk (by decide), b2 113 (by decide), g2 113 (by decide) (by decide) (by decide) (by decide)]; exact hab1
        have hA4 : AgT S (own S f (nI p)) := AgT.refl.upd (by unfold ixF; omega) (by unfold ixF; omega)
        have h94 : own S f (nI p) 2 = S 2 := pk_un (by unfold ixF; omega)
        have hI4 : Inv (own S f (nI p)) := hI.own (by omega) (In.mk' (by omega) (by decide))
        have hO4 : OutN σ σ4 := by rw [e4]; exact (hO2.trans (fun k a _ _ _ _ _ _ _ _ _ => b2 k a)).upd (by omega)
        have l4 : CloseOf S σ4 := fun i hi => by rw [e4, updS_nk (by decide), b2 127 (by decide)]; exact l3 i hi
        refine x_aload0 G d_M_sold_58 ?_
        refine x_iload3 G d_M_sold_59 ?_
        refine m_callV_pv (p_M_goesOnMany (kg κ) (d - 1) (by omega) σ4 _ hS4 hI4 (-1) hab4 j (by rw [h94]; have := h9.2; omega)) G d_M_sold_60 lk_M_191 rfl ⟨by decide, rfl⟩ (by decide) (by omega) rfl (Nat.le_of_ble_eq_true rfl) hx (fun σ5 ⟨g4, g5, _⟩ => ?_)
        refine x_aload0 G d_M_sold_63 ?_
        refine m_getr G d_M_sold_64 fl_M_7 rfl (by decide) rfl ?_
        refine x_iconst (v := nI 3) G d_M_sold_67 rfl ?_
        refine m_iald 3 G d_M_sold_68 rfl rfl ⟨by omega, by first | decide | omega⟩ ?_
        refine x_istore5 G d_M_sold_69 rfl hk ?_
        refine x_aload0 G d_M_sold_71 ?_
        refine m_callV_pv (p_M_laysBack (kg κ) (d - 1) (by omega) σ5 S _ g4 (hA4.trans (passN_keep hI4 (-1) j (by rw [h94]; have := h9.2; omega)).2.2.2.2.1) (fun i hi => by rw [g5 127 (by decide) (by decide) (by decide) (by decide)]; exact l4 i hi)) G d_M_sold_72 lk_M_194 rfl ⟨by decide, rfl⟩ (by decide) (by omega) rfl (Nat.le_of_ble_eq_true rfl) hx (fun σ6 ⟨b3, b4⟩ => ?_)
        refine x_iload5 G d_M_sold_75 ?_
        refine x_iload4 G d_M_sold_77 ?_
        refine x_isub G d_M_sold_79 ?_
        exact m_iret E G d_M_sold_80 hx rfl rfl ⟨_, rfl, MC.mk' (S1 := S) (v1 := passN (own S f (nI p)) (-1) j 3 - passN S (-1) j 3) (by simp only [fSold, c4, tf, c12, tp, c24, tj, Bool.and_true, Bool.true_and, Bool.and_false, Bool.false_and, Bool.or_true, Bool.true_or, Bool.or_false, Bool.false_or, Bool.not_true, Bool.not_false, Bool.false_eq_true, decide_true, decide_false, if_true, if_false]) (by rw [g4, g1]) b3 ((hO4.trans (OutN.of g5)).trans (fun k a _ _ _ _ _ _ _ _ _ => b4 k a))⟩
      · replace c24 := bI_0.mp c24
        refine x_ldc G d_M_sold_27 kc_M_98 ?_
        exact m_iret E G d_M_sold_29 hx rfl rfl ⟨_, rfl, MC.same hS (by simp only [fSold, c4, tf, c12, tp, c24, Bool.and_true, Bool.true_and, Bool.and_false, Bool.false_and, Bool.or_true, Bool.true_or, Bool.or_false, Bool.false_or, Bool.not_true, Bool.not_false, Bool.false_eq_true, decide_true, decide_false, if_true, if_false])⟩
theorem p_M_nobodys (g : CX) (d : Nat) (hd : 7 ≤ d) (σ : Sg) (S : Rw) (hO : MO S σ) (n what : Int32) : RunM g d M_nobodys [.ref 113, .int n, .int what] σ (PR (MC (fNobodys S n what) σ)) := by
  refine RunM.of 4 (by decide +kernel) rfl ?_
  intro κ hg hx hk0 G E
  subst hg
  have hk : 7 ≤ kn κ := Nat.le_of_eq hk0.symm
  show X κ NC 0 [some (.ref 113), some (.int n), some (.int what), none, none, none, none] [] (hv σ)
  obtain ⟨hS, hI, hJ, h9, hab⟩ := hO
  have hn8 := hI.n
  refine x_iload1 G d_M_nobodys_0 ?_
  refine x_i2l G d_M_nobodys_1 ?_
  refine x_lconst (v := 1) G d_M_nobodys_2 rfl ?_
  refine x_ldc2 G d_M_nobodys_3 kc_M_208 ?_
  refine m_callS_pi (p_M_isIn (kg κ) (d - 1) (Nat.zero_le _) _ _ (nI 1) (nI 60) _ _ _ rfl (by decide +kernel) (by decide +kernel)) G d_M_nobodys_6 lk_M_82 (by omega) rfl (Nat.le_of_ble_eq_true rfl) hx ?_
  refine x_if_eq G d_M_nobodys_9 (fun c9 => ?_) (fun c9 => ?_)
  · replace c9 := bI_0.mp c9
    refine x_ldc G d_M_nobodys_22 kc_M_98 ?_
    exact m_iret E G d_M_nobodys_24 hx rfl rfl ⟨_, rfl, MC.same hS (by simp only [fNobodys, c9, Bool.and_true, Bool.true_and, Bool.and_false, Bool.false_and, Bool.or_true, Bool.true_or, Bool.or_false, Bool.false_or, Bool.not_true, Bool.not_false, Bool.false_eq_true, decide_true, decide_false, if_true, if_false])⟩
  · replace c9 := bI_n0.mp c9
    obtain ⟨j, hj1, hj2, tj, rfl⟩ := inB_1 (by decide) c9
    refine x_iload2 G d_M_nobodys_12 ?_
    refine x_i2l G d_M_nobodys_13 ?_
    refine x_lconst (v := 0) G d_M_nobodys_14 rfl ?_
    refine x_lconst (v := 1) G d_M_nobodys_15 rfl ?_
    refine m_callS_pi (p_M_isUp (kg κ) (d - 1) _ _ 1 _ _ _ rfl (by decide +kernel) (by decide +kernel)) G d_M_nobodys_16 lk_M_82 (by omega) rfl (Nat.le_of_ble_eq_true rfl) hx ?_
    refine x_if_ne G d_M_nobodys_19 (fun c19 => ?_) (fun c19 => ?_)
    · replace c19 := bI_n0.mp c19
      refine x_aload0 G d_M_nobodys_25 ?_
      refine m_callV_pv (p_M_laysBy (kg κ) (d - 1) (by omega) σ S hS) G d_M_nobodys_26 lk_M_188 rfl ⟨by decide, rfl⟩ (by decide) (by omega) rfl (Nat.le_of_ble_eq_true rfl) hx (fun σ1 ⟨l1, l2⟩ => ?_)
      have hS1 : σ1 114 = S := by rw [l2 114 (by decide)]; exact hS
      have hab1 : σ1 113 13 = -1 := by rw [l2 113 (by decide)]; exact hab
      have hO1 : OutN σ σ1 := fun k _ _ _ _ e _ _ _ _ _ => l2 k e
      refine x_iconst (v := (-1)) G d_M_nobodys_29 rfl ?_
      refine x_istore3 G d_M_nobodys_30 rfl hk ?_
      refine x_iconst (v := nI 0) G d_M_nobodys_31 rfl ?_
      refine x_istore4 G d_M_nobodys_32 rfl hk ?_
      refine x_iconst (v := nI 0) G d_M_nobodys_34 rfl ?_
      refine x_istore5 G d_M_nobodys_35 rfl hk ?_
      have hloop : ∀ (m f : Nat) (σ2 : Sg) (o6 : Option Value), f ≤ 9 → 9 < f + m → σ2 114 = S → CloseOf S σ2 → OutN σ σ2 → X κ NC 37 [some (.ref 113), some (.int (nI j)), some (.int what), some (.int (nbN S j f).1), some (.int (nbN S j f).2), some (.int (nI f)), o6] [] (hv σ2) := by
        intro m
        induction m with
        | zero => intro f σ2 o6 h1 h2; omega
        | succ m ih =>
          intro f σ2 o6 hf1 hf2 hS2 l3 hO2
          have hab2 : σ2 113 13 = -1 := by rw [hO2 113 (by decide) (by decide) (by decide) (by decide) (by decide) (by decide) (by decide) (by decide) (by decide) (by decide)]; exact hab
          have hrg := nbN_rng S j f hf1
          refine x_iload5 G d_M_nobodys_37 ?_
          refine x_bipush (v := nI 9) G d_M_nobodys_39 rfl ?_
          refine x_icmp_ge G d_M_nobodys_41 (fun c41 => ?_) (fun c41 => ?_)
          · replace c41 := Int32.not_lt.mpr c41
            have hf9 : f = 9 := by rw [nlt (by omega) (by decide)] at c41; omega
            refine x_iload2 G d_M_nobodys_104 ?_
            refine x_if_ne G d_M_nobodys_105 (fun c105 => ?_) (fun c105 => ?_)
            · refine x_iload4 G d_M_nobodys_112 ?_
              exact m_iret E G d_M_nobodys_114 hx rfl rfl ⟨_, rfl, MC.mk' (S1 := S) (v1 := (nbN S j 9).2) (by simp only [fNobodys, c9, tj, c19, c105, Bool.and_true, Bool.true_and, Bool.and_false, Bool.false_and, Bool.or_true, Bool.true_or, Bool.or_false, Bool.false_or, Bool.not_true, Bool.not_false, Bool.false_eq_true, decide_true, decide_false, if_true, if_false]) (by rw [hf9]) hS2 hO2⟩
            · refine x_iload3 G d_M_nobodys_108 ?_
              refine x_goto G d_M_nobodys_109 ?_
              exact m_iret E G d_M_nobodys_114 hx rfl rfl ⟨_, rfl, MC.mk' (S1 := S) (v1 := (nbN S j 9).1) (by simp only [fNobodys, c9, tj, c19, eq_true c105, Bool.and_true, Bool.true_and, Bool.and_false, Bool.false_and, Bool.or_true, Bool.true_or, Bool.or_false, Bool.false_or, Bool.not_true, Bool.not_false, Bool.false_eq_true, decide_true, decide_false, if_true, if_false]) (by rw [hf9]) hS2 hO2⟩
          · replace c41 := Int32.not_le.mp c41
            have hf9 : f < 9 := by rw [nlt (by omega) (by decide)] at c41; omega
            refine x_aload0 G d_M_nobodys_44 ?_
            refine x_iload5 G d_M_nobodys_45 ?_
            refine x_iconst (v := nI 0) G d_M_nobodys_47 rfl ?_
            refine x_bipush (v := nI 8) G d_M_nobodys_48 rfl ?_
            refine m_callV_pv (p_M_puts (kg κ) (d - 1) (by omega) σ2 f 0 hf9 (by decide) _) G d_M_nobodys_50 lk_M_77 rfl ⟨by decide, rfl⟩ (by decide) (by omega) rfl (Nat.le_of_ble_eq_true rfl) hx (fun σ4 e4 => ?_)
            have hS4 : σ4 114 = own S f (nI 8) := by rw [e4, updS_row, hS2]; rfl
            have hab4 : σ4 113 13 = -1 := by rw [e4, updS_nk (by decide)]; exact hab2
            have hA4 : AgT S (own S f (nI 8)) := AgT.refl.upd (by unfold ixF; omega) (by unfold ixF; omega)
            have h94 : own S f (nI 8) 2 = S 2 := pk_un (by unfold ixF; omega)
            have hI4 : Inv (own S f (nI 8)) := hI.own hf9 (In.mk' (by omega) (by decide))
            have hO4 : OutN σ σ4 := by rw [e4]; exact hO2.upd (by omega)
            have l4 : CloseOf S σ4 := fun i hi => by rw [e4, updS_nk (by decide)]; exact l3 i hi
            refine x_aload0 G d_M_nobodys_53 ?_
            refine x_iload1 G d_M_nobodys_54 ?_
            refine m_callV_pv (p_M_goesOnMany (kg κ) (d - 1) (by omega) σ4 _ hS4 hI4 (-1) hab4 j (by rw [h94]; have := h9.2; omega)) G d_M_nobodys_55 lk_M_191 rfl ⟨by decide, rfl⟩ (by decide) (by omega) rfl (Nat.le_of_ble_eq_true rfl) hx (fun σ5 ⟨g4, g5, _⟩ => ?_)
            refine x_aload0 G d_M_nobodys_58 ?_
            refine m_getr G d_M_nobodys_59 fl_M_7 rfl (by decide) rfl ?_
            refine x_iconst (v := nI 3) G d_M_nobodys_62 rfl ?_
            refine m_iald 3 G d_M_nobodys_63 rfl rfl ⟨by omega, by first | decide | omega⟩ ?_
            refine x_bipush (v := nI 100) G d_M_nobodys_64 rfl ?_
            refine x_aload0 G d_M_nobodys_66 ?_
            refine m_getr G d_M_nobodys_67 fl_M_7 rfl (by decide) rfl ?_
            refine x_iconst (v := nI 4) G d_M_nobodys_70 rfl ?_
            refine m_iald 4 G d_M_nobodys_71 rfl rfl ⟨by omega, by first | decide | omega⟩ ?_
            refine x_imul G d_M_nobodys_72 ?_
            refine x_iadd G d_M_nobodys_73 ?_
            rw [g4, show passN (own S f (nI 8)) (-1) j 3 + nI 100 * passN (own S f (nI 8)) (-1) j 4 = nbV S j f from rfl]
            refine x_istore6 G d_M_nobodys_74 rfl hk ?_
            refine x_aload0 G d_M_nobodys_76 ?_
            refine m_callV_pv (p_M_laysBack (kg κ) (d - 1) (by omega) σ5 S _ g4 (hA4.trans (passN_keep hI4 (-1) j (by rw [h94]; have := h9.2; omega)).2.2.2.2.1) (fun i hi => by rw [g5 127 (by decide) (by decide) (by decide) (by decide)]; exact l4 i hi)) G d_M_nobodys_77 lk_M_194 rfl ⟨by decide, rfl⟩ (by decide) (by omega) rfl (Nat.le_of_ble_eq_true rfl) hx (fun σ6 ⟨b3, b4⟩ => ?_)
            have hO6 : OutN σ σ6 := ((hO4.trans (OutN.of g5)).trans (fun k a _ _ _ _ _ _ _ _ _ => b4 k a))
            have l6 : CloseOf S σ6 := fun i hi => by rw [b4 127 (by decide), g5 127 (by decide) (by decide) (by decide) (by decide)]; exact l4 i hi
            refine x_iload3 G d_M_nobodys_80 ?_
            refine x_if_lt G d_M_nobodys_81 (fun c81 => ?_) (fun c81 => ?_)
            · have hnb : nbN S j (f + 1) = (nI f, nbV S j f) := by rw [nbN, if_pos (Or.inl (hrg.resolve_right (fun z => z.1 c81)))]
              refine x_iload5 G d_M_nobodys_91 ?_
              refine x_istore3 G d_M_nobodys_93 rfl hk ?_
              refine x_iload6 G d_M_nobodys_94 ?_
              refine x_istore4 G d_M_nobodys_96 rfl hk ?_
              refine x_iinc5 (v := nI (f + 1)) G d_M_nobodys_98 rfl hk (nI_1 _) ?_
              refine x_goto G d_M_nobodys_101 ?_
              rw [show nI f = (nbN S j (f + 1)).1 by rw [hnb], show nbV S j f = (nbN S j (f + 1)).2 by rw [hnb]]; exact ih (f + 1) σ6 _ (by omega) (by omega) b3 l6 hO6
            · have hr2 : ¬ (nbN S j f).1 = -1 := fun z => c81 (by rw [z]; decide)
              refine x_iload6 G d_M_nobodys_84 ?_
              refine x_iload4 G d_M_nobodys_86 ?_
              refine x_icmp_ge G d_M_nobodys_88 (fun c88 => ?_) (fun c88 => ?_)
              · replace c88 := Int32.not_lt.mpr c88
                have hnb : nbN S j (f + 1) = nbN S j f := by rw [nbN, if_neg (fun z => z.elim hr2 c88)]
                refine x_iinc5 (v := nI (f + 1)) G d_M_nobodys_98 rfl hk (nI_1 _) ?_
                refine x_goto G d_M_nobodys_101 ?_
                rw [← hnb]; exact ih (f + 1) σ6 _ (by omega) (by omega) b3 l6 hO6
              · replace c88 := Int32.not_le.mp c88
                have hnb : nbN S j (f + 1) = (nI f, nbV S j f) := by rw [nbN, if_pos (Or.inr c88)]
                refine x_iload5 G d_M_nobodys_91 ?_
                refine x_istore3 G d_M_nobodys_93 rfl hk ?_
                refine x_iload6 G d_M_nobodys_94 ?_
                refine x_istore4 G d_M_nobodys_96 rfl hk ?_
                refine x_iinc5 (v := nI (f + 1)) G d_M_nobodys_98 rfl hk (nI_1 _) ?_
                refine x_goto G d_M_nobodys_101 ?_
                rw [show nI f = (nbN S j (f + 1)).1 by rw [hnb], show nbV S j f = (nbN S j (f + 1)).2 by rw [hnb]]; exact ih (f + 1) σ6 _ (by omega) (by omega) b3 l6 hO6
      exact hloop 10 0 σ1 none (Nat.zero_le _) (by decide) hS1 l1 hO1
    · replace c19 := bI_0.mp c19
      refine x_ldc G d_M_nobodys_22 kc_M_98 ?_
      exact m_iret E G d_M_nobodys_24 hx rfl rfl ⟨_, rfl, MC.same hS (by simp only [fNobodys, c9, tj, c19, Bool.and_true, Bool.true_and, Bool.and_false, Bool.false_and, Bool.or_true, Bool.true_or, Bool.or_false, Bool.false_or, Bool.not_true, Bool.not_false, Bool.false_eq_true, decide_true, decide_false, if_true, if_false])⟩
def OftAt (σ : Sg) (c : Nat → Nat) : Prop := ∀ i, i < 64 → σ 128 i = nI (c i)
theorem p_M_findOften (g : CX) (d : Nat) (hd : 7 ≤ d) (σ : Sg) (S : Rw) (hO : MO S σ) (n : Nat) (hn60 : n ≤ 60) : RunM g d M_findOften [.ref 113, .int (nI n)] σ (PV (fun σ1 => σ1 114 = S ∧ OftAt σ1 (pK S n) ∧ OutN σ σ1)) := by
  refine RunM.of 4 (by decide +kernel) rfl ?_
  intro κ hg hx hk0 G E
  subst hg
  have hk : 6 ≤ kn κ := Nat.le_of_eq hk0.symm
  show X κ NC 0 [some (.ref 113), some (.int (nI n)), none, none, none, none] [] (hv σ)
  obtain ⟨hS, hI, hJ, h9, hab⟩ := hO
  have hn8 := hI.n
  refine x_iconst (v := nI 0) G d_M_findOften_0 rfl ?_
  refine x_istore2 G d_M_findOften_1 rfl hk ?_
  have hz : ∀ (m i : Nat) (σ1 : Sg) (o3 o4 o5 : Option Value), i ≤ 64 → 64 < i + m → (∀ q, q < i → σ1 128 q = nI 0) → (∀ c, c ≠ 128 → σ1 c = σ c) → X κ NC 2 [some (.ref 113), some (.int (nI n)), some (.int (nI i)), o3, o4, o5] [] (hv σ1) := by
    intro m
    induction m with
    | zero => intro i σ1 o3 o4 o5 h1 h2; omega
    | succ m ih =>
      intro i σ1 o3 o4 o5 hi1 hi2 hz1 hF1
      refine x_iload2 G d_M_findOften_2 ?_
      refine x_bipush (v := nI 64) G d_M_findOften_3 rfl ?_
      refine x_icmp_ge G d_M_findOften_5 (fun c5 => ?_) (fun c5 => ?_)
      · have hi64 : i = 64 := by rw [nle (by omega) (by omega)] at c5; omega
        refine x_aload0 G d_M_findOften_21 ?_
        refine m_callV_pv (p_M_laysBy (kg κ) (d - 1) (by omega) σ1 S (by rw [hF1 114 (by decide)]; exact hS)) G d_M_findOften_22 lk_M_188 rfl ⟨by decide, rfl⟩ (by decide) (by omega) rfl (Nat.le_of_ble_eq_true rfl) hx (fun σ2 ⟨l1, l2⟩ => ?_)
        have hS2 : σ2 114 = S := by rw [l2 114 (by decide), hF1 114 (by decide)]; exact hS
        have hO2 : OutN σ σ2 := fun k _ _ _ _ e f _ _ _ _ => (l2 k e).trans (hF1 k f)
        refine x_iconst (v := nI 0) G d_M_findOften_25 rfl ?_
        refine x_istore2 G d_M_findOften_26 rfl hk ?_
        have hn : ∀ (m k : Nat) (σ3 : Sg) (o3 o4 o5 : Option Value), k ≤ n → n < k + m → σ3 114 = passN S (-1) k → OftAt σ3 (pK S k) → CloseOf S σ3 → OutN σ σ3 → X κ NC 27 [some (.ref 113), some (.int (nI n)), some (.int (nI k)), o3, o4, o5] [] (hv σ3) := by
          intro m
          induction m with
          | zero => intro k σ3 o3 o4 o5 h1 h2; omega
          | succ m ih2 =>
            intro k σ3 o3 o4 o5 hk1 hk2 hS3 hP3 l3 hO3
            obtain ⟨kI, k0, -, kz, kA, -⟩ := passN_keep hI (-1) k (by have := h9.2; omega)
            refine x_iload2 G d_M_findOften_27 ?_
            refine x_iload1 G d_M_findOften_28 ?_
            refine x_icmp_ge G d_M_findOften_29 (fun c29 => ?_) (fun c29 => ?_)
            · have hkn : k = n := by rw [nle (by omega) (by omega)] at c29; omega
              refine x_aload0 G d_M_findOften_116 ?_
              refine m_callV_pv (p_M_laysBack (kg κ) (d - 1) (by omega) σ3 S _ hS3 kA l3) G d_M_findOften_117 lk_M_194 rfl ⟨by decide, rfl⟩ (by decide) (by omega) rfl (Nat.le_of_ble_eq_true rfl) hx (fun σ8 ⟨b1, b2⟩ => ?_)
              exact m_vret E G d_M_findOften_120 hx rfl ⟨rfl, b1, (fun q hq => by rw [b2 128 (by decide), ← hkn]; exact hP3 q hq), (hO3.trans (fun k a _ _ _ _ _ _ _ _ _ => b2 k a))⟩
            · have hkn : k < n := by rw [nle (by omega) (by omega)] at c29; omega
              refine x_aload0 G d_M_findOften_32 ?_
              refine m_callV_pv (p_M_goesOn (kg κ) (d - 1) (by omega) σ3 _ hS3 kI (-1) (by rw [hO3 113 (by decide) (by decide) (by decide) (by decide) (by decide) (by decide) (by decide) (by decide) (by decide) (by decide)]; exact hab)) G d_M_findOften_33 lk_M_173 rfl ⟨by decide, rfl⟩ (by decide) (by omega) rfl (Nat.le_of_ble_eq_true rfl) hx (fun σ4 ⟨j1, j2, j3⟩ => ?_)
              obtain ⟨T, hT⟩ : ∃ z, sNoonT (passN S (-1) k) (-1) = z := ⟨_, rfl⟩
              have hTO : TOk T := by rw [← hT]; exact (sGosN_keep kI (-1)).2
              rw [hT] at j2
              have hO4 : OutN σ σ4 := hO3.trans (OutN.of j3)
              have l4 : CloseOf S σ4 := fun i hi => by rw [j3 127 (by decide) (by decide) (by decide) (by decide)]; exact l3 i hi
              refine x_iconst (v := nI 0) G d_M_findOften_36 rfl ?_
              refine x_istore3 G d_M_findOften_37 rfl hk ?_
              have h2 : ∀ (m i : Nat) (σ6 : Sg) (o4 o5 : Option Value), i ≤ 64 → 64 < i + m → (∀ c, c ≠ 128 → σ6 c = σ4 c) → OftAt σ6 (fun q => pK S k q + if q < i then dB T q else 0) → X κ NC 38 [some (.ref 113), some (.int (nI n)), some (.int (nI k)), some (.int (nI i)), o4, o5] [] (hv σ6) := by
                intro m
                induction m with
                | zero => intro i σ6 o4 o5 h1 h2; omega
                | succ m ih4 =>
                  intro i σ6 o4 o5 hj1 hj2 hF6 hP6
                  have hT6 : MT T σ6 := fun q hq => by rw [hF6 125 (by decide)]; exact j2 q hq
                  refine x_iload3 G d_M_findOften_38 ?_
                  refine x_bipush (v := nI 64) G d_M_findOften_39 rfl ?_
                  refine x_icmp_ge G d_M_findOften_41 (fun c41 => ?_) (fun c41 => ?_)
                  · have hi64b : i = 64 := by rw [nle (by omega) (by omega)] at c41; omega
                    refine x_iinc2 (v := nI (k + 1)) G d_M_findOften_110 rfl hk (nI_1 _) ?_
                    refine x_goto G d_M_findOften_113 ?_
                    exact ih2 (k + 1) _ _ _ _ (by omega) (by omega) (by rw [hF6 114 (by decide)]; exact j1) (fun q hq => by rw [hP6 q hq]; dsimp only; rw [if_pos (by omega), pK, hT]) (fun q hq => by rw [hF6 127 (by decide)]; exact l4 q hq) (hO4.trans (fun k _ _ _ _ _ f _ _ _ _ => hF6 k f))
                  · have hi64b : i < 64 := by rw [nle (by omega) (by omega)] at c41; omega
                    refine x_iload3 G d_M_findOften_44 ?_
                    refine x_bipush (v := nI 8) G d_M_findOften_45 rfl ?_
                    refine x_idiv G d_M_findOften_47 (by decide +kernel) ?_
                    rw [pk_div (by omega) (by decide) (by decide)]
                    refine x_istore4 G d_M_findOften_48 rfl hk ?_
                    refine x_iload3 G d_M_findOften_50 ?_
                    refine x_bipush (v := nI 8) G d_M_findOften_51 rfl ?_
                    refine x_irem G d_M_findOften_53 (by decide +kernel) ?_
                    rw [pk_rem (by omega) (by decide) (by decide)]
                    refine x_istore5 G d_M_findOften_54 rfl hk ?_
                    refine x_aload0 G d_M_findOften_56 ?_
                    refine m_getr G d_M_findOften_57 fl_M_56 rfl (by decide) rfl ?_
                    refine x_iload3 G d_M_findOften_60 ?_
                    refine x_dup2 G d_M_findOften_61 rfl rfl ?_
                    refine m_iald i G d_M_findOften_62 rfl rfl ⟨by omega, by first | decide | omega⟩ ?_
                    rw [hP6 i hi64b]
                    dsimp only
                    rw [if_neg (Nat.lt_irrefl i), Nat.add_zero]
                    refine x_iload4 G d_M_findOften_63 ?_
                    refine x_iload5 G d_M_findOften_65 ?_
                    refine x_icmp_ge G d_M_findOften_67 (fun c67 => ?_) (fun c67 => ?_)
                    · rw [nle (by omega) (by omega)] at c67
                      have hdb : dB T i = 0 := by unfold dB; rw [if_neg (by omega)]
                      refine x_iconst (v := nI 0) G d_M_findOften_101 rfl ?_
                      refine x_iadd G d_M_findOften_102 ?_
                      rw [nI_add]
                      refine m_iast_n i G d_M_findOften_103 rfl rfl ⟨by omega, by first | decide | omega⟩ (fun σ7 e7 => ?_)
                      refine x_iinc3 (v := nI (i + 1)) G d_M_findOften_104 rfl hk (nI_1 _) ?_
                      refine x_goto G d_M_findOften_107 ?_
                      exact ih4 (i + 1) σ7 _ _ (by omega) (by omega) (fun c hc => by rw [e7, updS_nk hc]; exact hF6 c hc) (fun q hq => if e : q = i then (by rw [e, e7, updS_at]; dsimp only; rw [if_pos (Nat.lt_succ_self i), hdb]) else (by rw [e7, updS_ne (by omega), hP6 q hq]; dsimp only; by_cases w : q < i; (rw [if_pos w, if_pos (by omega)]); (rw [if_neg w, if_neg (by omega)])))
                    · rw [nle (by omega) (by omega)] at c67
                      replace c67 := Nat.lt_of_not_le c67
                      refine x_aload0 G d_M_findOften_70 ?_
                      refine m_getr G d_M_findOften_71 fl_M_43 rfl (by decide) rfl ?_
                      refine x_iload4 G d_M_findOften_74 ?_
                      refine m_iald (i / 8) G d_M_findOften_76 rfl rfl ⟨by omega, by first | decide | omega⟩ ?_
                      rw [hT6 (i / 8) (by omega)]
                      refine x_if_lt G d_M_findOften_77 (fun c77 => ?_) (fun c77 => ?_)
                      · have hdb : dB T i = 0 := by unfold dB; rw [if_neg]; rintro ⟨-, z⟩; simp [togB, (hTO.neg (show i / 8 < 8 by omega)).mp c77] at z
                        refine x_iconst (v := nI 0) G d_M_findOften_101 rfl ?_
                        refine x_iadd G d_M_findOften_102 ?_
                        rw [nI_add]
                        refine m_iast_n i G d_M_findOften_103 rfl rfl ⟨by omega, by first | decide | omega⟩ (fun σ7 e7 => ?_)
                        refine x_iinc3 (v := nI (i + 1)) G d_M_findOften_104 rfl hk (nI_1 _) ?_
                        refine x_goto G d_M_findOften_107 ?_
                        exact ih4 (i + 1) σ7 _ _ (by omega) (by omega) (fun c hc => by rw [e7, updS_nk hc]; exact hF6 c hc) (fun q hq => if e : q = i then (by rw [e, e7, updS_at]; dsimp only; rw [if_pos (Nat.lt_succ_self i), hdb]) else (by rw [e7, updS_ne (by omega), hP6 q hq]; dsimp only; by_cases w : q < i; (rw [if_pos w, if_pos (by omega)]); (rw [if_neg w, if_neg (by omega)])))
                      · refine x_aload0 G d_M_findOften_80 ?_
                        refine m_getr G d_M_findOften_81 fl_M_43 rfl (by decide) rfl ?_
                        refine x_iload4 G d_M_findOften_84 ?_
                        refine m_iald (i / 8) G d_M_findOften_86 rfl rfl ⟨by omega, by first | decide | omega⟩ ?_
                        rw [hT6 (i / 8) (by omega)]
                        refine x_aload0 G d_M_findOften_87 ?_
                        refine m_getr G d_M_findOften_88 fl_M_43 rfl (by decide) rfl ?_
                        refine x_iload5 G d_M_findOften_91 ?_
                        refine m_iald (i % 8) G d_M_findOften_93 rfl rfl ⟨by omega, by first | decide | omega⟩ ?_
                        rw [hT6 (i % 8) (by omega)]
                        refine x_icmp_ne G d_M_findOften_94 (fun c94 => ?_) (fun c94 => ?_)
                        · have hdb : dB T i = 0 := by unfold dB; rw [if_neg]; rintro ⟨-, z⟩; simp [togB, c94] at z
                          refine x_iconst (v := nI 0) G d_M_findOften_101 rfl ?_
                          refine x_iadd G d_M_findOften_102 ?_
                          rw [nI_add]
                          refine m_iast_n i G d_M_findOften_103 rfl rfl ⟨by omega, by first | decide | omega⟩ (fun σ7 e7 => ?_)
                          refine x_iinc3 (v := nI (i + 1)) G d_M_findOften_104 rfl hk (nI_1 _) ?_
                          refine x_goto G d_M_findOften_107 ?_
                          exact ih4 (i + 1) σ7 _ _ (by omega) (by omega) (fun c hc => by rw [e7, updS_nk hc]; exact hF6 c hc) (fun q hq => if e : q = i then (by rw [e, e7, updS_at]; dsimp only; rw [if_pos (Nat.lt_succ_self i), hdb]) else (by rw [e7, updS_ne (by omega), hP6 q hq]; dsimp only; by_cases w : q < i; (rw [if_pos w, if_pos (by omega)]); (rw [if_neg w, if_neg (by omega)])))
                        · have hdb : dB T i = 1 := by unfold dB; rw [if_pos]; refine ⟨c67, ?_⟩; unfold togB; rw [decide_eq_true c94, decide_eq_false (fun z => c77 ((hTO.neg (show i / 8 < 8 by omega)).mpr z))]; rfl
                          refine x_iconst (v := nI 1) G d_M_findOften_97 rfl ?_
                          refine x_goto G d_M_findOften_98 ?_
                          refine x_iadd G d_M_findOften_102 ?_
                          rw [nI_add]
                          refine m_iast_n i G d_M_findOften_103 rfl rfl ⟨by omega, by first | decide | omega⟩ (fun σ7 e7 => ?_)
                          refine x_iinc3 (v := nI (i + 1)) G d_M_findOften_104 rfl hk (nI_1 _) ?_
                          refine x_goto G d_M_findOften_107 ?_
                          exact ih4 (i + 1) σ7 _ _ (by omega) (by omega) (fun c hc => by rw [e7, updS_nk hc]; exact hF6 c hc) (fun q hq => if e : q = i then (by rw [e, e7, updS_at]; dsimp only; rw [if_pos (Nat.lt_succ_self i), hdb]) else (by rw [e7, updS_ne (by omega), hP6 q hq]; dsimp only; by_cases w : q < i; (rw [if_pos w, if_pos (by omega)]); (rw [if_neg w, if_neg (by omega)])))
              exact h2 65 0 σ4 _ _ (by decide) (by decide) (fun _ _ => rfl) (fun q hq => by rw [j3 128 (by decide) (by decide) (by decide) (by decide), hP3 q hq]; rfl)
        exact hn (n + 1) 0 σ2 _ _ _ (by omega) (by omega) hS2 (fun q hq => by rw [l2 128 (by decide), hz1 q (by omega)]; rfl) l1 hO2
      · have hi64 : i < 64 := by rw [nle (by omega) (by omega)] at c5; omega
        refine x_aload0 G d_M_findOften_8 ?_
        refine m_getr G d_M_findOften_9 fl_M_56 rfl (by decide) rfl ?_
        refine x_iload2 G d_M_findOften_12 ?_
        refine x_iconst (v := nI 0) G d_M_findOften_13 rfl ?_
        refine m_iast_n i G d_M_findOften_14 rfl rfl ⟨by omega, by first | decide | omega⟩ (fun σ2 e2 => ?_)
        refine x_iinc2 (v := nI (i + 1)) G d_M_findOften_15 rfl hk (nI_1 _) ?_
        refine x_goto G d_M_findOften_18 ?_
        exact ih (i + 1) _ _ _ _ (by omega) (by omega) (fun q hq => if e : q = i then (by rw [e, e2, updS_at]) else (by rw [e2, updS_ne (by omega)]; exact hz1 q (by omega))) (fun c hc => by rw [e2, updS_nk hc]; exact hF1 c hc)
  exact hz 65 0 σ none none none (by decide) (by decide) (fun q hq => absurd hq (Nat.not_lt_zero q)) (fun _ _ => rfl)
theorem p_M_beside (g : CX) (d : Nat) (hd : 8 ≤ d) (σ : Sg) (S : Rw) (hO : MO S σ) (n what : Int32) : RunM g d M_beside [.ref 113, .int n, .int what] σ (PR (MC (fBeside S n what) σ)) := by
  refine RunM.of 2 (by decide +kernel) rfl ?_
  intro κ hg hx hk0 G E
  subst hg
  have hk : 5 ≤ kn κ := Nat.le_of_eq hk0.symm
  show X κ NC 0 [some (.ref 113), some (.int n), some (.int what), none, none] [] (hv σ)
  obtain ⟨hS, hI, hJ, h9, hab⟩ := hO
  have hn8 := hI.n
  refine x_iload1 G d_M_beside_0 ?_
  refine x_i2l G d_M_beside_1 ?_
  refine x_lconst (v := 1) G d_M_beside_2 rfl ?_
  refine x_ldc2 G d_M_beside_3 kc_M_208 ?_
  refine m_callS_pi (p_M_isIn (kg κ) (d - 1) (Nat.zero_le _) _ _ (nI 1) (nI 60) _ _ _ rfl (by decide +kernel) (by decide +kernel)) G d_M_beside_6 lk_M_82 (by omega) rfl (Nat.le_of_ble_eq_true rfl) hx ?_
  refine x_if_eq G d_M_beside_9 (fun c9 => ?_) (fun c9 => ?_)
  · replace c9 := bI_0.mp c9
    refine x_ldc G d_M_beside_22 kc_M_98 ?_
    exact m_iret E G d_M_beside_24 hx rfl rfl ⟨_, rfl, MC.same hS (by simp only [fBeside, c9, Bool.and_true, Bool.true_and, Bool.and_false, Bool.false_and, Bool.or_true, Bool.true_or, Bool.or_false, Bool.false_or, Bool.not_true, Bool.not_false, Bool.false_eq_true, decide_true, decide_false, if_true, if_false])⟩
  · replace c9 := bI_n0.mp c9
    obtain ⟨j, hj1, hj2, tj, rfl⟩ := inB_1 (by decide) c9
    refine x_iload2 G d_M_beside_12 ?_
    refine x_i2l G d_M_beside_13 ?_
    refine x_lconst (v := 0) G d_M_beside_14 rfl ?_
    refine x_lconst (v := 1) G d_M_beside_15 rfl ?_
    refine m_callS_pi (p_M_isUp (kg κ) (d - 1) _ _ 1 _ _ _ rfl (by decide +kernel) (by decide +kernel)) G d_M_beside_16 lk_M_82 (by omega) rfl (Nat.le_of_ble_eq_true rfl) hx ?_
    refine x_if_ne G d_M_beside_19 (fun c19 => ?_) (fun c19 => ?_)
    · replace c19 := bI_n0.mp c19
      refine x_aload0 G d_M_beside_25 ?_
      refine x_iload1 G d_M_beside_26 ?_
      refine m_callV_pv (p_M_findOften (kg κ) (d - 1) (by omega) σ S ⟨hS, hI, hJ, h9, hab⟩ j (by omega)) G d_M_beside_27 lk_M_210 rfl ⟨by decide, rfl⟩ (by decide) (by omega) rfl (Nat.le_of_ble_eq_true rfl) hx (fun σ1 ⟨g0, g1, g2⟩ => ?_)
      refine x_iconst (v := nI 0) G d_M_beside_30 rfl ?_
      refine x_istore3 G d_M_beside_31 rfl hk ?_
      refine x_iconst (v := nI 0) G d_M_beside_32 rfl ?_
      refine x_istore4 G d_M_beside_33 rfl hk ?_
      have hloop : ∀ (m i : Nat), i ≤ 64 → 64 < i + m → X κ NC 35 [some (.ref 113), some (.int (nI j)), some (.int what), some (.int (nI (mxN (pK S j) i))), some (.int (nI i))] [] (hv σ1) := by
        intro m
        induction m with
        | zero => intro i h1 h2; omega
        | succ m ih =>
          intro i hi1 hi2
          have hmx := mxN_64 (pK S j) i hi1
          refine x_iload4 G d_M_beside_35 ?_
          refine x_bipush (v := nI 64) G d_M_beside_37 rfl ?_
          refine x_icmp_ge G d_M_beside_39 (fun c39 => ?_) (fun c39 => ?_)
          · replace c39 := Int32.not_lt.mpr c39
            have hi64 : i = 64 := by rw [nlt (by omega) (by decide)] at c39; omega
            refine x_aload0 G d_M_beside_71 ?_
            refine m_getr G d_M_beside_72 fl_M_56 rfl (by decide) rfl ?_
            refine x_iload3 G d_M_beside_75 ?_
            refine m_iald (mxN (pK S j) i) G d_M_beside_76 rfl rfl ⟨by omega, by first | decide | omega⟩ ?_
            rw [g1 _ hmx]
            refine x_if_ne G d_M_beside_77 (fun c77 => ?_) (fun c77 => ?_)
            · have hne : ¬ pK S j (mxN (pK S j) 64) = 0 := by rw [← hi64]; exact fun z => c77 (by rw [z]; rfl)
              refine x_iload2 G d_M_beside_85 ?_
              refine x_if_ne G d_M_beside_86 (fun c86 => ?_) (fun c86 => ?_)
              · refine x_aload0 G d_M_beside_104 ?_
                refine m_getr G d_M_beside_105 fl_M_56 rfl (by decide) rfl ?_
                refine x_iload3 G d_M_beside_108 ?_
                refine m_iald (mxN (pK S j) i) G d_M_beside_109 rfl rfl ⟨by omega, by first | decide | omega⟩ ?_
                rw [g1 _ hmx]
                exact m_iret E G d_M_beside_110 hx rfl rfl ⟨_, rfl, MC.mk' (S1 := S) (v1 := nI (pK S j (mxN (pK S j) 64))) (by simp only [fBeside, c9, c19, tj, Bool.and_true, if_true, hne, c86, if_false]) (by rw [hi64]) g0 g2⟩
              · refine x_bipush (v := nI 10) G d_M_beside_89 rfl ?_
                refine x_iload3 G d_M_beside_91 ?_
                refine x_bipush (v := nI 8) G d_M_beside_92 rfl ?_
                refine x_idiv G d_M_beside_94 (by decide +kernel) ?_
                refine x_imul G d_M_beside_95 ?_
                refine x_iload3 G d_M_beside_96 ?_
                refine x_bipush (v := nI 8) G d_M_beside_97 rfl ?_
                refine x_irem G d_M_beside_99 (by decide +kernel) ?_
                refine x_iadd G d_M_beside_100 ?_
                refine x_goto G d_M_beside_101 ?_
                exact m_iret E G d_M_beside_110 hx rfl rfl ⟨_, rfl, MC.mk' (S1 := S) (v1 := nI (10 * (mxN (pK S j) 64 / 8) + mxN (pK S j) 64 % 8)) (by simp only [fBeside, c9, c19, tj, Bool.and_true, if_true, hne, eq_true c86, if_false]) (by rw [hi64, pk_rem (by have := mxN_64 (pK S j) 64 (by decide); omega) (by decide) (by decide), pk_div (by have := mxN_64 (pK S j) 64 (by decide); omega) (by decide) (by decide), pk_mul, nI_add]) g0 g2⟩
            · have hne : pK S j (mxN (pK S j) 64) = 0 := by rw [← hi64]; exact (n0e (by have := pK_le S j (mxN (pK S j) i); omega)).mp c77
              refine x_ldc G d_M_beside_80 kc_M_81 ?_
              refine x_goto G d_M_beside_82 ?_
              exact m_iret E G d_M_beside_110 hx rfl rfl ⟨_, rfl, MC.mk' (S1 := S) (v1 := -1000000005) (by simp only [fBeside, c9, c19, tj, Bool.and_true, if_true, hne]) rfl g0 g2⟩
          · replace c39 := Int32.not_le.mp c39
            have hi64 : i < 64 := by rw [nlt (by omega) (by decide)] at c39; omega
            refine x_aload0 G d_M_beside_42 ?_
            refine m_getr G d_M_beside_43 fl_M_56 rfl (by decide) rfl ?_
            refine x_iload4 G d_M_beside_46 ?_
            refine m_iald i G d_M_beside_48 rfl rfl ⟨by omega, by first | decide | omega⟩ ?_
            rw [g1 i hi64]
            refine x_aload0 G d_M_beside_49 ?_
            refine m_getr G d_M_beside_50 fl_M_56 rfl (by decide) rfl ?_
            refine x_iload3 G d_M_beside_53 ?_
            refine m_iald (mxN (pK S j) i) G d_M_beside_54 rfl rfl ⟨by omega, by first | decide | omega⟩ ?_
            rw [g1 _ hmx]
            refine x_icmp_le G d_M_beside_55 (fun c55 => ?_) (fun c55 => ?_)
            · replace c55 := Int32.not_lt.mpr c55
              have hmn : mxN (pK S j) (i + 1) = mxN (pK S j) i := by rw [mxN, if_neg (fun z => c55 ((nlt (by have := pK_le S j (mxN (pK S j) i); omega) (by have := pK_le S j i; omega)).mpr z))]
              refine x_iload3 G d_M_beside_63 ?_
              refine x_istore3 G d_M_beside_64 rfl hk ?_
              refine x_iinc4 (v := nI (i + 1)) G d_M_beside_65 rfl hk (nI_1 _) ?_
              refine x_goto G d_M_beside_68 ?_
              have ih2 := ih (i + 1) (by omega) (by omega); rw [hmn] at ih2; exact ih2
            · replace c55 := Int32.not_le.mp c55
              have hmn : mxN (pK S j) (i + 1) = i := by rw [mxN, if_pos ((nlt (by have := pK_le S j (mxN (pK S j) i); omega) (by have := pK_le S j i; omega)).mp c55)]
              refine x_iload4 G d_M_beside_58 ?_
              refine x_goto G d_M_beside_60 ?_
              refine x_istore3 G d_M_beside_64 rfl hk ?_
              refine x_iinc4 (v := nI (i + 1)) G d_M_beside_65 rfl hk (nI_1 _) ?_
              refine x_goto G d_M_beside_68 ?_
              have ih2 := ih (i + 1) (by omega) (by omega); rw [hmn] at ih2; exact ih2
      exact hloop 65 0 (by decide) (by decide)
    · replace c19 := bI_0.mp c19
      refine x_ldc G d_M_beside_22 kc_M_98 ?_
      exact m_iret E G d_M_beside_24 hx rfl rfl ⟨_, rfl, MC.same hS (by simp only [fBeside, c9, tj, c19, Bool.and_true, Bool.true_and, Bool.and_false, Bool.false_and, Bool.or_true, Bool.true_or, Bool.or_false, Bool.false_or, Bool.not_true, Bool.not_false, Bool.false_eq_true, decide_true, decide_false, if_true, if_false])⟩
theorem p_M_toll (g : CX) (d : Nat) (hd : 3 ≤ d) (σ : Sg) (S : Rw) (hO : MO S σ)  : RunM g d M_toll [.ref 113] σ (PR (MC (fToll S ) σ)) := by
  refine RunM.of 1 (by decide +kernel) rfl ?_
  intro κ hg hx hk0 G E
  subst hg
  have hk : 2 ≤ kn κ := Nat.le_of_eq hk0.symm
  show X κ NC 0 [some (.ref 113), none] [] (hv σ)
  obtain ⟨hS, hI, hJ, h9, hab⟩ := hO
  have hn8 := hI.n
  refine x_aload0 G d_M_toll_0 ?_
  refine x_iconst (v := nI 1) G d_M_toll_1 rfl ?_
  refine m_callV_pi (p_M_counts (kg κ) (d - 1) (by omega) σ S hS hI 1) G d_M_toll_2 lk_M_116 rfl ⟨by decide, rfl⟩ (by decide) (by omega) rfl (Nat.le_of_ble_eq_true rfl) hx ?_
  refine x_istore1 G d_M_toll_5 rfl hk ?_
  refine x_iload1 G d_M_toll_6 ?_
  refine x_if_ge G d_M_toll_7 (fun c7 => ?_) (fun c7 => ?_)
  · replace c7 := Int32.not_lt.mpr c7
    rcases cnt_cases S 1 with ht | ⟨t, ht1, ht2, ht3⟩
    · exact absurd (by rw [ht]; decide) c7
    obtain ⟨hTV, ht14⟩ := hI.txt ht1
    refine x_aload0 G d_M_toll_17 ?_
    refine m_getr G d_M_toll_18 fl_M_62 rfl (by decide) rfl ?_
    refine x_bipush (v := nI 115) G d_M_toll_21 rfl ?_
    refine x_aload0 G d_M_toll_23 ?_
    refine m_getr G d_M_toll_24 fl_M_7 rfl (by decide) rfl ?_
    refine x_iconst (v := nI 3) G d_M_toll_27 rfl ?_
    refine m_iald 3 G d_M_toll_28 rfl rfl ⟨by omega, by first | decide | omega⟩ ?_
    rw [hS]
    refine m_iast_n 115 G d_M_toll_29 rfl rfl ⟨by omega, by first | decide | omega⟩ (fun σ2 e2 => ?_)
    refine x_aload0 G d_M_toll_30 ?_
    refine m_getr G d_M_toll_31 fl_M_62 rfl (by decide) rfl ?_
    refine x_bipush (v := nI 108) G d_M_toll_34 rfl ?_
    refine x_aload0 G d_M_toll_36 ?_
    refine m_getr G d_M_toll_37 fl_M_7 rfl (by decide) rfl ?_
    refine x_iconst (v := nI 4) G d_M_toll_40 rfl ?_
    refine m_iald 4 G d_M_toll_41 rfl rfl ⟨by omega, by first | decide | omega⟩ ?_
    rw [show σ2 114 = S by rw [e2, updS_nk (by decide)]; exact hS]
    refine m_iast_n 108 G d_M_toll_42 rfl rfl ⟨by omega, by first | decide | omega⟩ (fun σ3 e3 => ?_)
    refine x_aload0 G d_M_toll_43 ?_
    refine x_iload1 G d_M_toll_44 ?_
    rw [ht2]
    have hS3 : σ3 114 = S := by rw [e3, updS_nk (by decide), e2, updS_nk (by decide)]; exact hS
    have n1 : σ3 130 115 = S 3 := by rw [e3, updS_ne (by decide), e2, updS_at]
    have n2 : σ3 130 108 = S 4 := by rw [e3, updS_at]
    refine m_callV_pr (p_M_worked (kg κ) (d - 1) (by omega) σ3 S hS3 t ht14 hTV) G d_M_toll_45 lk_M_120 rfl ⟨by decide, rfl⟩ (by decide) (by omega) rfl (Nat.le_of_ble_eq_true rfl) hx (fun v4 σ4 ⟨hv4, hF4⟩ => ?_)
    exact m_iret E G d_M_toll_48 hx rfl rfl ⟨_, rfl, MC.mk' (S1 := S) (v1 := ev S (tn (cnt S 1)) (nmf 1 (S 3) (S 4) 0)) (by simp only [fToll, c7, Bool.and_true, Bool.true_and, Bool.and_false, Bool.false_and, Bool.or_true, Bool.true_or, Bool.or_false, Bool.false_or, Bool.not_true, Bool.not_false, Bool.false_eq_true, decide_true, decide_false, if_true, if_false]) (by rw [hv4, ht2, tn_nI (show t < 2 ^ 31 by omega)]; exact ev_cong hTV (fun c hc => nmf1 n1 n2 _ (by rw [ht3, tn_nI (by decide)] at hc; exact hc))) (by rw [hF4 114 (by decide)]; exact hS3) (fun k _ _ _ _ _ _ h1 h2 _ _ => by rw [hF4 k h2, e3, updS_nk h1, e2, updS_nk h1])⟩
  · replace c7 := Int32.not_le.mp c7
    refine x_aload0 G d_M_toll_10 ?_
    refine m_getr G d_M_toll_11 fl_M_7 rfl (by decide) rfl ?_
    refine x_iconst (v := nI 3) G d_M_toll_14 rfl ?_
    refine m_iald 3 G d_M_toll_15 rfl rfl ⟨by omega, by first | decide | omega⟩ ?_
    rw [hS]
    exact m_iret E G d_M_toll_16 hx rfl rfl ⟨_, rfl, MC.same hS (by simp only [fToll, c7, Bool.and_true, Bool.true_and, Bool.and_false, Bool.false_and, Bool.or_true, Bool.true_or, Bool.or_false, Bool.false_or, Bool.not_true, Bool.not_false, Bool.false_eq_true, decide_true, decide_false, if_true, if_false])⟩
theorem p_M_fine (g : CX) (d : Nat) (hd : 3 ≤ d) (σ : Sg) (S : Rw) (hO : MO S σ) (one : Int32) : RunM g d M_fine [.ref 113, .int one] σ (PR (MC (fFine S one) σ)) := by
  refine RunM.of 1 (by decide +kernel) rfl ?_
  intro κ hg hx hk0 G E
  subst hg
  have hk : 3 ≤ kn κ := Nat.le_of_eq hk0.symm
  show X κ NC 0 [some (.ref 113), some (.int one), none] [] (hv σ)
  obtain ⟨hS, hI, hJ, h9, hab⟩ := hO
  have hn8 := hI.n
  refine x_aload0 G d_M_fine_0 ?_
  refine x_iload1 G d_M_fine_1 ?_
  refine m_callV_pi (p_M_isOn (kg κ) (d - 1) (by omega) _ S hS hI _) G d_M_fine_2 lk_M_126 rfl ⟨by decide, rfl⟩ (by decide) (by omega) rfl (Nat.le_of_ble_eq_true rfl) hx ?_
  refine x_if_ne G d_M_fine_5 (fun c5 => ?_) (fun c5 => ?_)
  · replace c5 := bI_n0.mp c5
    obtain ⟨p, hp, hpn, tp, rfl⟩ := one_ex hI c5
    refine x_aload0 G d_M_fine_11 ?_
    refine x_iconst (v := nI 2) G d_M_fine_12 rfl ?_
    refine m_callV_pi (p_M_counts (kg κ) (d - 1) (by omega) σ S hS hI 2) G d_M_fine_13 lk_M_116 rfl ⟨by decide, rfl⟩ (by decide) (by omega) rfl (Nat.le_of_ble_eq_true rfl) hx ?_
    refine x_istore2 G d_M_fine_16 rfl hk ?_
    refine x_iload2 G d_M_fine_17 ?_
    refine x_if_ge G d_M_fine_18 (fun c18 => ?_) (fun c18 => ?_)
    · replace c18 := Int32.not_lt.mpr c18
      rcases cnt_cases S 2 with ht | ⟨t, ht1, ht2, ht3⟩
      · exact absurd (by rw [ht]; decide) c18
      obtain ⟨hTV, ht14⟩ := hI.txt ht1
      refine x_aload0 G d_M_fine_28 ?_
      refine m_getr G d_M_fine_29 fl_M_62 rfl (by decide) rfl ?_
      refine x_bipush (v := nI 104) G d_M_fine_32 rfl ?_
      refine x_aload0 G d_M_fine_34 ?_
      refine x_iload1 G d_M_fine_35 ?_
      refine x_iconst (v := nI 4) G d_M_fine_36 rfl ?_
      refine m_callV_pi (p_M_ofS (kg κ) (d - 1) _ S hS _ _ (by omega) (by first | decide | omega)) G d_M_fine_37 lk_M_107 rfl ⟨by decide, rfl⟩ (by decide) (by omega) rfl (Nat.le_of_ble_eq_true rfl) hx ?_
      refine m_iast_n 104 G d_M_fine_40 rfl rfl ⟨by omega, by first | decide | omega⟩ (fun σ2 e2 => ?_)
      refine x_aload0 G d_M_fine_41 ?_
      refine m_getr G d_M_fine_42 fl_M_62 rfl (by decide) rfl ?_
      refine x_bipush (v := nI 99) G d_M_fine_45 rfl ?_
      refine x_aload0 G d_M_fine_47 ?_
      refine x_iload1 G d_M_fine_48 ?_
      refine x_iconst (v := nI 5) G d_M_fine_49 rfl ?_
      refine m_callV_pi (p_M_ofS (kg κ) (d - 1) σ2 S (by rw [e2, updS_nk (by decide)]; exact hS) _ _ (by omega) (by decide)) G d_M_fine_50 lk_M_107 rfl ⟨by decide, rfl⟩ (by decide) (by omega) rfl (Nat.le_of_ble_eq_true rfl) hx ?_
      refine m_iast_n 99 G d_M_fine_53 rfl rfl ⟨by omega, by first | decide | omega⟩ (fun σ3 e3 => ?_)
      refine x_aload0 G d_M_fine_54 ?_
      refine x_iload2 G d_M_fine_55 ?_
      rw [ht2]
      have hS3 : σ3 114 = S := by rw [e3, updS_nk (by decide), e2, updS_nk (by decide)]; exact hS
      have n1 : σ3 130 104 = S (ixP p 4) := by rw [e3, updS_ne (by decide), e2, updS_at]
      have n2 : σ3 130 99 = S (ixP p 5) := by rw [e3, updS_at]
      refine m_callV_pr (p_M_worked (kg κ) (d - 1) (by omega) σ3 S hS3 t ht14 hTV) G d_M_fine_56 lk_M_120 rfl ⟨by decide, rfl⟩ (by decide) (by omega) rfl (Nat.le_of_ble_eq_true rfl) hx (fun v4 σ4 ⟨hv4, hF4⟩ => ?_)
      exact m_iret E G d_M_fine_59 hx rfl rfl ⟨_, rfl, MC.mk' (S1 := S) (v1 := ev S (tn (cnt S 2)) (nmf 2 (S (ixP p 4)) (S (ixP p 5)) 0)) (by simp only [fFine, c5, tp, c18, Bool.and_true, Bool.true_and, Bool.and_false, Bool.false_and, Bool.or_true, Bool.true_or, Bool.or_false, Bool.false_or, Bool.not_true, Bool.not_false, Bool.false_eq_true, decide_true, decide_false, if_true, if_false]) (by rw [hv4, ht2, tn_nI (show t < 2 ^ 31 by omega)]; exact ev_cong hTV (fun c hc => nmf2 n1 n2 _ (by rw [ht3, tn_nI (by decide)] at hc; exact hc))) (by rw [hF4 114 (by decide)]; exact hS3) (fun k _ _ _ _ _ _ h1 h2 _ _ => by rw [hF4 k h2, e3, updS_nk h1, e2, updS_nk h1])⟩
    · replace c18 := Int32.not_le.mp c18
      refine x_aload0 G d_M_fine_21 ?_
      refine x_iload1 G d_M_fine_22 ?_
      refine x_iconst (v := nI 4) G d_M_fine_23 rfl ?_
      refine m_callV_pi (p_M_ofS (kg κ) (d - 1) _ S hS _ _ (by omega) (by first | decide | omega)) G d_M_fine_24 lk_M_107 rfl ⟨by decide, rfl⟩ (by decide) (by omega) rfl (Nat.le_of_ble_eq_true rfl) hx ?_
      exact m_iret E G d_M_fine_27 hx rfl rfl ⟨_, rfl, MC.same hS (by simp only [fFine, c5, tp, c18, Bool.and_true, Bool.true_and, Bool.and_false, Bool.false_and, Bool.or_true, Bool.true_or, Bool.or_false, Bool.false_or, Bool.not_true, Bool.not_false, Bool.false_eq_true, decide_true, decide_false, if_true, if_false])⟩
  · replace c5 := bI_0.mp c5
    refine x_ldc G d_M_fine_8 kc_M_98 ?_
    exact m_iret E G d_M_fine_10 hx rfl rfl ⟨_, rfl, MC.same hS (by simp only [fFine, c5, Bool.and_true, Bool.true_and, Bool.and_false, Bool.false_and, Bool.or_true, Bool.true_or, Bool.or_false, Bool.false_or, Bool.not_true, Bool.not_false, Bool.false_eq_true, decide_true, decide_false, if_true, if_false])⟩
theorem p_M_why (g : CX) (d : Nat) (hd : 3 ≤ d) (σ : Sg) (S : Rw) (hO : MO S σ) (key : Int32) : RunM g d M_why [.ref 113, .int key] σ (PR (MC (fWhy S key) σ)) := by
  refine RunM.of 0 (by decide +kernel) rfl ?_
  intro κ hg hx hk0 G E
  subst hg
  have hk : 2 ≤ kn κ := Nat.le_of_eq hk0.symm
  show X κ NC 0 [some (.ref 113), some (.int key)] [] (hv σ)
  obtain ⟨hS, hI, hJ, h9, hab⟩ := hO
  have hn8 := hI.n
  refine x_iload1 G d_M_why_0 ?_
  refine x_i2l G d_M_why_1 ?_
  refine x_lconst (v := 0) G d_M_why_2 rfl ?_
  refine x_ldc2 G d_M_why_3 kc_M_148 ?_
  refine m_callS_pi (p_M_isUp (kg κ) (d - 1) _ _ 2 _ _ _ rfl (by decide +kernel) (by decide +kernel)) G d_M_why_6 lk_M_82 (by omega) rfl (Nat.le_of_ble_eq_true rfl) hx ?_
  refine x_if_eq G d_M_why_9 (fun c9 => ?_) (fun c9 => ?_)
  · replace c9 := bI_0.mp c9
    refine x_ldc G d_M_why_23 kc_M_98 ?_
    exact m_iret E G d_M_why_25 hx rfl rfl ⟨_, rfl, MC.same hS (by simp only [fWhy, c9, Bool.and_true, Bool.true_and, Bool.and_false, Bool.false_and, Bool.or_true, Bool.true_or, Bool.or_false, Bool.false_or, Bool.not_true, Bool.not_false, Bool.false_eq_true, decide_true, decide_false, if_true, if_false])⟩
  · replace c9 := bI_n0.mp c9
    obtain ⟨j, hj, tj, rfl⟩ := upB_ex (by decide) c9
    refine x_aload0 G d_M_why_12 ?_
    refine x_iload1 G d_M_why_13 ?_
    refine m_callV_pi (p_M_counts (kg κ) (d - 1) (by omega) σ S hS hI j) G d_M_why_14 lk_M_116 rfl ⟨by decide, rfl⟩ (by decide) (by omega) rfl (Nat.le_of_ble_eq_true rfl) hx ?_
    refine m_callS_pi (p_M_orNone (kg κ) (d - 1) (by omega) _ _) G d_M_why_17 lk_M_205 (by omega) rfl (Nat.le_of_ble_eq_true rfl) hx ?_
    refine x_goto G d_M_why_20 ?_
    exact m_iret E G d_M_why_25 hx rfl rfl ⟨_, rfl, MC.same hS (by simp only [fWhy, c9, tj, Bool.and_true, Bool.true_and, Bool.and_false, Bool.false_and, Bool.or_true, Bool.true_or, Bool.or_false, Bool.false_or, Bool.not_true, Bool.not_false, Bool.false_eq_true, decide_true, decide_false, if_true, if_false])⟩
