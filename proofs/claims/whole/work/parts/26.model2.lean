/-! noons, year, deal: the model's side -/
theorem p_M_allCorn (g : CX) (d : Nat) (hd : 1 ≤ d) (σ : Sg) (S : Rw) (hS : σ 114 = S) : RunM g d M_allCorn [.ref 113] σ (PI (sumN (fun f => S (ixF f 1)) 9) σ) := by
  refine RunM.of 2 (by decide +kernel) rfl ?_
  intro κ hg hx hk0 G E
  subst hg
  have hk : 3 ≤ kn κ := Nat.le_of_eq hk0.symm
  show X κ NC 0 [some (.ref 113), none, none] [] (hv σ)
  refine x_iconst (v := nI 0) G d_M_allCorn_0 rfl ?_
  refine x_istore1 G d_M_allCorn_1 rfl hk ?_
  refine x_iconst (v := nI 0) G d_M_allCorn_2 rfl ?_
  refine x_istore2 G d_M_allCorn_3 rfl hk ?_
  have hloop : ∀ (m i : Nat), i ≤ 9 → 9 < i + m → X κ NC 4 [some (.ref 113), some (.int (sumN (fun f => S (ixF f 1)) i)), some (.int (nI i))] [] (hv σ) := by
    intro m
    induction m with
    | zero => intro i h1 h2; omega
    | succ m ih =>
      intro i hi1 hi2
      refine x_iload2 G d_M_allCorn_4 ?_
      refine x_bipush (v := nI 9) G d_M_allCorn_5 rfl ?_
      refine x_icmp_ge G d_M_allCorn_7 (fun c7 => ?_) (fun c7 => ?_)
      · have hi9 : i = 9 := by rw [nle (by decide) (by omega)] at c7; omega
        refine x_iload1 G d_M_allCorn_25 ?_
        exact m_iret E G d_M_allCorn_26 hx rfl rfl (pi_of (by rw [hi9]))
      · have hi9 : i < 9 := by rw [nle (by decide) (by omega)] at c7; omega
        refine x_iload1 G d_M_allCorn_10 ?_
        refine x_aload0 G d_M_allCorn_11 ?_
        refine x_iload2 G d_M_allCorn_12 ?_
        refine x_iconst (v := nI 1) G d_M_allCorn_13 rfl ?_
        refine m_callV_pi (p_M_inS (kg κ) (d - 1) _ S hS _ _ (by omega) (by first | decide | omega)) G d_M_allCorn_14 lk_M_113 rfl ⟨by decide, rfl⟩ (by decide) (by omega) rfl (Nat.le_of_ble_eq_true rfl) hx ?_
        refine x_iadd G d_M_allCorn_17 ?_
        refine x_istore1 G d_M_allCorn_18 rfl hk ?_
        refine x_iinc2 (v := nI (i + 1)) G d_M_allCorn_19 rfl hk (nI_1 _) ?_
        refine x_goto G d_M_allCorn_22 ?_
        exact ih (i + 1) (by omega) (by omega)
  exact hloop 10 0 (Nat.zero_le _) (by omega)
theorem p_M_allOf (g : CX) (d : Nat) (hd : 1 ≤ d) (σ : Sg) (S : Rw) (hS : σ 114 = S) (hI : Inv S) (c : Nat) (hc7 : c < 7) (h0 : ∀ p, tn (S 0) ≤ p → p < 8 → S (ixP p c) = 0) : RunM g d M_allOf [.ref 113, .int (nI c)] σ (PI (sumN (fun p => S (ixP p c)) 8) σ) := by
  refine RunM.of 2 (by decide +kernel) rfl ?_
  intro κ hg hx hk0 G E
  subst hg
  have hk : 4 ≤ kn κ := Nat.le_of_eq hk0.symm
  show X κ NC 0 [some (.ref 113), some (.int (nI c)), none, none] [] (hv σ)
  have hn8 := hI.n
  refine x_iconst (v := nI 0) G d_M_allOf_0 rfl ?_
  refine x_istore2 G d_M_allOf_1 rfl hk ?_
  refine x_iconst (v := nI 0) G d_M_allOf_2 rfl ?_
  refine x_istore3 G d_M_allOf_3 rfl hk ?_
  have hloop : ∀ (m i : Nat), i ≤ tn (S 0) → tn (S 0) < i + m → X κ NC 4 [some (.ref 113), some (.int (nI c)), some (.int (sumN (fun p => S (ixP p c)) i)), some (.int (nI i))] [] (hv σ) := by
    intro m
    induction m with
    | zero => intro i h1 h2; omega
    | succ m ih =>
      intro i hi1 hi2
      refine x_iload3 G d_M_allOf_4 ?_
      refine x_aload0 G d_M_allOf_5 ?_
      refine m_getr G d_M_allOf_6 fl_M_7 rfl (by decide) rfl ?_
      refine x_iconst (v := nI 0) G d_M_allOf_9 rfl ?_
      refine m_iald 0 G d_M_allOf_10 rfl rfl ⟨by omega, by first | decide | omega⟩ ?_
      rw [show σ 114 0 = nI (tn (S 0)) by rw [hS]; exact hn8.1]
      refine x_icmp_ge G d_M_allOf_11 (fun c11 => ?_) (fun c11 => ?_)
      · have hin : i = tn (S 0) := by rw [nle (by omega) (by omega)] at c11; omega
        refine x_iload2 G d_M_allOf_29 ?_
        exact m_iret E G d_M_allOf_30 hx rfl rfl (pi_of (by rw [hin]; exact sumN_n8 hn8.2 (fun i a b => h0 i a b)))
      · have hin : i < tn (S 0) := by rw [nle (by omega) (by omega)] at c11; omega
        refine x_iload2 G d_M_allOf_14 ?_
        refine x_aload0 G d_M_allOf_15 ?_
        refine x_iload3 G d_M_allOf_16 ?_
        refine x_iload1 G d_M_allOf_17 ?_
        refine m_callV_pi (p_M_ofS (kg κ) (d - 1) _ S hS _ _ (by omega) (by first | decide | omega)) G d_M_allOf_18 lk_M_107 rfl ⟨by decide, rfl⟩ (by decide) (by omega) rfl (Nat.le_of_ble_eq_true rfl) hx ?_
        refine x_iadd G d_M_allOf_21 ?_
        refine x_istore2 G d_M_allOf_22 rfl hk ?_
        refine x_iinc3 (v := nI (i + 1)) G d_M_allOf_23 rfl hk (nI_1 _) ?_
        refine x_goto G d_M_allOf_26 ?_
        exact ih (i + 1) (by omega) (by omega)
  exact hloop (tn (S 0) + 1) 0 (Nat.zero_le _) (by omega)
theorem p_M_year (g : CX) (d : Nat) (hd : 2 ≤ d) (σ : Sg) (S : Rw) (hO : MO S σ) (what : Int32) : RunM g d M_year [.ref 113, .int what] σ (PR (MC (fYear S what) σ)) := by
  refine RunM.of 0 (by decide +kernel) rfl ?_
  intro κ hg hx hk0 G E
  subst hg
  have hk : 2 ≤ kn κ := Nat.le_of_eq hk0.symm
  show X κ NC 0 [some (.ref 113), some (.int what)] [] (hv σ)
  obtain ⟨hS, hI, hJ, h9, hab⟩ := hO
  have hn8 := hI.n
  refine x_iload1 G d_M_year_0 ?_
  rcases sw5 what with rfl | rfl | rfl | rfl | rfl | hsw
  · show X κ NC 1 _ _ _
    refine x_tabIn (35) 36 G d_M_year_1 (by decide +kernel) (by decide +kernel) (by decide +kernel) rfl ?_
    refine x_aload0 G d_M_year_36 ?_
    refine m_getr G d_M_year_37 fl_M_7 rfl (by decide) rfl ?_
    refine x_iconst (v := nI 3) G d_M_year_40 rfl ?_
    refine m_iald 3 G d_M_year_41 rfl rfl ⟨by omega, by first | decide | omega⟩ ?_
    rw [hS]
    exact m_iret E G d_M_year_42 hx rfl rfl ⟨_, rfl, MC.same hS (by unfold fYear; rw [if_pos rfl])⟩
  · show X κ NC 1 _ _ _
    refine x_tabIn (42) 43 G d_M_year_1 (by decide +kernel) (by decide +kernel) (by decide +kernel) rfl ?_
    refine x_aload0 G d_M_year_43 ?_
    refine m_getr G d_M_year_44 fl_M_7 rfl (by decide) rfl ?_
    refine x_iconst (v := nI 4) G d_M_year_47 rfl ?_
    refine m_iald 4 G d_M_year_48 rfl rfl ⟨by omega, by first | decide | omega⟩ ?_
    rw [hS]
    exact m_iret E G d_M_year_49 hx rfl rfl ⟨_, rfl, MC.same hS (by unfold fYear; rw [if_neg (show ¬ nI 1 = nI 0 by decide), if_pos rfl])⟩
  · show X κ NC 1 _ _ _
    refine x_tabIn (49) 50 G d_M_year_1 (by decide +kernel) (by decide +kernel) (by decide +kernel) rfl ?_
    refine x_aload0 G d_M_year_50 ?_
    refine m_callV_pi (p_M_allCorn (kg κ) (d - 1) (by omega) σ S hS) G d_M_year_51 lk_M_176 rfl ⟨by decide, rfl⟩ (by decide) (by omega) rfl (Nat.le_of_ble_eq_true rfl) hx ?_
    exact m_iret E G d_M_year_54 hx rfl rfl ⟨_, rfl, MC.same hS (by unfold fYear; rw [if_neg (show ¬ nI 2 = nI 0 by decide), if_neg (show ¬ nI 2 = nI 1 by decide), if_pos rfl])⟩
  · show X κ NC 1 _ _ _
    refine x_tabIn (54) 55 G d_M_year_1 (by decide +kernel) (by decide +kernel) (by decide +kernel) rfl ?_
    refine x_aload0 G d_M_year_55 ?_
    refine x_iconst (v := nI 5) G d_M_year_56 rfl ?_
    refine m_callV_pi (p_M_allOf (kg κ) (d - 1) (by omega) σ S hS hI 5 (by decide) (fun p a b => (hJ.2.2 p a b).2.2.1)) G d_M_year_57 lk_M_179 rfl ⟨by decide, rfl⟩ (by decide) (by omega) rfl (Nat.le_of_ble_eq_true rfl) hx ?_
    exact m_iret E G d_M_year_60 hx rfl rfl ⟨_, rfl, MC.same hS (by unfold fYear; rw [if_neg (show ¬ nI 3 = nI 0 by decide), if_neg (show ¬ nI 3 = nI 1 by decide), if_neg (show ¬ nI 3 = nI 2 by decide), if_pos rfl])⟩
  · show X κ NC 1 _ _ _
    refine x_tabIn (60) 61 G d_M_year_1 (by decide +kernel) (by decide +kernel) (by decide +kernel) rfl ?_
    refine x_aload0 G d_M_year_61 ?_
    refine x_iconst (v := nI 4) G d_M_year_62 rfl ?_
    refine m_callV_pi (p_M_allOf (kg κ) (d - 1) (by omega) σ S hS hI 4 (by decide) (fun p a b => (hJ.2.2 p a b).2.1)) G d_M_year_63 lk_M_179 rfl ⟨by decide, rfl⟩ (by decide) (by omega) rfl (Nat.le_of_ble_eq_true rfl) hx ?_
    exact m_iret E G d_M_year_66 hx rfl rfl ⟨_, rfl, MC.same hS (by unfold fYear; rw [if_neg (show ¬ nI 4 = nI 0 by decide), if_neg (show ¬ nI 4 = nI 1 by decide), if_neg (show ¬ nI 4 = nI 2 by decide), if_neg (show ¬ nI 4 = nI 3 by decide), if_pos rfl])⟩
  · show X κ NC 1 _ _ _
    refine x_tabOut 67 G d_M_year_1 (hsw) rfl ?_
    refine x_ldc G d_M_year_67 kc_M_98 ?_
    exact m_iret E G d_M_year_69 hx rfl rfl ⟨_, rfl, MC.same hS (by unfold fYear; rw [if_neg (sw_ne (k := 0) (n := 4) hsw (by decide) (by decide)), if_neg (sw_ne (k := 1) (n := 4) hsw (by decide) (by decide)), if_neg (sw_ne (k := 2) (n := 4) hsw (by decide) (by decide)), if_neg (sw_ne (k := 3) (n := 4) hsw (by decide) (by decide)), if_neg (sw_ne (k := 4) (n := 4) hsw (by decide) (by decide))])⟩
theorem p_M_noons (g : CX) (d : Nat) (hd : 6 ≤ d) (σ : Sg) (S : Rw) (hO : MO S σ) (n : Int32) : RunM g d M_noons [.ref 113, .int n] σ (PR (MC (fNoons S n) σ)) := by
  refine RunM.of 2 (by decide +kernel) rfl ?_
  intro κ hg hx hk0 G E
  subst hg
  have hk : 4 ≤ kn κ := Nat.le_of_eq hk0.symm
  show X κ NC 0 [some (.ref 113), some (.int n), none, none] [] (hv σ)
  obtain ⟨hS, hI, hJ, h9, hab⟩ := hO
  have hn8 := hI.n
  refine x_iload1 G d_M_noons_0 ?_
  refine x_i2l G d_M_noons_1 ?_
  refine x_lconst (v := 1) G d_M_noons_2 rfl ?_
  refine x_ldc2 G d_M_noons_3 kc_M_157 ?_
  refine m_callS_pi (p_M_isIn (kg κ) (d - 1) (Nat.zero_le _) _ _ (nI 1) (nI 100) _ _ _ rfl (by decide +kernel) (by decide +kernel)) G d_M_noons_6 lk_M_82 (by omega) rfl (Nat.le_of_ble_eq_true rfl) hx ?_
  refine x_if_ne G d_M_noons_9 (fun c9 => ?_) (fun c9 => ?_)
  · replace c9 := bI_n0.mp c9
    obtain ⟨j, hj1, hj2, tj, rfl⟩ := inB_1 (by decide) c9
    refine x_aload0 G d_M_noons_15 ?_
    refine m_getr G d_M_noons_16 fl_M_7 rfl (by decide) rfl ?_
    refine x_iconst (v := nI 4) G d_M_noons_19 rfl ?_
    refine m_iald 4 G d_M_noons_20 rfl rfl ⟨by omega, by first | decide | omega⟩ ?_
    rw [hS]
    refine x_istore2 G d_M_noons_21 rfl hk ?_
    refine x_iconst (v := nI 0) G d_M_noons_22 rfl ?_
    refine x_istore3 G d_M_noons_23 rfl hk ?_
    have hloop : ∀ (m i : Nat) (σ1 : Sg), i ≤ min j (9999 - tn (S 2)) → min j (9999 - tn (S 2)) < i + m → σ1 114 = passN S (-1) i → OutN σ σ1 → X κ NC 24 [some (.ref 113), some (.int (nI j)), some (.int (S 4)), some (.int (nI i))] [] (hv σ1) := by
      intro m
      induction m with
      | zero => intro i σ1 h1 h2; omega
      | succ m ih =>
        intro i σ1 hi1 hi2 hR1 hO1
        obtain ⟨kI, k0, k1, k2, -, -⟩ := passN_keep hI (-1) i (by have := h9.2; omega)
        refine x_iload3 G d_M_noons_24 ?_
        refine x_iload1 G d_M_noons_25 ?_
        refine x_icmp_ge G d_M_noons_26 (fun c26 => ?_) (fun c26 => ?_)
        · have hij : i = min j (9999 - tn (S 2)) := by rw [nle (by omega) (by omega)] at c26; omega
          refine x_aload0 G d_M_noons_51 ?_
          refine m_getr G d_M_noons_52 fl_M_7 rfl (by decide) rfl ?_
          refine x_iconst (v := nI 4) G d_M_noons_55 rfl ?_
          refine m_iald _ G d_M_noons_56 rfl rfl ⟨by omega, by first | decide | omega⟩ ?_
          refine x_iload2 G d_M_noons_57 ?_
          refine x_isub G d_M_noons_58 ?_
          exact m_iret E G d_M_noons_59 hx rfl rfl ⟨_, rfl, MC.mk' (S1 := passN S (-1) (min j (9999 - tn (S 2)))) (v1 := passN S (-1) (min j (9999 - tn (S 2))) 4 - S 4) (by simp only [fNoons, c9, tj, if_true]) (by rw [hR1, ← hij]) (by rw [hR1, ← hij]) hO1⟩
        · have hij : i < j := by rw [nle (by omega) (by omega)] at c26; omega
          refine x_aload0 G d_M_noons_29 ?_
          refine m_getr G d_M_noons_30 fl_M_7 rfl (by decide) rfl ?_
          refine x_iconst (v := nI 2) G d_M_noons_33 rfl ?_
          refine m_iald 2 G d_M_noons_34 rfl rfl ⟨by omega, by first | decide | omega⟩ ?_
          rw [show σ1 114 2 = nI (tn (S 2) + i) by rw [hR1]; exact k2]
          refine x_sipush (v := nI 9999) G d_M_noons_35 rfl ?_
          refine x_icmp_ge G d_M_noons_38 (fun c38 => ?_) (fun c38 => ?_)
          · have hij2 : i = min j (9999 - tn (S 2)) := by have := h9.2; rw [nle (by decide) (by omega)] at c38; omega
            refine x_aload0 G d_M_noons_51 ?_
            refine m_getr G d_M_noons_52 fl_M_7 rfl (by decide) rfl ?_
            refine x_iconst (v := nI 4) G d_M_noons_55 rfl ?_
            refine m_iald _ G d_M_noons_56 rfl rfl ⟨by omega, by first | decide | omega⟩ ?_
            refine x_iload2 G d_M_noons_57 ?_
            refine x_isub G d_M_noons_58 ?_
            exact m_iret E G d_M_noons_59 hx rfl rfl ⟨_, rfl, MC.mk' (S1 := passN S (-1) (min j (9999 - tn (S 2)))) (v1 := passN S (-1) (min j (9999 - tn (S 2))) 4 - S 4) (by simp only [fNoons, c9, tj, if_true]) (by rw [hR1, ← hij2]) (by rw [hR1, ← hij2]) hO1⟩
          · have hij2 : i < min j (9999 - tn (S 2)) := by have := h9.2; rw [nle (by decide) (by omega)] at c38; omega
            refine x_aload0 G d_M_noons_41 ?_
            refine m_callV_pv (p_M_goesOn (kg κ) (d - 1) (by omega) σ1 _ hR1 kI (-1) (by rw [hO1 113 (by decide) (by decide) (by decide) (by decide) (by decide) (by decide) (by decide) (by decide) (by decide) (by decide)]; exact hab)) G d_M_noons_42 lk_M_173 rfl ⟨by decide, rfl⟩ (by decide) (by omega) rfl (Nat.le_of_ble_eq_true rfl) hx (fun σ2 ⟨g1, g2, g3⟩ => ?_)
            refine x_iinc3 (v := nI (i + 1)) G d_M_noons_45 rfl hk (nI_1 _) ?_
            refine x_goto G d_M_noons_48 ?_
            exact ih (i + 1) σ2 (by omega) (by omega) g1 (hO1.trans (OutN.of g3))
    exact hloop (min j (9999 - tn (S 2)) + 1) 0 σ (Nat.zero_le _) (by omega) hS OutN.refl
  · replace c9 := bI_0.mp c9
    refine x_ldc G d_M_noons_12 kc_M_98 ?_
    exact m_iret E G d_M_noons_14 hx rfl rfl ⟨_, rfl, MC.same hS (by simp only [fNoons, c9, Bool.and_true, Bool.true_and, Bool.and_false, Bool.false_and, Bool.or_true, Bool.true_or, Bool.or_false, Bool.false_or, Bool.not_true, Bool.not_false, Bool.false_eq_true, decide_true, decide_false, if_true, if_false])⟩
theorem upd_upd {S : Rw} {i : Nat} {x y : Int32} : upd (upd S i x) i y = upd S i y := by
  funext q
  by_cases w : q = i
  · rw [w, pk_us, pk_us]
  · rw [pk_un w, pk_un w, pk_un w]
theorem Inv2.of {S S' : Rw} (h : Inv2 S) (h0 : S' 0 = S 0) (hp : ∀ p k, p < 8 → 3 ≤ k → k < 7 → S' (ixP p k) = S (ixP p k)) : Inv2 S' := by
  refine ⟨fun p q => ?_, fun a b ha hb => ?_, fun p q1 q2 => ?_⟩
  · rw [hp p 3 q (by decide) (by decide), hp p 6 q (by decide) (by decide)]; exact h.1 p q
  · unfold sTalk
    rw [hp a 6 ha (by decide) (by decide), hp b 6 hb (by decide) (by decide)]; exact h.2.1 a b ha hb
  · rw [h0] at q1
    rw [hp p 3 q2 (by decide) (by decide), hp p 4 q2 (by decide) (by decide), hp p 5 q2 (by decide) (by decide), hp p 6 q2 (by decide) (by decide)]; exact h.2.2 p q1 q2
theorem Inv2.z6 {S : Rw} (h : Inv2 S) (x : Int32) : Inv2 (upd S 6 x) := h.of (pk_un (by decide)) (fun p k _ _ _ => pk_un (by unfold ixP; omega))
theorem Inv2.more {S S' : Rw} (h : Inv2 S) (h0 : tn (S 0) ≤ tn (S' 0)) (hp : ∀ p k, p < 8 → 3 ≤ k → k < 7 → S' (ixP p k) = S (ixP p k)) : Inv2 S' := by
  refine ⟨fun p q => ?_, fun a b ha hb => ?_, fun p q1 q2 => ?_⟩
  · rw [hp p 3 q (by decide) (by decide), hp p 6 q (by decide) (by decide)]; exact h.1 p q
  · unfold sTalk
    rw [hp a 6 ha (by decide) (by decide), hp b 6 hb (by decide) (by decide)]; exact h.2.1 a b ha hb
  · rw [hp p 3 q2 (by decide) (by decide), hp p 4 q2 (by decide) (by decide), hp p 5 q2 (by decide) (by decide), hp p 6 q2 (by decide) (by decide)]; exact h.2.2 p (by omega) q2
theorem fCome_keep2 {S : Rw} (hI : Inv S) (hJ : Inv2 S) (k h i : Int32) : Inv2 (fCome S k h i).2 := by
  unfold fCome
  split
  · refine hJ.more ?_ (fun p c hp h3 h7 => ?_)
    · dsimp only; rw [pk_us, tn_nI (by omega)]; omega
    · dsimp only
      rw [pk_un (by unfold ixP; omega), pk_un (by unfold ixP; omega), pk_un (by unfold ixP; omega), pk_un (by unfold ixP; omega)]
  · exact hJ
theorem dealN_keep2 {S : Rw} (hI : Inv S) (hJ : Inv2 S) : ∀ n, n + tn (S 0) ≤ 8 → Inv2 (dealN S n)
  | 0, _ => hJ
  | n + 1, h => fCome_keep2 ((dealN_keep hI n).1.z6 _) ((dealN_keep2 hI hJ n (by omega)).z6 _) _ _ _
theorem p_M_deal (g : CX) (d : Nat) (hd : 2 ≤ d) (σ : Sg) (S : Rw) (hO : MO S σ) (n : Int32) : RunM g d M_deal [.ref 113, .int n] σ (PR (MC (fDeal S n) σ)) := by
  refine RunM.of 3 (by decide +kernel) rfl ?_
  intro κ hg hx hk0 G E
  subst hg
  have hk : 5 ≤ kn κ := Nat.le_of_eq hk0.symm
  show X κ NC 0 [some (.ref 113), some (.int n), none, none, none] [] (hv σ)
  obtain ⟨hS, hI, hJ, h9, hab⟩ := hO
  have hn8 := hI.n
  refine x_iload1 G d_M_deal_0 ?_
  refine x_i2l G d_M_deal_1 ?_
  refine x_lconst (v := 1) G d_M_deal_2 rfl ?_
  refine x_ldc2 G d_M_deal_3 kc_M_150 ?_
  refine m_callS_pi (p_M_isIn (kg κ) (d - 1) (Nat.zero_le _) _ _ (nI 1) (nI 8) _ _ _ rfl (by decide +kernel) (by decide +kernel)) G d_M_deal_6 lk_M_82 (by omega) rfl (Nat.le_of_ble_eq_true rfl) hx ?_
  refine x_if_ne G d_M_deal_9 (fun c9 => ?_) (fun c9 => ?_)
  · replace c9 := bI_n0.mp c9
    obtain ⟨j, hj1, hj2, tj, rfl⟩ := inB_1 (by decide) c9
    refine x_iconst (v := nI 0) G d_M_deal_15 rfl ?_
    refine x_istore2 G d_M_deal_16 rfl hk ?_
    have hloop : ∀ (m i : Nat) (σ1 : Sg) (o3 o4 : Option Value), i ≤ min j (8 - tn (S 0)) → min j (8 - tn (S 0)) < i + m → σ1 114 = dealN S i → OutN σ σ1 → X κ NC 17 [some (.ref 113), some (.int (nI j)), some (.int (nI i)), o3, o4] [] (hv σ1) := by
      intro m
      induction m with
      | zero => intro i σ1 o3 o4 h1 h2; omega
      | succ m ih =>
        intro i σ1 o3 o4 hi1 hi2 hR1 hO1
        obtain ⟨kI, kA, k2⟩ := dealN_keep hI i
        have k0 := dealN_n hI i (by omega)
        have kJ := dealN_keep2 hI hJ i (by omega)
        refine x_iload2 G d_M_deal_17 ?_
        refine x_iload1 G d_M_deal_18 ?_
        refine x_icmp_ge G d_M_deal_19 (fun c19 => ?_) (fun c19 => ?_)
        · have hij : i = min j (8 - tn (S 0)) := by rw [nle (by omega) (by omega)] at c19; omega
          refine x_iload2 G d_M_deal_70 ?_
          exact m_iret E G d_M_deal_71 hx rfl rfl ⟨_, rfl, MC.mk' (S1 := dealN S (min j (8 - tn (S 0)))) (v1 := nI (min j (8 - tn (S 0)))) (by simp only [fDeal, c9, tj, if_true]) (by rw [← hij]) (by rw [hR1, ← hij]) hO1⟩
        · have hij : i < j := by rw [nle (by omega) (by omega)] at c19; omega
          refine x_aload0 G d_M_deal_22 ?_
          refine m_getr G d_M_deal_23 fl_M_7 rfl (by decide) rfl ?_
          refine x_iconst (v := nI 0) G d_M_deal_26 rfl ?_
          refine m_iald 0 G d_M_deal_27 rfl rfl ⟨by omega, by first | decide | omega⟩ ?_
          rw [show σ1 114 0 = nI (tn (S 0) + i) by rw [hR1]; exact k0]
          refine x_bipush (v := nI 8) G d_M_deal_28 rfl ?_
          refine x_icmp_ge G d_M_deal_30 (fun c30 => ?_) (fun c30 => ?_)
          · have hij2 : i = min j (8 - tn (S 0)) := by rw [nle (by decide) (by omega)] at c30; omega
            refine x_iload2 G d_M_deal_70 ?_
            exact m_iret E G d_M_deal_71 hx rfl rfl ⟨_, rfl, MC.mk' (S1 := dealN S (min j (8 - tn (S 0)))) (v1 := nI (min j (8 - tn (S 0)))) (by simp only [fDeal, c9, tj, if_true]) (by rw [← hij2]) (by rw [hR1, ← hij2]) hO1⟩
          · have hij2 : i < min j (8 - tn (S 0)) := by rw [nle (by decide) (by omega)] at c30; omega
            refine x_aload0 G d_M_deal_33 ?_
            refine m_callV_pi (p_M_drawn (kg κ) (d - 1) (by omega) σ1) G d_M_deal_34 lk_M_159 rfl ⟨by decide, rfl⟩ (by decide) (by omega) rfl (Nat.le_of_ble_eq_true rfl) hx ?_
            rw [show σ1 114 6 = dealN S i 6 by rw [hR1]]
            obtain ⟨σ2, e2⟩ : ∃ z, z = updS σ1 114 6 (zn (dealN S i 6)) := ⟨_, rfl⟩
            rw [← e2]
            have hR2 : σ2 114 = upd (dealN S i) 6 (zn (dealN S i 6)) := by rw [e2, updS_row, hR1]
            have hO2 : OutN σ σ2 := by rw [e2]; exact hO1.upd (by omega)
            refine x_bipush (v := nI 6) G d_M_deal_37 rfl ?_
            refine x_irem G d_M_deal_39 (by decide +kernel) ?_
            refine x_istore3 G d_M_deal_40 rfl hk ?_
            refine x_aload0 G d_M_deal_41 ?_
            refine m_callV_pi (p_M_drawn (kg κ) (d - 1) (by omega) σ2) G d_M_deal_42 lk_M_159 rfl ⟨by decide, rfl⟩ (by decide) (by omega) rfl (Nat.le_of_ble_eq_true rfl) hx ?_
            rw [show σ2 114 6 = zn (dealN S i 6) by rw [hR2, pk_us]]
            obtain ⟨σ3, e3⟩ : ∃ z, z = updS σ2 114 6 (zn (zn (dealN S i 6))) := ⟨_, rfl⟩
            rw [← e3]
            have hR3 : σ3 114 = upd (dealN S i) 6 (zn (zn (dealN S i 6))) := by rw [e3, updS_row, hR2, upd_upd]
            have hO3 : OutN σ σ3 := by rw [e3]; exact hO2.upd (by omega)
            refine x_bipush (v := nI 9) G d_M_deal_45 rfl ?_
            refine x_irem G d_M_deal_47 (by decide +kernel) ?_
            refine x_istore4 G d_M_deal_48 rfl hk ?_
            refine x_aload0 G d_M_deal_50 ?_
            refine x_iload3 G d_M_deal_51 ?_
            refine x_iload4 G d_M_deal_52 ?_
            refine x_aload0 G d_M_deal_54 ?_
            refine m_callV_pi (p_M_drawn (kg κ) (d - 1) (by omega) σ3) G d_M_deal_55 lk_M_159 rfl ⟨by decide, rfl⟩ (by decide) (by omega) rfl (Nat.le_of_ble_eq_true rfl) hx ?_
            rw [show σ3 114 6 = zn (zn (dealN S i 6)) by rw [hR3, pk_us]]
            obtain ⟨σ4, e4⟩ : ∃ z, z = updS σ3 114 6 (zn (zn (zn (dealN S i 6)))) := ⟨_, rfl⟩
            rw [← e4]
            have hR4 : σ4 114 = upd (dealN S i) 6 (zn (zn (zn (dealN S i 6)))) := by rw [e4, updS_row, hR3, upd_upd]
            have hO4 : OutN σ σ4 := by rw [e4]; exact hO3.upd (by omega)
            refine x_bipush (v := nI 60) G d_M_deal_58 rfl ?_
            refine x_irem G d_M_deal_60 (by decide +kernel) ?_
            refine m_callV_pv (p_M_comes (kg κ) (d - 1) (by omega) σ4 _ hR4 (kI.z6 _) (kJ.z6 _) (by rw [pk_un (by decide), k0, tn_nI (by omega)]; omega) _ _ _) G d_M_deal_61 lk_M_100 rfl ⟨by decide, rfl⟩ (by decide) (by omega) rfl (Nat.le_of_ble_eq_true rfl) hx (fun σ5 ⟨g1, g2⟩ => ?_)
            refine x_iinc2 (v := nI (i + 1)) G d_M_deal_64 rfl hk (nI_1 _) ?_
            refine x_goto G d_M_deal_67 ?_
            exact ih (i + 1) σ5 _ _ (by omega) (by omega) g1 (hO4.trans g2)
    exact hloop (min j (8 - tn (S 0)) + 1) 0 σ none none (Nat.zero_le _) (by omega) hS OutN.refl
  · replace c9 := bI_0.mp c9
    refine x_ldc G d_M_deal_12 kc_M_98 ?_
    exact m_iret E G d_M_deal_14 hx rfl rfl ⟨_, rfl, MC.same hS (by simp only [fDeal, c9, Bool.and_true, Bool.true_and, Bool.and_false, Bool.false_and, Bool.or_true, Bool.true_or, Bool.or_false, Bool.false_or, Bool.not_true, Bool.not_false, Bool.false_eq_true, decide_true, decide_false, if_true, if_false])⟩
