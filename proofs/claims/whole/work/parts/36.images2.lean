/-! what waits, what an image keeps, counts: the model -/
theorem p_M_tell (g : CX) (d : Nat) (hd : 0 ≤ d) (σ : Sg) (n : Nat) (hn : σ 113 33 = nI n) (hn60 : n ≤ 60) (x : Int32) : RunM g d M_tell [.ref 113, .int x] σ (PR (fun v σ1 => v = (if n < 60 then nI (n + 1) else -1000000003) ∧ σ1 = (if n < 60 then updS (updS σ 133 n x) 113 33 (nI (n + 1)) else σ))) := by
  refine RunM.of 0 (by decide +kernel) rfl ?_
  intro κ hg hx hk0 G E
  subst hg
  have hk : 2 ≤ kn κ := Nat.le_of_eq hk0.symm
  show X κ NC 0 [some (.ref 113), some (.int x)] [] (hv σ)
  refine x_aload0 G d_M_tell_0 ?_
  refine m_geti G d_M_tell_1 fl_M_327 rfl (by decide) rfl ?_
  rw [hn]
  refine x_bipush (v := nI 60) G d_M_tell_4 rfl ?_
  refine x_icmp_ne G d_M_tell_6 (fun c6 => ?_) (fun c6 => ?_)
  · have h60 : n < 60 := by have : n ≠ 60 := fun z => c6 (by rw [z]); omega
    refine x_aload0 G d_M_tell_12 ?_
    refine m_getr G d_M_tell_13 fl_M_71 rfl (by decide) rfl ?_
    refine x_aload0 G d_M_tell_16 ?_
    refine m_geti G d_M_tell_17 fl_M_327 rfl (by decide) rfl ?_
    rw [hn]
    refine x_iload1 G d_M_tell_20 ?_
    refine m_iast_n n G d_M_tell_21 rfl rfl ⟨h60, by first | decide | omega⟩ (fun σ1 e1 => ?_)
    refine x_aload0 G d_M_tell_22 ?_
    refine x_dup G d_M_tell_23 rfl ?_
    refine m_geti G d_M_tell_24 fl_M_327 rfl (by decide) rfl ?_
    rw [show σ1 113 33 = nI n by rw [e1, updS_nk (by decide)]; exact hn]
    refine x_iconst (v := nI 1) G d_M_tell_27 rfl ?_
    refine x_iadd G d_M_tell_28 ?_
    rw [show nI n + nI 1 = nI (n + 1) from nI_1 _]
    refine m_puti_n G d_M_tell_29 fl_M_327 rfl (by decide) rfl rfl rfl (fun σ2 e2 => ?_)
    refine x_aload0 G d_M_tell_32 ?_
    refine m_geti G d_M_tell_33 fl_M_327 rfl (by decide) rfl ?_
    rw [show σ2 113 33 = nI (n + 1) by rw [e2, updS_at]]
    exact m_iret E G d_M_tell_36 hx rfl rfl ⟨_, rfl, (by rw [if_pos h60]), (by rw [if_pos h60, e2, e1])⟩
  · have h60 : ¬ n < 60 := by have := (neq (by omega) (by decide)).mp c6; omega
    refine x_ldc G d_M_tell_9 kc_M_99 ?_
    exact m_iret E G d_M_tell_11 hx rfl rfl ⟨_, rfl, (by rw [if_neg h60]), (by rw [if_neg h60])⟩
theorem p_M_setAside (g : CX) (d : Nat) (hd : 0 ≤ d) (σ : Sg) (a b : Nat) (hsa : shp a = .inr (0, 3090)) (hsb : shp b = .inr (0, 3090)) (hne : a ≠ b) : RunM g d M_setAside [.ref 113, .ref a, .ref b] σ (PV (fun σ1 => σ1 b = mixR (σ a) (σ b) ∧ ∀ c, c ≠ b → σ1 c = σ c)) := by
  refine RunM.of 1 (by decide +kernel) rfl ?_
  intro κ hg hx hk0 G E
  subst hg
  have hk : 4 ≤ kn κ := Nat.le_of_eq hk0.symm
  show X κ NC 0 [some (.ref 113), some (.ref a), some (.ref b), none] [] (hv σ)
  refine x_iconst (v := nI 0) G d_M_setAside_0 rfl ?_
  refine x_istore3 G d_M_setAside_1 rfl hk ?_
  have hloop : ∀ (z i : Nat) (σ1 : Sg), i ≤ 2890 → 2890 < i + z → (∀ q, q < i → σ1 b q = σ a q) → (∀ q, i ≤ q → σ1 b q = σ b q) → (∀ c, c ≠ b → σ1 c = σ c) → X κ NC 2 [some (.ref 113), some (.ref a), some (.ref b), some (.int (nI i))] [] (hv σ1) := by
    intro z
    induction z with
    | zero => intro i σ1 h1 h2; omega
    | succ z ih =>
      intro i σ1 hi1 hi2 d1 d2 hF
      refine x_iload3 G d_M_setAside_2 ?_
      refine x_sipush (v := nI 2890) G d_M_setAside_3 rfl ?_
      refine x_icmp_ge G d_M_setAside_6 (fun c6 => ?_) (fun c6 => ?_)
      · have hi : i = 2890 := by rw [nle (by omega) (by omega)] at c6; omega
        exact m_vret E G d_M_setAside_21 hx rfl ⟨rfl, (by funext q; rcases Nat.lt_or_ge q 2890 with w | w; (rw [mix_lt w]; exact d1 q (by omega)); (rw [mix_ge w]; exact d2 q (by omega))), hF⟩
      · have hi : i < 2890 := by rw [nle (by omega) (by omega)] at c6; omega
        refine x_aload2 G d_M_setAside_9 ?_
        refine x_iload3 G d_M_setAside_10 ?_
        refine x_aload1 G d_M_setAside_11 ?_
        refine x_iload3 G d_M_setAside_12 ?_
        refine m_iald i G d_M_setAside_13 hsa rfl ⟨by omega, by first | decide | omega⟩ ?_
        refine m_iast_n i G d_M_setAside_14 hsb rfl ⟨by omega, by first | decide | omega⟩ (fun σ2 e2 => ?_)
        refine x_iinc3 (v := nI (i + 1)) G d_M_setAside_15 rfl hk (nI_1 _) ?_
        refine x_goto G d_M_setAside_18 ?_
        exact ih (i + 1) σ2 (by omega) (by omega) (fun q hq => if e : q = i then (by rw [e, e2, updS_at, hF a hne]) else (by rw [e2, updS_ne (by omega)]; exact d1 q (by omega))) (fun q hq => by rw [e2, updS_ne (by omega)]; exact d2 q (by omega)) (fun c hc => by rw [e2, updS_nk hc]; exact hF c hc)
  exact hloop 2891 0 σ (by decide) (by decide) (fun q hq => absurd hq (Nat.not_lt_zero q)) (fun _ _ => rfl) (fun _ _ => rfl)
theorem p_M_keep (g : CX) (d : Nat) (hd : 1 ≤ d) (σ : Sg) (S : Rw) (hS : σ 114 = S) : RunM g d M_keep [.ref 113] σ (PR (fun v σ1 => v = S 0 ∧ σ1 115 = mixR S (σ 115) ∧ σ1 113 3 = 1 ∧ (∀ k, k ≠ 113 → k ≠ 115 → σ1 k = σ k) ∧ ∀ j, j ≠ 3 → σ1 113 j = σ 113 j)) := by
  refine RunM.of 0 (by decide +kernel) rfl ?_
  intro κ hg hx hk0 G E
  subst hg
  have hk : 1 ≤ kn κ := Nat.le_of_eq hk0.symm
  show X κ NC 0 [some (.ref 113)] [] (hv σ)
  refine x_aload0 G d_M_keep_0 ?_
  refine x_iconst (v := nI 1) G d_M_keep_1 rfl ?_
  refine m_putz G d_M_keep_2 fl_M_332 rfl (by decide) rfl rfl rfl (Or.inr rfl) ?_
  obtain ⟨σ1, e1⟩ : ∃ z, z = updS σ 113 3 (nI 1) := ⟨_, rfl⟩
  rw [← e1]
  refine x_aload0 G d_M_keep_5 ?_
  refine x_aload0 G d_M_keep_6 ?_
  refine m_getr G d_M_keep_7 fl_M_7 rfl (by decide) rfl ?_
  refine x_aload0 G d_M_keep_10 ?_
  refine m_getr G d_M_keep_11 fl_M_13 rfl (by decide) rfl ?_
  refine m_callV_pv (p_M_setAside (kg κ) (d - 1) (by omega) σ1 114 115 rfl rfl (by decide)) G d_M_keep_14 lk_M_336 rfl ⟨by decide, rfl⟩ (by decide) (by omega) rfl (Nat.le_of_ble_eq_true rfl) hx (fun σ2 ⟨g1, g2⟩ => ?_)
  refine x_aload0 G d_M_keep_17 ?_
  refine m_getr G d_M_keep_18 fl_M_7 rfl (by decide) rfl ?_
  refine x_iconst (v := nI 0) G d_M_keep_21 rfl ?_
  refine m_iald 0 G d_M_keep_22 rfl rfl ⟨by omega, by first | decide | omega⟩ ?_
  rw [show σ2 114 0 = S 0 by rw [g2 114 (by decide), e1, updS_nk (by decide), hS]]
  exact m_iret E G d_M_keep_23 hx rfl rfl ⟨_, rfl, rfl, (by rw [g1, e1, updS_nk (by decide), updS_nk (by decide), hS]), (by rw [g2 113 (by decide), e1, updS_at]; rfl), (fun k a b => by rw [g2 k b, e1, updS_nk a]), (fun j a => by rw [g2 113 (by decide), e1, updS_ne (by omega)])⟩
theorem p_M_back (g : CX) (d : Nat) (hd : 1 ≤ d) (σ : Sg) (kept : Int32) (hkp : σ 113 3 = kept) : RunM g d M_back [.ref 113] σ (PR (fun v σ1 => v = (if kept = 0 then -1000000002 else mixR (σ 115) (σ 114) 0) ∧ (kept = 0 → σ1 = σ) ∧ (¬ kept = 0 → σ1 114 = mixR (σ 115) (σ 114) ∧ ∀ c, c ≠ 114 → σ1 c = σ c))) := by
  refine RunM.of 0 (by decide +kernel) rfl ?_
  intro κ hg hx hk0 G E
  subst hg
  have hk : 1 ≤ kn κ := Nat.le_of_eq hk0.symm
  show X κ NC 0 [some (.ref 113)] [] (hv σ)
  refine x_aload0 G d_M_back_0 ?_
  refine m_geti G d_M_back_1 fl_M_332 rfl (by decide) rfl ?_
  rw [hkp]
  refine x_if_ne G d_M_back_4 (fun c4 => ?_) (fun c4 => ?_)
  · refine x_aload0 G d_M_back_11 ?_
    refine x_aload0 G d_M_back_12 ?_
    refine m_getr G d_M_back_13 fl_M_13 rfl (by decide) rfl ?_
    refine x_aload0 G d_M_back_16 ?_
    refine m_getr G d_M_back_17 fl_M_7 rfl (by decide) rfl ?_
    refine m_callV_pv (p_M_setAside (kg κ) (d - 1) (by omega) σ 115 114 rfl rfl (by decide)) G d_M_back_20 lk_M_336 rfl ⟨by decide, rfl⟩ (by decide) (by omega) rfl (Nat.le_of_ble_eq_true rfl) hx (fun σ1 ⟨g1, g2⟩ => ?_)
    refine x_aload0 G d_M_back_23 ?_
    refine m_getr G d_M_back_24 fl_M_7 rfl (by decide) rfl ?_
    refine x_iconst (v := nI 0) G d_M_back_27 rfl ?_
    refine m_iald 0 G d_M_back_28 rfl rfl ⟨by omega, by first | decide | omega⟩ ?_
    rw [show σ1 114 0 = mixR (σ 115) (σ 114) 0 by rw [g1]]
    exact m_iret E G d_M_back_29 hx rfl rfl ⟨_, rfl, (by rw [if_neg c4]), fun z => absurd z c4, fun _ => ⟨g1, g2⟩⟩
  · refine x_ldcw G d_M_back_7 kc_M_326 ?_
    exact m_iret E G d_M_back_10 hx rfl rfl ⟨_, rfl, (by rw [if_pos c4]), fun _ => rfl, fun z => absurd c4 z⟩
theorem p_M_talks (g : CX) (d : Nat) (hd : 1 ≤ d) (σ : Sg) (S : Rw) (hS : σ 114 = S) (hI : Inv S) (hJ : Inv2 S) : RunM g d M_talks [.ref 113] σ (PI (nI (tkN S (tn (S 0)) / 2)) σ) := by
  refine RunM.of 2 (by decide +kernel) rfl ?_
  intro κ hg hx hk0 G E
  subst hg
  have hk : 3 ≤ kn κ := Nat.le_of_eq hk0.symm
  show X κ NC 0 [some (.ref 113), none, none] [] (hv σ)
  have hn8 := hI.n
  refine x_iconst (v := nI 0) G d_M_talks_0 rfl ?_
  refine x_istore1 G d_M_talks_1 rfl hk ?_
  refine x_iconst (v := nI 0) G d_M_talks_2 rfl ?_
  refine x_istore2 G d_M_talks_3 rfl hk ?_
  have hloop : ∀ (m i : Nat), i ≤ tn (S 0) → tn (S 0) < i + m → X κ NC 4 [some (.ref 113), some (.int (nI (tkN S i))), some (.int (nI i))] [] (hv σ) := by
    intro m
    induction m with
    | zero => intro i h1 h2; omega
    | succ m ih =>
      intro i hi1 hi2
      refine x_iload2 G d_M_talks_4 ?_
      refine x_aload0 G d_M_talks_5 ?_
      refine m_getr G d_M_talks_6 fl_M_7 rfl (by decide) rfl ?_
      refine x_iconst (v := nI 0) G d_M_talks_9 rfl ?_
      refine m_iald 0 G d_M_talks_10 rfl rfl ⟨by omega, by first | decide | omega⟩ ?_
      rw [show σ 114 0 = nI (tn (S 0)) by rw [hS]; exact hn8.1]
      refine x_icmp_ge G d_M_talks_11 (fun c11 => ?_) (fun c11 => ?_)
      · have hin : i = tn (S 0) := by rw [nle (by omega) (by omega)] at c11; omega
        refine x_iload1 G d_M_talks_33 ?_
        refine x_iconst (v := nI 2) G d_M_talks_34 rfl ?_
        refine x_idiv G d_M_talks_35 (by decide +kernel) ?_
        rw [hin, pk_div (by have := tk_le S (tn (S 0)); omega) (by decide) (by decide)]
        exact m_iret E G d_M_talks_36 hx rfl rfl ⟨rfl, rfl⟩
      · have hin : i < tn (S 0) := by rw [nle (by omega) (by omega)] at c11; omega
        refine x_iload1 G d_M_talks_14 ?_
        refine x_aload0 G d_M_talks_15 ?_
        refine x_iload2 G d_M_talks_16 ?_
        refine x_bipush (v := nI 6) G d_M_talks_17 rfl ?_
        refine m_callV_pi (p_M_ofS (kg κ) (d - 1) _ S hS _ _ (by omega) (by first | decide | omega)) G d_M_talks_19 lk_M_107 rfl ⟨by decide, rfl⟩ (by decide) (by omega) rfl (Nat.le_of_ble_eq_true rfl) hx ?_
        rw [show S (ixP i 6) = nI (tn (S (ixP i 6))) from (hJ.talk (by omega)).1]
        refine m_callS_pi (p_M_manyIn (kg κ) (d - 1) (by omega) σ _ (by have := (hJ.talk (p := i) (by omega)).2; omega)) G d_M_talks_22 lk_M_197 (by omega) rfl (Nat.le_of_ble_eq_true rfl) hx ?_
        refine x_iadd G d_M_talks_25 ?_
        rw [nI_add]
        refine x_istore1 G d_M_talks_26 rfl hk ?_
        refine x_iinc2 (v := nI (i + 1)) G d_M_talks_27 rfl hk (nI_1 _) ?_
        refine x_goto G d_M_talks_30 ?_
        exact ih (i + 1) (by omega) (by omega)
  exact hloop (tn (S 0) + 1) 0 (Nat.zero_le _) (by omega)
theorem p_M_count (g : CX) (d : Nat) (hd : 2 ≤ d) (σ : Sg) (S : Rw) (hO : MO S σ) (what : Int32) : RunM g d M_count [.ref 113, .int what] σ (PI (fCount S (σ 113 33) (σ 113 18) what) σ) := by
  refine RunM.of 0 (by decide +kernel) rfl ?_
  intro κ hg hx hk0 G E
  subst hg
  have hk : 2 ≤ kn κ := Nat.le_of_eq hk0.symm
  show X κ NC 0 [some (.ref 113), some (.int what)] [] (hv σ)
  obtain ⟨hS, hI, hJ, h9, hab⟩ := hO
  have hn8 := hI.n
  refine x_iload1 G d_M_count_0 ?_
  rcases sw8 what with rfl | rfl | rfl | rfl | rfl | rfl | rfl | rfl | hsw
  · show X κ NC 1 _ _ _
    refine x_tabIn (47) 48 G d_M_count_1 (by decide +kernel) (by decide +kernel) (by decide +kernel) rfl ?_
    refine x_aload0 G d_M_count_48 ?_
    refine m_getr G d_M_count_49 fl_M_7 rfl (by decide) rfl ?_
    refine x_iconst (v := nI 0) G d_M_count_52 rfl ?_
    refine m_iald 0 G d_M_count_53 rfl rfl ⟨by omega, by first | decide | omega⟩ ?_
    rw [hS]
    exact m_iret E G d_M_count_54 hx rfl rfl (pi_of (by unfold fCount; rw [if_pos rfl]))
  · show X κ NC 1 _ _ _
    refine x_tabIn (54) 55 G d_M_count_1 (by decide +kernel) (by decide +kernel) (by decide +kernel) rfl ?_
    refine x_aload0 G d_M_count_55 ?_
    refine m_getr G d_M_count_56 fl_M_7 rfl (by decide) rfl ?_
    refine x_iconst (v := nI 2) G d_M_count_59 rfl ?_
    refine m_iald 2 G d_M_count_60 rfl rfl ⟨by omega, by first | decide | omega⟩ ?_
    rw [hS]
    exact m_iret E G d_M_count_61 hx rfl rfl (pi_of (by unfold fCount; rw [if_neg (show ¬ nI 1 = nI 0 by decide), if_pos rfl]))
  · show X κ NC 1 _ _ _
    refine x_tabIn (61) 62 G d_M_count_1 (by decide +kernel) (by decide +kernel) (by decide +kernel) rfl ?_
    refine x_aload0 G d_M_count_62 ?_
    refine m_getr G d_M_count_63 fl_M_7 rfl (by decide) rfl ?_
    refine x_iconst (v := nI 5) G d_M_count_66 rfl ?_
    refine m_iald 5 G d_M_count_67 rfl rfl ⟨by omega, by first | decide | omega⟩ ?_
    rw [hS]
    exact m_iret E G d_M_count_68 hx rfl rfl (pi_of (by unfold fCount; rw [if_neg (show ¬ nI 2 = nI 0 by decide), if_neg (show ¬ nI 2 = nI 1 by decide), if_pos rfl]))
  · show X κ NC 1 _ _ _
    refine x_tabIn (68) 69 G d_M_count_1 (by decide +kernel) (by decide +kernel) (by decide +kernel) rfl ?_
    refine x_aload0 G d_M_count_69 ?_
    refine m_callV_pi (p_M_talks (kg κ) (d - 1) (by omega) σ S hS hI hJ) G d_M_count_70 lk_M_340 rfl ⟨by decide, rfl⟩ (by decide) (by omega) rfl (Nat.le_of_ble_eq_true rfl) hx ?_
    exact m_iret E G d_M_count_73 hx rfl rfl (pi_of (by unfold fCount; rw [if_neg (show ¬ nI 3 = nI 0 by decide), if_neg (show ¬ nI 3 = nI 1 by decide), if_neg (show ¬ nI 3 = nI 2 by decide), if_pos rfl]))
  · show X κ NC 1 _ _ _
    refine x_tabIn (73) 74 G d_M_count_1 (by decide +kernel) (by decide +kernel) (by decide +kernel) rfl ?_
    refine x_aload0 G d_M_count_74 ?_
    refine m_getr G d_M_count_75 fl_M_7 rfl (by decide) rfl ?_
    refine x_iconst (v := nI 1) G d_M_count_78 rfl ?_
    refine m_iald 1 G d_M_count_79 rfl rfl ⟨by omega, by first | decide | omega⟩ ?_
    rw [hS]
    exact m_iret E G d_M_count_80 hx rfl rfl (pi_of (by unfold fCount; rw [if_neg (show ¬ nI 4 = nI 0 by decide), if_neg (show ¬ nI 4 = nI 1 by decide), if_neg (show ¬ nI 4 = nI 2 by decide), if_neg (show ¬ nI 4 = nI 3 by decide), if_pos rfl]))
  · show X κ NC 1 _ _ _
    refine x_tabIn (80) 81 G d_M_count_1 (by decide +kernel) (by decide +kernel) (by decide +kernel) rfl ?_
    refine x_aload0 G d_M_count_81 ?_
    refine m_geti G d_M_count_82 fl_M_327 rfl (by decide) rfl ?_
    exact m_iret E G d_M_count_85 hx rfl rfl (pi_of (by unfold fCount; rw [if_neg (show ¬ nI 5 = nI 0 by decide), if_neg (show ¬ nI 5 = nI 1 by decide), if_neg (show ¬ nI 5 = nI 2 by decide), if_neg (show ¬ nI 5 = nI 3 by decide), if_neg (show ¬ nI 5 = nI 4 by decide), if_pos rfl]))
  · show X κ NC 1 _ _ _
    refine x_tabIn (85) 86 G d_M_count_1 (by decide +kernel) (by decide +kernel) (by decide +kernel) rfl ?_
    refine x_aload0 G d_M_count_86 ?_
    refine m_geti G d_M_count_87 fl_M_213 rfl (by decide) rfl ?_
    exact m_iret E G d_M_count_90 hx rfl rfl (pi_of (by unfold fCount; rw [if_neg (show ¬ nI 6 = nI 0 by decide), if_neg (show ¬ nI 6 = nI 1 by decide), if_neg (show ¬ nI 6 = nI 2 by decide), if_neg (show ¬ nI 6 = nI 3 by decide), if_neg (show ¬ nI 6 = nI 4 by decide), if_neg (show ¬ nI 6 = nI 5 by decide), if_pos rfl]))
  · show X κ NC 1 _ _ _
    refine x_tabIn (90) 91 G d_M_count_1 (by decide +kernel) (by decide +kernel) (by decide +kernel) rfl ?_
    refine x_aload0 G d_M_count_91 ?_
    refine m_getr G d_M_count_92 fl_M_7 rfl (by decide) rfl ?_
    refine x_bipush (v := nI 6) G d_M_count_95 rfl ?_
    refine m_iald 6 G d_M_count_97 rfl rfl ⟨by omega, by first | decide | omega⟩ ?_
    rw [hS]
    exact m_iret E G d_M_count_98 hx rfl rfl (pi_of (by unfold fCount; rw [if_neg (show ¬ nI 7 = nI 0 by decide), if_neg (show ¬ nI 7 = nI 1 by decide), if_neg (show ¬ nI 7 = nI 2 by decide), if_neg (show ¬ nI 7 = nI 3 by decide), if_neg (show ¬ nI 7 = nI 4 by decide), if_neg (show ¬ nI 7 = nI 5 by decide), if_neg (show ¬ nI 7 = nI 6 by decide), if_pos rfl]))
  · show X κ NC 1 _ _ _
    refine x_tabOut 99 G d_M_count_1 (hsw) rfl ?_
    refine x_ldc G d_M_count_99 kc_M_98 ?_
    exact m_iret E G d_M_count_101 hx rfl rfl (pi_of (by unfold fCount; rw [if_neg (sw_ne (k := 0) (n := 7) hsw (by decide) (by decide)), if_neg (sw_ne (k := 1) (n := 7) hsw (by decide) (by decide)), if_neg (sw_ne (k := 2) (n := 7) hsw (by decide) (by decide)), if_neg (sw_ne (k := 3) (n := 7) hsw (by decide) (by decide)), if_neg (sw_ne (k := 4) (n := 7) hsw (by decide) (by decide)), if_neg (sw_ne (k := 5) (n := 7) hsw (by decide) (by decide)), if_neg (sw_ne (k := 6) (n := 7) hsw (by decide) (by decide)), if_neg (sw_ne (k := 7) (n := 7) hsw (by decide) (by decide))]))
theorem p_M_textTold (g : CX) (d : Nat) (hd : 2 ≤ d) (σ : Sg) (S : Rw) (hO : MO S σ) (tx what : Int32) : RunM g d M_textTold [.ref 113, .int tx, .int what] σ (PR (MC (fTextTold S tx what) σ)) := by
  refine RunM.of 0 (by decide +kernel) rfl ?_
  intro κ hg hx hk0 G E
  subst hg
  have hk : 3 ≤ kn κ := Nat.le_of_eq hk0.symm
  show X κ NC 0 [some (.ref 113), some (.int tx), some (.int what)] [] (hv σ)
  obtain ⟨hS, hI, hJ, h9, hab⟩ := hO
  have hn8 := hI.n
  refine x_aload0 G d_M_textTold_0 ?_
  refine x_iload1 G d_M_textTold_1 ?_
  refine m_callV_pi (p_M_isText (kg κ) (d - 1) (by omega) _ (tn (S 1)) (by rw [hS]; exact hI.2.1.1) hI.2.1.2 _) G d_M_textTold_2 lk_M_304 rfl ⟨by decide, rfl⟩ (by decide) (by omega) rfl (Nat.le_of_ble_eq_true rfl) hx ?_
  rw [show nI (tn (S 1)) = S 1 from hI.2.1.1.symm]
  refine x_if_eq G d_M_textTold_5 (fun c5 => ?_) (fun c5 => ?_)
  · replace c5 := bI_0.mp c5
    refine x_ldc G d_M_textTold_18 kc_M_98 ?_
    exact m_iret E G d_M_textTold_20 hx rfl rfl ⟨_, rfl, MC.same hS (by simp only [fTextTold, c5, Bool.and_true, Bool.true_and, Bool.and_false, Bool.false_and, Bool.or_true, Bool.true_or, Bool.or_false, Bool.false_or, Bool.not_true, Bool.not_false, Bool.false_eq_true, decide_true, decide_false, if_true, if_false])⟩
  · replace c5 := bI_n0.mp c5
    obtain ⟨t, ht, tt, rfl⟩ := isO_ex (show tn (S 1) < 2 ^ 31 by have := hI.2.1.2; omega) (show isO (nI (tn (S 1))) tx = true by rw [← hI.2.1.1]; exact c5)
    have ht14 := (hI.txt ht).2
    refine x_iload2 G d_M_textTold_8 ?_
    refine x_i2l G d_M_textTold_9 ?_
    refine x_lconst (v := 0) G d_M_textTold_10 rfl ?_
    refine x_lconst (v := 1) G d_M_textTold_11 rfl ?_
    refine m_callS_pi (p_M_isUp (kg κ) (d - 1) _ _ 1 _ _ _ rfl (by decide +kernel) (by decide +kernel)) G d_M_textTold_12 lk_M_82 (by omega) rfl (Nat.le_of_ble_eq_true rfl) hx ?_
    refine x_if_ne G d_M_textTold_15 (fun c15 => ?_) (fun c15 => ?_)
    · replace c15 := bI_n0.mp c15
      obtain ⟨q, hq, tq, rfl⟩ := upB_ex (by decide) c15
      refine x_aload0 G d_M_textTold_21 ?_
      refine m_getr G d_M_textTold_22 fl_M_7 rfl (by decide) rfl ?_
      refine x_aload0 G d_M_textTold_25 ?_
      refine x_iload1 G d_M_textTold_26 ?_
      refine m_callV_pi (p_M_textAt (kg κ) (d - 1) (by omega) σ t) G d_M_textTold_27 lk_M_295 rfl ⟨by decide, rfl⟩ (by decide) (by omega) rfl (Nat.le_of_ble_eq_true rfl) hx ?_
      refine x_iload2 G d_M_textTold_30 ?_
      refine x_iadd G d_M_textTold_31 ?_
      refine m_iald (ixT t q) G d_M_textTold_32 rfl (by simp only [nI_add]; exact congrArg nI (by unfold ixT; omega)) ⟨by unfold ixT; omega, by first | decide | omega⟩ ?_
      rw [show σ 114 (ixT t q) = S (ixT t q) by rw [hS]]
      exact m_iret E G d_M_textTold_33 hx rfl rfl ⟨_, rfl, MC.same hS (by simp only [fTextTold, c5, tt, c15, tq, Bool.and_true, Bool.true_and, Bool.and_false, Bool.false_and, Bool.or_true, Bool.true_or, Bool.or_false, Bool.false_or, Bool.not_true, Bool.not_false, Bool.false_eq_true, decide_true, decide_false, if_true, if_false])⟩
    · replace c15 := bI_0.mp c15
      refine x_ldc G d_M_textTold_18 kc_M_98 ?_
      exact m_iret E G d_M_textTold_20 hx rfl rfl ⟨_, rfl, MC.same hS (by simp only [fTextTold, c5, tt, c15, Bool.and_true, Bool.true_and, Bool.and_false, Bool.false_and, Bool.or_true, Bool.true_or, Bool.or_false, Bool.false_or, Bool.not_true, Bool.not_false, Bool.false_eq_true, decide_true, decide_false, if_true, if_false])⟩
theorem p_M_check (g : CX) (d : Nat) (hd : 7 ≤ d) (σ : Sg) (S : Rw) (hS : σ 114 = S) (hab : σ 113 13 = -1) (I0 : Rw) (h115 : σ 115 = I0) (T : Nat) (hn : σ 113 33 = nI T) (hT60 : T ≤ 60) (W : Nat → Int32) (hW : σ 133 = W) (kept : Int32) (hkp : σ 113 3 = kept) (hk01 : kept = 0 ∨ kept = 1) (hC : kept = 1 → Inv I0 ∧ Inv2 I0 ∧ In (I0 2) 9999) (n : Int32) : RunM g d M_check [.ref 113, .int n] σ (PR (fun v σ1 => v = fCheck (mixR I0 S) T W kept n ∧ σ1 114 = S ∧ σ1 113 33 = 0 ∧ (∀ j, j ≠ 33 → σ1 113 j = σ 113 j) ∧ ∀ k, k ≠ 113 → k ≠ 114 → k ≠ 116 → k ≠ 125 → k ≠ 126 → k ≠ 127 → k ≠ 128 → k ≠ 130 → k ≠ 131 → k ≠ 132 → k ≠ 134 → σ1 k = σ k)) := by
  refine RunM.of 3 (by decide +kernel) rfl ?_
  intro κ hg hx hk0 G E
  subst hg
  have hk : 5 ≤ kn κ := Nat.le_of_eq hk0.symm
  show X κ NC 0 [some (.ref 113), some (.int n), none, none, none] [] (hv σ)
  refine x_aload0 G d_M_check_0 ?_
  refine m_geti G d_M_check_1 fl_M_327 rfl (by decide) rfl ?_
  rw [hn]
  refine x_istore2 G d_M_check_4 rfl hk ?_
  refine x_aload0 G d_M_check_5 ?_
  refine x_iconst (v := nI 0) G d_M_check_6 rfl ?_
  refine m_puti_n G d_M_check_7 fl_M_327 rfl (by decide) rfl rfl rfl (fun σ1 e1 => ?_)
  refine x_iload1 G d_M_check_10 ?_
  refine x_i2l G d_M_check_11 ?_
  refine x_lconst (v := 1) G d_M_check_12 rfl ?_
  refine x_ldc2 G d_M_check_13 kc_M_330 ?_
  refine m_callS_pi (p_M_isIn (kg κ) (d - 1) (Nat.zero_le _) _ _ (nI 1) (nI 30) _ _ _ rfl (by decide +kernel) (by decide +kernel)) G d_M_check_16 lk_M_82 (by omega) rfl (Nat.le_of_ble_eq_true rfl) hx ?_
  refine x_if_ne G d_M_check_19 (fun c19 => ?_) (fun c19 => ?_)
  · replace c19 := bI_n0.mp c19
    obtain ⟨j, hj1, hj2, tj, rfl⟩ := inB_1 (by decide) c19
    refine x_aload0 G d_M_check_25 ?_
    refine m_geti G d_M_check_26 fl_M_332 rfl (by decide) rfl ?_
    rw [show σ1 113 3 = kept by rw [e1, updS_ne (by decide)]; exact hkp]
    refine x_if_ne G d_M_check_29 (fun c29 => ?_) (fun c29 => ?_)
    · have hkn : ¬ kept = 0 := c29
      obtain ⟨hI0, hJ0, h90⟩ := hC (hk01.resolve_left hkn)
      obtain ⟨I, hIe⟩ : ∃ z, z = mixR I0 S := ⟨_, rfl⟩
      have hII : Inv I := by rw [hIe]; exact hI0.mix
      have h9I : In (I 2) 9999 := by rw [hIe, mix_lt (by decide)]; exact h90
      refine x_aload0 G d_M_check_36 ?_
      refine x_aload0 G d_M_check_37 ?_
      refine m_getr G d_M_check_38 fl_M_7 rfl (by decide) rfl ?_
      refine x_aload0 G d_M_check_41 ?_
      refine m_getr G d_M_check_42 fl_M_16 rfl (by decide) rfl ?_
      refine m_callV_pv (p_M_setAside (kg κ) (d - 1) (by omega) σ1 114 116 rfl rfl (by decide)) G d_M_check_45 lk_M_336 rfl ⟨by decide, rfl⟩ (by decide) (by omega) rfl (Nat.le_of_ble_eq_true rfl) hx (fun σ2 ⟨g1, g2⟩ => ?_)
      refine x_aload0 G d_M_check_48 ?_
      refine x_aload0 G d_M_check_49 ?_
      refine m_getr G d_M_check_50 fl_M_13 rfl (by decide) rfl ?_
      refine x_aload0 G d_M_check_53 ?_
      refine m_getr G d_M_check_54 fl_M_7 rfl (by decide) rfl ?_
      refine m_callV_pv (p_M_setAside (kg κ) (d - 1) (by omega) σ2 115 114 rfl rfl (by decide)) G d_M_check_57 lk_M_336 rfl ⟨by decide, rfl⟩ (by decide) (by omega) rfl (Nat.le_of_ble_eq_true rfl) hx (fun σ3 ⟨g3, g4⟩ => ?_)
      obtain ⟨A0, hA0⟩ : ∃ z, z = σ 116 := ⟨_, rfl⟩
      have hS3 : σ3 114 = I := by rw [g3, g2 115 (by decide), g2 114 (by decide), e1, updS_nk (by decide), updS_nk (by decide), hS, h115, hIe]
      have hA3 : σ3 116 = mixR S A0 := by rw [g4 116 (by decide), g1, e1, updS_nk (by decide), updS_nk (by decide), hS, hA0]
      have hO3 : OutN σ1 σ3 := fun c a b _ _ _ _ _ _ _ _ => (g4 c a).trans (g2 c b)
      obtain ⟨many, hmany⟩ : ∃ z, z = min j (9999 - tn (I 2)) := ⟨_, rfl⟩
      have h9I2 := h9I.2
      refine x_iconst (v := nI 0) G d_M_check_60 rfl ?_
      refine x_istore3 G d_M_check_61 rfl hk ?_
      refine x_iconst (v := nI 0) G d_M_check_62 rfl ?_
      refine x_istore4 G d_M_check_63 rfl hk ?_
      have hl1 : ∀ (z k : Nat) (σ4 : Sg), k ≤ many → many < k + z → σ4 114 = passN I (-1) k → σ4 116 = mixR S A0 → (∀ q, q < 2 * k → σ4 134 q = duD I q) → OutN σ1 σ4 → X κ NC 65 [some (.ref 113), some (.int (nI j)), some (.int (nI T)), some (.int (nI (2 * k))), some (.int (nI k))] [] (hv σ4) := by
        intro z
        induction z with
        | zero => intro k σ4 h1 h2; omega
        | succ z ih =>
          intro k σ4 hk1 hk2 hS4 hA4 hD4 hO4
          obtain ⟨kI, k0, -, kz, kA, -⟩ := passN_keep hII (-1) k (by have := h9I.2; omega)
          refine x_iload4 G d_M_check_65 ?_
          refine x_iload1 G d_M_check_67 ?_
          refine x_icmp_ge G d_M_check_68 (fun c68 => ?_) (fun c68 => ?_)
          · have hkm : k = many := by rw [nle (by omega) (by omega)] at c68; omega
            refine x_aload0 G d_M_check_120 ?_
            refine x_aload0 G d_M_check_121 ?_
            refine m_getr G d_M_check_122 fl_M_16 rfl (by decide) rfl ?_
            refine x_aload0 G d_M_check_125 ?_
            refine m_getr G d_M_check_126 fl_M_7 rfl (by decide) rfl ?_
            refine m_callV_pv (p_M_setAside (kg κ) (d - 1) (by omega) σ4 116 114 rfl rfl (by decide)) G d_M_check_129 lk_M_336 rfl ⟨by decide, rfl⟩ (by decide) (by omega) rfl (Nat.le_of_ble_eq_true rfl) hx (fun σ8 ⟨b1, b2⟩ => ?_)
            have hS8 : σ8 114 = S := by
              rw [b1, hA4, hS4]
              funext q
              rcases Nat.lt_or_ge q 2890 with w | w
              · rw [mix_lt w, mix_lt w]
              · rw [mix_ge w, kA.2 q (by omega), hIe, mix_ge w]
            have hO8 : OutN σ1 σ8 := hO4.trans (fun c a _ _ _ _ _ _ _ _ _ => b2 c a)
            have hD8 : ∀ q, q < 2 * many → σ8 134 q = duD I q := fun q hq => by rw [b2 134 (by decide)]; exact hD4 q (by omega)
            have hW8 : σ8 133 = W := by rw [hO8 133 (by decide) (by decide) (by decide) (by decide) (by decide) (by decide) (by decide) (by decide) (by decide) (by decide), e1, updS_nk (by decide)]; exact hW
            refine x_iconst (v := nI 0) G d_M_check_132 rfl ?_
            refine x_istore4 G d_M_check_133 rfl hk ?_
            have hl2 : ∀ (z q : Nat), q ≤ 2 * many → 2 * many < q + z → ckN I T W q = q → X κ NC 135 [some (.ref 113), some (.int (nI j)), some (.int (nI T)), some (.int (nI (2 * k))), some (.int (nI q))] [] (hv σ8) := by
              intro z
              induction z with
              | zero => intro q h1 h2; omega
              | succ z ih9 =>
                intro q hq1 hq2 hck
                refine x_iload4 G d_M_check_135 ?_
                refine x_iload2 G d_M_check_137 ?_
                refine x_icmp_ge G d_M_check_138 (fun c138 => ?_) (fun c138 => ?_)
                · have hK : ckN I T W (2 * many) = q := by
                    rw [nle (by omega) (by omega)] at c138
                    rcases Nat.lt_or_ge q (2 * many) with w | w
                    · exact ck_stop' hck (by omega) w
                    · rw [show 2 * many = q by omega]; exact hck
                  refine x_iload4 G d_M_check_170 ?_
                  refine x_iload2 G d_M_check_172 ?_
                  refine x_icmp_ne G d_M_check_173 (fun c173 => ?_) (fun c173 => ?_)
                  · have hne : ¬ (q = T ∧ q = 2 * many) := fun z => c173 (by rw [z.1])
                    refine x_iconst (v := nI 1) G d_M_check_186 rfl ?_
                    refine x_iload4 G d_M_check_187 ?_
                    refine x_iadd G d_M_check_189 ?_
                    rw [nI_add]
                    exact m_iret E G d_M_check_190 hx rfl rfl ⟨_, rfl, (by rw [← hIe]; simp only [fCheck, c19, tj, if_true, hkn, if_false, ← hmany, hK]; rw [if_neg hne]), hS8, (by rw [hO8 113 (by decide) (by decide) (by decide) (by decide) (by decide) (by decide) (by decide) (by decide) (by decide) (by decide), e1, updS_at]; rfl), (fun c a => by rw [hO8 113 (by decide) (by decide) (by decide) (by decide) (by decide) (by decide) (by decide) (by decide) (by decide) (by decide), e1, updS_ne (by omega)]), (fun c z a b d e f g h i l m => by rw [hO8 c a b d e f g h i l m, e1, updS_nk z])⟩
                  · have hqT2 : q = T := (neq (by have := ck_le I T W q; omega) (by omega)).mp c173
                    refine x_iload4 G d_M_check_176 ?_
                    refine x_iload3 G d_M_check_178 ?_
                    refine x_icmp_ne G d_M_check_179 (fun c179 => ?_) (fun c179 => ?_)
                    · have hne : ¬ (q = T ∧ q = 2 * many) := fun z => c179 (by rw [z.2, hkm])
                      refine x_iconst (v := nI 1) G d_M_check_186 rfl ?_
                      refine x_iload4 G d_M_check_187 ?_
                      refine x_iadd G d_M_check_189 ?_
                      rw [nI_add]
                      exact m_iret E G d_M_check_190 hx rfl rfl ⟨_, rfl, (by rw [← hIe]; simp only [fCheck, c19, tj, if_true, hkn, if_false, ← hmany, hK]; rw [if_neg hne]), hS8, (by rw [hO8 113 (by decide) (by decide) (by decide) (by decide) (by decide) (by decide) (by decide) (by decide) (by decide) (by decide), e1, updS_at]; rfl), (fun c a => by rw [hO8 113 (by decide) (by decide) (by decide) (by decide) (by decide) (by decide) (by decide) (by decide) (by decide) (by decide), e1, updS_ne (by omega)]), (fun c z a b d e f g h i l m => by rw [hO8 c a b d e f g h i l m, e1, updS_nk z])⟩
                    · have hqm2 : q = 2 * many := by rw [← hkm]; exact (neq (by omega) (by omega)).mp c179
                      refine x_iconst (v := nI 0) G d_M_check_182 rfl ?_
                      refine x_goto G d_M_check_183 ?_
                      exact m_iret E G d_M_check_190 hx rfl rfl ⟨_, rfl, (by rw [← hIe]; simp only [fCheck, c19, tj, if_true, hkn, if_false, ← hmany, hK]; rw [if_pos ⟨hqT2, hqm2⟩]), hS8, (by rw [hO8 113 (by decide) (by decide) (by decide) (by decide) (by decide) (by decide) (by decide) (by decide) (by decide) (by decide), e1, updS_at]; rfl), (fun c a => by rw [hO8 113 (by decide) (by decide) (by decide) (by decide) (by decide) (by decide) (by decide) (by decide) (by decide) (by decide), e1, updS_ne (by omega)]), (fun c z a b d e f g h i l m => by rw [hO8 c a b d e f g h i l m, e1, updS_nk z])⟩
                · have hqT : q < T := by rw [nle (by omega) (by omega)] at c138; omega
                  refine x_iload4 G d_M_check_141 ?_
                  refine x_iload3 G d_M_check_143 ?_
                  refine x_icmp_ge G d_M_check_144 (fun c144 => ?_) (fun c144 => ?_)
                  · have hK : ckN I T W (2 * many) = q := by
                      rw [nle (by omega) (by omega)] at c144
                      rw [show 2 * many = q by omega]; exact hck
                    refine x_iload4 G d_M_check_170 ?_
                    refine x_iload2 G d_M_check_172 ?_
                    refine x_icmp_ne G d_M_check_173 (fun c173 => ?_) (fun c173 => ?_)
                    · have hne : ¬ (q = T ∧ q = 2 * many) := fun z => c173 (by rw [z.1])
                      refine x_iconst (v := nI 1) G d_M_check_186 rfl ?_
                      refine x_iload4 G d_M_check_187 ?_
                      refine x_iadd G d_M_check_189 ?_
                      rw [nI_add]
                      exact m_iret E G d_M_check_190 hx rfl rfl ⟨_, rfl, (by rw [← hIe]; simp only [fCheck, c19, tj, if_true, hkn, if_false, ← hmany, hK]; rw [if_neg hne]), hS8, (by rw [hO8 113 (by decide) (by decide) (by decide) (by decide) (by decide) (by decide) (by decide) (by decide) (by decide) (by decide), e1, updS_at]; rfl), (fun c a => by rw [hO8 113 (by decide) (by decide) (by decide) (by decide) (by decide) (by decide) (by decide) (by decide) (by decide) (by decide), e1, updS_ne (by omega)]), (fun c z a b d e f g h i l m => by rw [hO8 c a b d e f g h i l m, e1, updS_nk z])⟩
                    · have hqT2 : q = T := (neq (by have := ck_le I T W q; omega) (by omega)).mp c173
                      refine x_iload4 G d_M_check_176 ?_
                      refine x_iload3 G d_M_check_178 ?_
                      refine x_icmp_ne G d_M_check_179 (fun c179 => ?_) (fun c179 => ?_)
                      · have hne : ¬ (q = T ∧ q = 2 * many) := fun z => c179 (by rw [z.2, hkm])
                        refine x_iconst (v := nI 1) G d_M_check_186 rfl ?_
                        refine x_iload4 G d_M_check_187 ?_
                        refine x_iadd G d_M_check_189 ?_
                        rw [nI_add]
                        exact m_iret E G d_M_check_190 hx rfl rfl ⟨_, rfl, (by rw [← hIe]; simp only [fCheck, c19, tj, if_true, hkn, if_false, ← hmany, hK]; rw [if_neg hne]), hS8, (by rw [hO8 113 (by decide) (by decide) (by decide) (by decide) (by decide) (by decide) (by decide) (by decide) (by decide) (by decide), e1, updS_at]; rfl), (fun c a => by rw [hO8 113 (by decide) (by decide) (by decide) (by decide) (by decide) (by decide) (by decide) (by decide) (by decide) (by decide), e1, updS_ne (by omega)]), (fun c z a b d e f g h i l m => by rw [hO8 c a b d e f g h i l m, e1, updS_nk z])⟩
                      · have hqm2 : q = 2 * many := by rw [← hkm]; exact (neq (by omega) (by omega)).mp c179
                        refine x_iconst (v := nI 0) G d_M_check_182 rfl ?_
                        refine x_goto G d_M_check_183 ?_
                        exact m_iret E G d_M_check_190 hx rfl rfl ⟨_, rfl, (by rw [← hIe]; simp only [fCheck, c19, tj, if_true, hkn, if_false, ← hmany, hK]; rw [if_pos ⟨hqT2, hqm2⟩]), hS8, (by rw [hO8 113 (by decide) (by decide) (by decide) (by decide) (by decide) (by decide) (by decide) (by decide) (by decide) (by decide), e1, updS_at]; rfl), (fun c a => by rw [hO8 113 (by decide) (by decide) (by decide) (by decide) (by decide) (by decide) (by decide) (by decide) (by decide) (by decide), e1, updS_ne (by omega)]), (fun c z a b d e f g h i l m => by rw [hO8 c a b d e f g h i l m, e1, updS_nk z])⟩
                  · have hqm : q < 2 * many := by rw [nle (by omega) (by omega)] at c144; omega
                    refine x_aload0 G d_M_check_147 ?_
                    refine m_getr G d_M_check_148 fl_M_71 rfl (by decide) rfl ?_
                    refine x_iload4 G d_M_check_151 ?_
                    refine m_iald q G d_M_check_153 rfl rfl ⟨by omega, by first | decide | omega⟩ ?_
                    rw [show σ8 133 q = W q by rw [hW8]]
                    refine x_aload0 G d_M_check_154 ?_
                    refine m_getr G d_M_check_155 fl_M_74 rfl (by decide) rfl ?_
                    refine x_iload4 G d_M_check_158 ?_
                    refine m_iald q G d_M_check_160 rfl rfl ⟨by omega, by first | decide | omega⟩ ?_
                    rw [hD8 q hqm]
                    refine x_icmp_ne G d_M_check_161 (fun c161 => ?_) (fun c161 => ?_)
                    · have hK : ckN I T W (2 * many) = q := ck_stop' hck (fun z => c161 z.2) hqm
                      refine x_iload4 G d_M_check_170 ?_
                      refine x_iload2 G d_M_check_172 ?_
                      refine x_icmp_ne G d_M_check_173 (fun c173 => ?_) (fun c173 => ?_)
                      · have hne : ¬ (q = T ∧ q = 2 * many) := fun z => c173 (by rw [z.1])
                        refine x_iconst (v := nI 1) G d_M_check_186 rfl ?_
                        refine x_iload4 G d_M_check_187 ?_
                        refine x_iadd G d_M_check_189 ?_
                        rw [nI_add]
                        exact m_iret E G d_M_check_190 hx rfl rfl ⟨_, rfl, (by rw [← hIe]; simp only [fCheck, c19, tj, if_true, hkn, if_false, ← hmany, hK]; rw [if_neg hne]), hS8, (by rw [hO8 113 (by decide) (by decide) (by decide) (by decide) (by decide) (by decide) (by decide) (by decide) (by decide) (by decide), e1, updS_at]; rfl), (fun c a => by rw [hO8 113 (by decide) (by decide) (by decide) (by decide) (by decide) (by decide) (by decide) (by decide) (by decide) (by decide), e1, updS_ne (by omega)]), (fun c z a b d e f g h i l m => by rw [hO8 c a b d e f g h i l m, e1, updS_nk z])⟩
                      · have hqT2 : q = T := (neq (by have := ck_le I T W q; omega) (by omega)).mp c173
                        refine x_iload4 G d_M_check_176 ?_
                        refine x_iload3 G d_M_check_178 ?_
                        refine x_icmp_ne G d_M_check_179 (fun c179 => ?_) (fun c179 => ?_)
                        · have hne : ¬ (q = T ∧ q = 2 * many) := fun z => c179 (by rw [z.2, hkm])
                          refine x_iconst (v := nI 1) G d_M_check_186 rfl ?_
                          refine x_iload4 G d_M_check_187 ?_
                          refine x_iadd G d_M_check_189 ?_
                          rw [nI_add]
                          exact m_iret E G d_M_check_190 hx rfl rfl ⟨_, rfl, (by rw [← hIe]; simp only [fCheck, c19, tj, if_true, hkn, if_false, ← hmany, hK]; rw [if_neg hne]), hS8, (by rw [hO8 113 (by decide) (by decide) (by decide) (by decide) (by decide) (by decide) (by decide) (by decide) (by decide) (by decide), e1, updS_at]; rfl), (fun c a => by rw [hO8 113 (by decide) (by decide) (by decide) (by decide) (by decide) (by decide) (by decide) (by decide) (by decide) (by decide), e1, updS_ne (by omega)]), (fun c z a b d e f g h i l m => by rw [hO8 c a b d e f g h i l m, e1, updS_nk z])⟩
                        · have hqm2 : q = 2 * many := by rw [← hkm]; exact (neq (by omega) (by omega)).mp c179
                          refine x_iconst (v := nI 0) G d_M_check_182 rfl ?_
                          refine x_goto G d_M_check_183 ?_
                          exact m_iret E G d_M_check_190 hx rfl rfl ⟨_, rfl, (by rw [← hIe]; simp only [fCheck, c19, tj, if_true, hkn, if_false, ← hmany, hK]; rw [if_pos ⟨hqT2, hqm2⟩]), hS8, (by rw [hO8 113 (by decide) (by decide) (by decide) (by decide) (by decide) (by decide) (by decide) (by decide) (by decide) (by decide), e1, updS_at]; rfl), (fun c a => by rw [hO8 113 (by decide) (by decide) (by decide) (by decide) (by decide) (by decide) (by decide) (by decide) (by decide) (by decide), e1, updS_ne (by omega)]), (fun c z a b d e f g h i l m => by rw [hO8 c a b d e f g h i l m, e1, updS_nk z])⟩
                    · refine x_iinc4 (v := nI (q + 1)) G d_M_check_164 rfl hk (nI_1 _) ?_
                      refine x_goto G d_M_check_167 ?_
                      exact ih9 (q + 1) (by omega) (by omega) (ck_go hck hqT c161)
            exact hl2 (2 * many + 1) 0 (Nat.zero_le _) (by omega) rfl
          · have hkj : k < j := by rw [nle (by omega) (by omega)] at c68; omega
            refine x_aload0 G d_M_check_71 ?_
            refine m_getr G d_M_check_72 fl_M_7 rfl (by decide) rfl ?_
            refine x_iconst (v := nI 2) G d_M_check_75 rfl ?_
            refine m_iald 2 G d_M_check_76 rfl rfl ⟨by omega, by first | decide | omega⟩ ?_
            rw [show σ4 114 2 = nI (tn (I 2) + k) by rw [hS4]; exact kz]
            refine x_sipush (v := nI 9999) G d_M_check_77 rfl ?_
            refine x_icmp_ge G d_M_check_80 (fun c80 => ?_) (fun c80 => ?_)
            · have hkm : k = many := by rw [nle (by decide) (by omega)] at c80; omega
              refine x_aload0 G d_M_check_120 ?_
              refine x_aload0 G d_M_check_121 ?_
              refine m_getr G d_M_check_122 fl_M_16 rfl (by decide) rfl ?_
              refine x_aload0 G d_M_check_125 ?_
              refine m_getr G d_M_check_126 fl_M_7 rfl (by decide) rfl ?_
              refine m_callV_pv (p_M_setAside (kg κ) (d - 1) (by omega) σ4 116 114 rfl rfl (by decide)) G d_M_check_129 lk_M_336 rfl ⟨by decide, rfl⟩ (by decide) (by omega) rfl (Nat.le_of_ble_eq_true rfl) hx (fun σ8 ⟨b1, b2⟩ => ?_)
              have hS8 : σ8 114 = S := by
                rw [b1, hA4, hS4]
                funext q
                rcases Nat.lt_or_ge q 2890 with w | w
                · rw [mix_lt w, mix_lt w]
                · rw [mix_ge w, kA.2 q (by omega), hIe, mix_ge w]
              have hO8 : OutN σ1 σ8 := hO4.trans (fun c a _ _ _ _ _ _ _ _ _ => b2 c a)
              have hD8 : ∀ q, q < 2 * many → σ8 134 q = duD I q := fun q hq => by rw [b2 134 (by decide)]; exact hD4 q (by omega)
              have hW8 : σ8 133 = W := by rw [hO8 133 (by decide) (by decide) (by decide) (by decide) (by decide) (by decide) (by decide) (by decide) (by decide) (by decide), e1, updS_nk (by decide)]; exact hW
              refine x_iconst (v := nI 0) G d_M_check_132 rfl ?_
              refine x_istore4 G d_M_check_133 rfl hk ?_
              have hl2 : ∀ (z q : Nat), q ≤ 2 * many → 2 * many < q + z → ckN I T W q = q → X κ NC 135 [some (.ref 113), some (.int (nI j)), some (.int (nI T)), some (.int (nI (2 * k))), some (.int (nI q))] [] (hv σ8) := by
                intro z
                induction z with
                | zero => intro q h1 h2; omega
                | succ z ih9 =>
                  intro q hq1 hq2 hck
                  refine x_iload4 G d_M_check_135 ?_
                  refine x_iload2 G d_M_check_137 ?_
                  refine x_icmp_ge G d_M_check_138 (fun c138 => ?_) (fun c138 => ?_)
                  · have hK : ckN I T W (2 * many) = q := by
                      rw [nle (by omega) (by omega)] at c138
                      rcases Nat.lt_or_ge q (2 * many) with w | w
                      · exact ck_stop' hck (by omega) w
                      · rw [show 2 * many = q by omega]; exact hck
                    refine x_iload4 G d_M_check_170 ?_
                    refine x_iload2 G d_M_check_172 ?_
                    refine x_icmp_ne G d_M_check_173 (fun c173 => ?_) (fun c173 => ?_)
                    · have hne : ¬ (q = T ∧ q = 2 * many) := fun z => c173 (by rw [z.1])
                      refine x_iconst (v := nI 1) G d_M_check_186 rfl ?_
                      refine x_iload4 G d_M_check_187 ?_
                      refine x_iadd G d_M_check_189 ?_
                      rw [nI_add]
                      exact m_iret E G d_M_check_190 hx rfl rfl ⟨_, rfl, (by rw [← hIe]; simp only [fCheck, c19, tj, if_true, hkn, if_false, ← hmany, hK]; rw [if_neg hne]), hS8, (by rw [hO8 113 (by decide) (by decide) (by decide) (by decide) (by decide) (by decide) (by decide) (by decide) (by decide) (by decide), e1, updS_at]; rfl), (fun c a => by rw [hO8 113 (by decide) (by decide) (by decide) (by decide) (by decide) (by decide) (by decide) (by decide) (by decide) (by decide), e1, updS_ne (by omega)]), (fun c z a b d e f g h i l m => by rw [hO8 c a b d e f g h i l m, e1, updS_nk z])⟩
                    · have hqT2 : q = T := (neq (by have := ck_le I T W q; omega) (by omega)).mp c173
                      refine x_iload4 G d_M_check_176 ?_
                      refine x_iload3 G d_M_check_178 ?_
                      refine x_icmp_ne G d_M_check_179 (fun c179 => ?_) (fun c179 => ?_)
                      · have hne : ¬ (q = T ∧ q = 2 * many) := fun z => c179 (by rw [z.2, hkm])
                        refine x_iconst (v := nI 1) G d_M_check_186 rfl ?_
                        refine x_iload4 G d_M_check_187 ?_
                        refine x_iadd G d_M_check_189 ?_
                        rw [nI_add]
                        exact m_iret E G d_M_check_190 hx rfl rfl ⟨_, rfl, (by rw [← hIe]; simp only [fCheck, c19, tj, if_true, hkn, if_false, ← hmany, hK]; rw [if_neg hne]), hS8, (by rw [hO8 113 (by decide) (by decide) (by decide) (by decide) (by decide) (by decide) (by decide) (by decide) (by decide) (by decide), e1, updS_at]; rfl), (fun c a => by rw [hO8 113 (by decide) (by decide) (by decide) (by decide) (by decide) (by decide) (by decide) (by decide) (by decide) (by decide), e1, updS_ne (by omega)]), (fun c z a b d e f g h i l m => by rw [hO8 c a b d e f g h i l m, e1, updS_nk z])⟩
                      · have hqm2 : q = 2 * many := by rw [← hkm]; exact (neq (by omega) (by omega)).mp c179
                        refine x_iconst (v := nI 0) G d_M_check_182 rfl ?_
                        refine x_goto G d_M_check_183 ?_
                        exact m_iret E G d_M_check_190 hx rfl rfl ⟨_, rfl, (by rw [← hIe]; simp only [fCheck, c19, tj, if_true, hkn, if_false, ← hmany, hK]; rw [if_pos ⟨hqT2, hqm2⟩]), hS8, (by rw [hO8 113 (by decide) (by decide) (by decide) (by decide) (by decide) (by decide) (by decide) (by decide) (by decide) (by decide), e1, updS_at]; rfl), (fun c a => by rw [hO8 113 (by decide) (by decide) (by decide) (by decide) (by decide) (by decide) (by decide) (by decide) (by decide) (by decide), e1, updS_ne (by omega)]), (fun c z a b d e f g h i l m => by rw [hO8 c a b d e f g h i l m, e1, updS_nk z])⟩
                  · have hqT : q < T := by rw [nle (by omega) (by omega)] at c138; omega
                    refine x_iload4 G d_M_check_141 ?_
                    refine x_iload3 G d_M_check_143 ?_
                    refine x_icmp_ge G d_M_check_144 (fun c144 => ?_) (fun c144 => ?_)
                    · have hK : ckN I T W (2 * many) = q := by
                        rw [nle (by omega) (by omega)] at c144
                        rw [show 2 * many = q by omega]; exact hck
                      refine x_iload4 G d_M_check_170 ?_
                      refine x_iload2 G d_M_check_172 ?_
                      refine x_icmp_ne G d_M_check_173 (fun c173 => ?_) (fun c173 => ?_)
                      · have hne : ¬ (q = T ∧ q = 2 * many) := fun z => c173 (by rw [z.1])
                        refine x_iconst (v := nI 1) G d_M_check_186 rfl ?_
                        refine x_iload4 G d_M_check_187 ?_
                        refine x_iadd G d_M_check_189 ?_
                        rw [nI_add]
                        exact m_iret E G d_M_check_190 hx rfl rfl ⟨_, rfl, (by rw [← hIe]; simp only [fCheck, c19, tj, if_true, hkn, if_false, ← hmany, hK]; rw [if_neg hne]), hS8, (by rw [hO8 113 (by decide) (by decide) (by decide) (by decide) (by decide) (by decide) (by decide) (by decide) (by decide) (by decide), e1, updS_at]; rfl), (fun c a => by rw [hO8 113 (by decide) (by decide) (by decide) (by decide) (by decide) (by decide) (by decide) (by decide) (by decide) (by decide), e1, updS_ne (by omega)]), (fun c z a b d e f g h i l m => by rw [hO8 c a b d e f g h i l m, e1, updS_nk z])⟩
                      · have hqT2 : q = T := (neq (by have := ck_le I T W q; omega) (by omega)).mp c173
                        refine x_iload4 G d_M_check_176 ?_
                        refine x_iload3 G d_M_check_178 ?_
                        refine x_icmp_ne G d_M_check_179 (fun c179 => ?_) (fun c179 => ?_)
                        · have hne : ¬ (q = T ∧ q = 2 * many) := fun z => c179 (by rw [z.2, hkm])
                          refine x_iconst (v := nI 1) G d_M_check_186 rfl ?_
                          refine x_iload4 G d_M_check_187 ?_
                          refine x_iadd G d_M_check_189 ?_
                          rw [nI_add]
                          exact m_iret E G d_M_check_190 hx rfl rfl ⟨_, rfl, (by rw [← hIe]; simp only [fCheck, c19, tj, if_true, hkn, if_false, ← hmany, hK]; rw [if_neg hne]), hS8, (by rw [hO8 113 (by decide) (by decide) (by decide) (by decide) (by decide) (by decide) (by decide) (by decide) (by decide) (by decide), e1, updS_at]; rfl), (fun c a => by rw [hO8 113 (by decide) (by decide) (by decide) (by decide) (by decide) (by decide) (by decide) (by decide) (by decide) (by decide), e1, updS_ne (by omega)]), (fun c z a b d e f g h i l m => by rw [hO8 c a b d e f g h i l m, e1, updS_nk z])⟩
                        · have hqm2 : q = 2 * many := by rw [← hkm]; exact (neq (by omega) (by omega)).mp c179
                          refine x_iconst (v := nI 0) G d_M_check_182 rfl ?_
                          refine x_goto G d_M_check_183 ?_
                          exact m_iret E G d_M_check_190 hx rfl rfl ⟨_, rfl, (by rw [← hIe]; simp only [fCheck, c19, tj, if_true, hkn, if_false, ← hmany, hK]; rw [if_pos ⟨hqT2, hqm2⟩]), hS8, (by rw [hO8 113 (by decide) (by decide) (by decide) (by decide) (by decide) (by decide) (by decide) (by decide) (by decide) (by decide), e1, updS_at]; rfl), (fun c a => by rw [hO8 113 (by decide) (by decide) (by decide) (by decide) (by decide) (by decide) (by decide) (by decide) (by decide) (by decide), e1, updS_ne (by omega)]), (fun c z a b d e f g h i l m => by rw [hO8 c a b d e f g h i l m, e1, updS_nk z])⟩
                    · have hqm : q < 2 * many := by rw [nle (by omega) (by omega)] at c144; omega
                      refine x_aload0 G d_M_check_147 ?_
                      refine m_getr G d_M_check_148 fl_M_71 rfl (by decide) rfl ?_
                      refine x_iload4 G d_M_check_151 ?_
                      refine m_iald q G d_M_check_153 rfl rfl ⟨by omega, by first | decide | omega⟩ ?_
                      rw [show σ8 133 q = W q by rw [hW8]]
                      refine x_aload0 G d_M_check_154 ?_
                      refine m_getr G d_M_check_155 fl_M_74 rfl (by decide) rfl ?_
                      refine x_iload4 G d_M_check_158 ?_
                      refine m_iald q G d_M_check_160 rfl rfl ⟨by omega, by first | decide | omega⟩ ?_
                      rw [hD8 q hqm]
                      refine x_icmp_ne G d_M_check_161 (fun c161 => ?_) (fun c161 => ?_)
                      · have hK : ckN I T W (2 * many) = q := ck_stop' hck (fun z => c161 z.2) hqm
                        refine x_iload4 G d_M_check_170 ?_
                        refine x_iload2 G d_M_check_172 ?_
                        refine x_icmp_ne G d_M_check_173 (fun c173 => ?_) (fun c173 => ?_)
                        · have hne : ¬ (q = T ∧ q = 2 * many) := fun z => c173 (by rw [z.1])
                          refine x_iconst (v := nI 1) G d_M_check_186 rfl ?_
                          refine x_iload4 G d_M_check_187 ?_
                          refine x_iadd G d_M_check_189 ?_
                          rw [nI_add]
                          exact m_iret E G d_M_check_190 hx rfl rfl ⟨_, rfl, (by rw [← hIe]; simp only [fCheck, c19, tj, if_true, hkn, if_false, ← hmany, hK]; rw [if_neg hne]), hS8, (by rw [hO8 113 (by decide) (by decide) (by decide) (by decide) (by decide) (by decide) (by decide) (by decide) (by decide) (by decide), e1, updS_at]; rfl), (fun c a => by rw [hO8 113 (by decide) (by decide) (by decide) (by decide) (by decide) (by decide) (by decide) (by decide) (by decide) (by decide), e1, updS_ne (by omega)]), (fun c z a b d e f g h i l m => by rw [hO8 c a b d e f g h i l m, e1, updS_nk z])⟩
                        · have hqT2 : q = T := (neq (by have := ck_le I T W q; omega) (by omega)).mp c173
                          refine x_iload4 G d_M_check_176 ?_
                          refine x_iload3 G d_M_check_178 ?_
                          refine x_icmp_ne G d_M_check_179 (fun c179 => ?_) (fun c179 => ?_)
                          · have hne : ¬ (q = T ∧ q = 2 * many) := fun z => c179 (by rw [z.2, hkm])
                            refine x_iconst (v := nI 1) G d_M_check_186 rfl ?_
                            refine x_iload4 G d_M_check_187 ?_
                            refine x_iadd G d_M_check_189 ?_
                            rw [nI_add]
                            exact m_iret E G d_M_check_190 hx rfl rfl ⟨_, rfl, (by rw [← hIe]; simp only [fCheck, c19, tj, if_true, hkn, if_false, ← hmany, hK]; rw [if_neg hne]), hS8, (by rw [hO8 113 (by decide) (by decide) (by decide) (by decide) (by decide) (by decide) (by decide) (by decide) (by decide) (by decide), e1, updS_at]; rfl), (fun c a => by rw [hO8 113 (by decide) (by decide) (by decide) (by decide) (by decide) (by decide) (by decide) (by decide) (by decide) (by decide), e1, updS_ne (by omega)]), (fun c z a b d e f g h i l m => by rw [hO8 c a b d e f g h i l m, e1, updS_nk z])⟩
                          · have hqm2 : q = 2 * many := by rw [← hkm]; exact (neq (by omega) (by omega)).mp c179
                            refine x_iconst (v := nI 0) G d_M_check_182 rfl ?_
                            refine x_goto G d_M_check_183 ?_
                            exact m_iret E G d_M_check_190 hx rfl rfl ⟨_, rfl, (by rw [← hIe]; simp only [fCheck, c19, tj, if_true, hkn, if_false, ← hmany, hK]; rw [if_pos ⟨hqT2, hqm2⟩]), hS8, (by rw [hO8 113 (by decide) (by decide) (by decide) (by decide) (by decide) (by decide) (by decide) (by decide) (by decide) (by decide), e1, updS_at]; rfl), (fun c a => by rw [hO8 113 (by decide) (by decide) (by decide) (by decide) (by decide) (by decide) (by decide) (by decide) (by decide) (by decide), e1, updS_ne (by omega)]), (fun c z a b d e f g h i l m => by rw [hO8 c a b d e f g h i l m, e1, updS_nk z])⟩
                      · refine x_iinc4 (v := nI (q + 1)) G d_M_check_164 rfl hk (nI_1 _) ?_
                        refine x_goto G d_M_check_167 ?_
                        exact ih9 (q + 1) (by omega) (by omega) (ck_go hck hqT c161)
              exact hl2 (2 * many + 1) 0 (Nat.zero_le _) (by omega) rfl
            · have hkm2 : k < many := by rw [nle (by decide) (by omega)] at c80; omega
              refine x_aload0 G d_M_check_83 ?_
              refine m_callV_pv (p_M_goesOn (kg κ) (d - 1) (by omega) σ4 _ hS4 kI (-1) (by rw [hO4 113 (by decide) (by decide) (by decide) (by decide) (by decide) (by decide) (by decide) (by decide) (by decide) (by decide), e1, updS_ne (by decide)]; exact hab)) G d_M_check_84 lk_M_173 rfl ⟨by decide, rfl⟩ (by decide) (by omega) rfl (Nat.le_of_ble_eq_true rfl) hx (fun σ5 ⟨q1, q2, q3⟩ => ?_)
              refine x_aload0 G d_M_check_87 ?_
              refine m_getr G d_M_check_88 fl_M_74 rfl (by decide) rfl ?_
              refine x_iload3 G d_M_check_91 ?_
              refine x_aload0 G d_M_check_92 ?_
              refine m_getr G d_M_check_93 fl_M_7 rfl (by decide) rfl ?_
              refine x_iconst (v := nI 3) G d_M_check_96 rfl ?_
              refine m_iald 3 G d_M_check_97 rfl rfl ⟨by omega, by first | decide | omega⟩ ?_
              rw [show σ5 114 3 = duD I (2 * k) by rw [q1]; unfold duD; rw [if_pos (by omega), show 2 * k / 2 + 1 = k + 1 by omega]; rfl]
              refine m_iast_n (2 * k) G d_M_check_98 rfl rfl ⟨by omega, by first | decide | omega⟩ (fun σ6 e6 => ?_)
              refine x_aload0 G d_M_check_99 ?_
              refine m_getr G d_M_check_100 fl_M_74 rfl (by decide) rfl ?_
              refine x_iload3 G d_M_check_103 ?_
              refine x_iconst (v := nI 1) G d_M_check_104 rfl ?_
              refine x_iadd G d_M_check_105 ?_
              rw [nI_add]
              refine x_aload0 G d_M_check_106 ?_
              refine m_callV_pi (p_M_allCorn (kg κ) (d - 1) (by omega) σ6 (passN I (-1) (k + 1)) (by rw [e6, updS_nk (by decide)]; exact q1)) G d_M_check_107 lk_M_176 rfl ⟨by decide, rfl⟩ (by decide) (by omega) rfl (Nat.le_of_ble_eq_true rfl) hx ?_
              rw [show sumN (fun f => passN I (-1) (k + 1) (ixF f 1)) 9 = duD I (2 * k + 1) by unfold duD; rw [if_neg (by omega), show (2 * k + 1) / 2 + 1 = k + 1 by omega]]
              refine m_iast_n (2 * k + 1) G d_M_check_110 rfl rfl ⟨by omega, by first | decide | omega⟩ (fun σ7 e7 => ?_)
              have hS7 : σ7 114 = passN I (-1) (k + 1) := by rw [e7, updS_nk (by decide), e6, updS_nk (by decide)]; exact q1
              have hA7 : σ7 116 = mixR S A0 := by rw [e7, updS_nk (by decide), e6, updS_nk (by decide), q3 116 (by decide) (by decide) (by decide) (by decide)]; exact hA4
              have hD7 : ∀ q, q < 2 * (k + 1) → σ7 134 q = duD I q := fun q hq => by
                by_cases w1 : q = 2 * k + 1
                · rw [w1, e7, updS_at]
                · by_cases w2 : q = 2 * k
                  · rw [w2, e7, updS_ne (by omega), e6, updS_at]
                  · rw [e7, updS_ne (by omega), e6, updS_ne (by omega), q3 134 (by decide) (by decide) (by decide) (by decide)]; exact hD4 q (by omega)
              have hO7 : OutN σ1 σ7 := by rw [e7, e6]; exact ((hO4.trans (OutN.of q3)).upd (by omega)).upd (by omega)
              refine x_iinc3 (v := nI (2 * (k + 1))) G d_M_check_111 rfl hk (nI_add _ _) ?_
              refine x_iinc4 (v := nI (k + 1)) G d_M_check_114 rfl hk (nI_1 _) ?_
              refine x_goto G d_M_check_117 ?_
              exact ih (k + 1) σ7 (by omega) (by omega) hS7 hA7 hD7 hO7
      exact hl1 (many + 1) 0 σ3 (Nat.zero_le _) (by omega) hS3 hA3 (fun q hq => absurd hq (Nat.not_lt_zero q)) hO3
    · refine x_ldcw G d_M_check_32 kc_M_326 ?_
      exact m_iret E G d_M_check_35 hx rfl rfl ⟨_, rfl, (by simp only [fCheck, c19, c29, if_true]), (by rw [e1, updS_nk (by decide)]; exact hS), (by rw [e1, updS_at]; rfl), (fun c a => by rw [e1, updS_ne (by omega)]), (fun c z _ _ _ _ _ _ _ _ _ _ => by rw [e1, updS_nk z])⟩
  · replace c19 := bI_0.mp c19
    refine x_ldc G d_M_check_22 kc_M_98 ?_
    exact m_iret E G d_M_check_24 hx rfl rfl ⟨_, rfl, (by simp only [fCheck, c19]; rfl), (by rw [e1, updS_nk (by decide)]; exact hS), (by rw [e1, updS_at]; rfl), (fun c a => by rw [e1, updS_ne (by omega)]), (fun c z _ _ _ _ _ _ _ _ _ _ => by rw [e1, updS_nk z])⟩
