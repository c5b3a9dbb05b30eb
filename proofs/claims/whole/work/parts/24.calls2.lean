/-! noons, year, deal: the class's side -/
theorem mnI {a b : Nat} (ha : a < 2 ^ 31) (hb : b < 2 ^ 31) : (if nI b < nI a then nI b else nI a) = nI (min a b) := by
  by_cases h : b < a
  · rw [if_pos ((nlt hb ha).mpr h), Nat.min_eq_right (by omega)]
  · rw [if_neg (fun q => h ((nlt hb ha).mp q)), Nat.min_eq_left (by omega)]
theorem sw_ix (x : Int32) (n : Nat) (hn : n < 2 ^ 31) : (∃ k, k < n ∧ x = nI k) ∨ (x.toInt < 0 ∨ (n : Int) - 1 < x.toInt) := by
  rcases pk_ix x hn with h | h | h
  · right; left; rw [Int32.lt_iff_toInt_lt] at h; exact h
  · right; right; rw [Int32.le_iff_toInt_le, nI_toInt hn] at h; omega
  · exact Or.inl h
theorem sw5 (x : Int32) : x = nI 0 ∨ x = nI 1 ∨ x = nI 2 ∨ x = nI 3 ∨ x = nI 4 ∨ (x.toInt < 0 ∨ 4 < x.toInt) := by
  rcases sw_ix x 5 (by decide) with ⟨k, hk, rfl⟩ | h
  · have : k = 0 ∨ k = 1 ∨ k = 2 ∨ k = 3 ∨ k = 4 := by omega
    rcases this with rfl | rfl | rfl | rfl | rfl <;> simp
  · right; right; right; right; right; omega
theorem sw_ne {x : Int32} {k n : Nat} (h : x.toInt < 0 ∨ (n : Int) < x.toInt) (hk : k ≤ n) (hn : n < 2 ^ 31) : ¬ x = nI k := by
  rintro rfl
  rw [nI_toInt (by omega)] at h
  omega
theorem fCome_keep {S : Rw} (hI : Inv S) {k h i : Int32} (hk : In k 5) (hh : In h 8) (hi : In i 99) : Inv (fCome S k h i).2 ∧ AgT S (fCome S k h i).2 ∧ (fCome S k h i).2 2 = S 2 := by
  unfold fCome
  split
  · rename_i hn
    dsimp only
    refine ⟨?_, ?_, ?_⟩
    · have hT : AgT S (upd (upd (upd (upd S (ixP (tn (S 0)) 0) k) (ixP (tn (S 0)) 1) h) (ixP (tn (S 0)) 2) i) 0 (nI (tn (S 0) + 1))) :=
        (((AgT.refl.upd (by unfold ixP; omega) (by unfold ixP; omega)).upd (by unfold ixP; omega) (by unfold ixP; omega)).upd (by unfold ixP; omega) (by unfold ixP; omega)).upd (by omega) (by omega)
      refine ⟨?_, ?_, ?_, ?_, ?_, ?_, ?_⟩
      · rw [pk_us]; exact In.mk' (by omega) (by omega)
      · rw [hT.1]; exact hI.2.1
      · rw [pk_un (by decide), pk_un (by unfold ixP; omega), pk_un (by unfold ixP; omega), pk_un (by unfold ixP; omega)]; exact hI.2.2.1
      · rw [pk_un (by decide), pk_un (by unfold ixP; omega), pk_un (by unfold ixP; omega), pk_un (by unfold ixP; omega)]; exact hI.2.2.2.1
      · intro f hf
        have e : ∀ q, q < 3 → (upd (upd (upd (upd S (ixP (tn (S 0)) 0) k) (ixP (tn (S 0)) 1) h) (ixP (tn (S 0)) 2) i) 0 (nI (tn (S 0) + 1))) (ixF f q) = S (ixF f q) := by
          intro q hq
          rw [pk_un (by unfold ixF; omega), pk_un (by unfold ixP ixF; omega), pk_un (by unfold ixP ixF; omega), pk_un (by unfold ixP ixF; omega)]
        rw [e 0 (by decide), e 1 (by decide), e 2 (by decide)]
        exact hI.2.2.2.2.1 f hf
      · intro p hp
        by_cases q : p = tn (S 0)
        · rw [q]
          refine ⟨?_, ?_, ?_⟩
          · rw [pk_un (by unfold ixP; omega), pk_un (by unfold ixP; omega), pk_un (by unfold ixP; omega), pk_us]; exact hk
          · rw [pk_un (by unfold ixP; omega), pk_un (by unfold ixP; omega), pk_us]; exact hh
          · rw [pk_un (by unfold ixP; omega), pk_us]; exact hi
        · have e : ∀ c, c < 3 → (upd (upd (upd (upd S (ixP (tn (S 0)) 0) k) (ixP (tn (S 0)) 1) h) (ixP (tn (S 0)) 2) i) 0 (nI (tn (S 0) + 1))) (ixP p c) = S (ixP p c) := by
            intro c hc
            rw [pk_un (by unfold ixP; omega), pk_un (by unfold ixP; omega), pk_un (by unfold ixP; omega), pk_un (by unfold ixP; omega)]
          rw [e 0 (by decide), e 1 (by decide), e 2 (by decide)]
          exact hI.2.2.2.2.2.1 p hp
      · intro t ht
        rw [hT.1] at ht
        exact TV_agT hT (hI.2.2.2.2.2.2 t ht)
    · exact (((AgT.refl.upd (by unfold ixP; omega) (by unfold ixP; omega)).upd (by unfold ixP; omega) (by unfold ixP; omega)).upd (by unfold ixP; omega) (by unfold ixP; omega)).upd (by omega) (by omega)
    · rw [pk_un (by decide), pk_un (by unfold ixP; omega), pk_un (by unfold ixP; omega), pk_un (by unfold ixP; omega)]
  · exact ⟨hI, AgT.refl, rfl⟩
theorem Inv.z6 {S : Rw} (h : Inv S) (x : Int32) : Inv (upd S 6 x) := Keep.inv (Keep.put Keep.refl (Or.inl (by omega))) h
theorem dealN_keep {S : Rw} (hI : Inv S) : ∀ n, Inv (dealN S n) ∧ AgT S (dealN S n) ∧ dealN S n 2 = S 2
  | 0 => ⟨hI, AgT.refl, rfl⟩
  | n + 1 => by
    obtain ⟨h1, h2, h3⟩ := dealN_keep hI n
    obtain ⟨g1, g2, g3⟩ := fCome_keep (h1.z6 (zn (zn (zn (dealN S n 6))))) (irm_rng (z := zn (dealN S n 6)) (m := 6) (by decide) (by decide)) (irm_rng (z := zn (zn (dealN S n 6))) (m := 9) (by decide) (by decide)) ((irm_rng (z := zn (zn (zn (dealN S n 6)))) (m := 60) (by decide) (by decide)).weak (by decide))
    refine ⟨g1, (h2.trans (AgT.refl.upd (by decide) (by decide))).trans g2, g3.trans ?_⟩
    rw [pk_un (by decide)]; exact h3
theorem dealN_n {S : Rw} (hI : Inv S) : ∀ n, n + tn (S 0) ≤ 8 → dealN S n 0 = nI (tn (S 0) + n)
  | 0, _ => hI.n.1
  | n + 1, h => by
    have e := dealN_n hI n (by omega)
    rw [dealN]
    unfold fCome
    rw [pk_un (by decide), e, tn_nI (by omega), if_pos (by omega)]
    dsimp only
    rw [pk_us, Nat.add_assoc]
theorem p_N_noons (g : CX) (d : Nat) (hd : 6 ≤ d) (σ : Sg) (S : Rw) (hO : CO S σ) (n : Int32) : RunM g d N_noons [.ref 0, .int n] σ (PR (RC (fNoons S n) σ)) := by
  refine RunM.of 1 (by decide +kernel) rfl ?_
  intro κ hg hx hk0 G E
  subst hg
  have hk : 3 ≤ kn κ := Nat.le_of_eq hk0.symm
  show X κ NC 0 [some (.ref 0), some (.int n), none] [] (hv σ)
  obtain ⟨hR, hL, hI, hJ, h9⟩ := hO
  have hn8 := hI.n
  refine x_iload1 G d_N_noons_0 ?_
  refine x_iconst (v := nI 1) G d_N_noons_1 rfl ?_
  refine x_icmp_lt G d_N_noons_2 (fun c2 => ?_) (fun c2 => ?_)
  · have cin : inB n (nI 1) (nI 100) = false := by simp only [inB, c2, decide_true, Bool.not_true, Bool.false_and]
    refine x_ldc G d_N_noons_11 kc_N_102 ?_
    exact m_iret E G d_N_noons_13 hx rfl rfl ⟨_, rfl, RC.same hR (by simp only [fNoons, cin, Bool.and_true, Bool.true_and, Bool.and_false, Bool.false_and, Bool.or_true, Bool.true_or, Bool.or_false, Bool.false_or, Bool.not_true, Bool.not_false, Bool.false_eq_true, decide_true, decide_false, if_true, if_false])⟩
  · refine x_iload1 G d_N_noons_5 ?_
    refine x_bipush (v := nI 100) G d_N_noons_6 rfl ?_
    refine x_icmp_le G d_N_noons_8 (fun c8 => ?_) (fun c8 => ?_)
    · replace c8 := Int32.not_lt.mpr c8
      have cin : inB n (nI 1) (nI 100) = true := by simp only [inB, c2, c8, decide_false, Bool.not_false, Bool.and_true]
      obtain ⟨j, hj1, hj2, tj, rfl⟩ := inB_1 (by decide) cin
      refine x_aload0 G d_N_noons_14 ?_
      refine m_getr G d_N_noons_15 fl_N_43 rfl (by decide) rfl ?_
      refine m_geti G d_N_noons_18 fl_N_168 rfl (by decide) rfl ?_
      refine x_istore2 G d_N_noons_21 rfl hk ?_
      refine x_aload0 G d_N_noons_22 ?_
      refine m_getr G d_N_noons_23 fl_N_43 rfl (by decide) rfl ?_
      refine x_iload1 G d_N_noons_26 ?_
      refine x_sipush (v := nI 9999) G d_N_noons_27 rfl ?_
      refine x_aload0 G d_N_noons_30 ?_
      refine m_getr G d_N_noons_31 fl_N_43 rfl (by decide) rfl ?_
      refine m_geti G d_N_noons_34 fl_N_171 rfl (by decide) rfl ?_
      rw [show σ 28 8 = nI (tn (S 2)) by rw [hR.noon]; exact h9.1]
      refine x_isub G d_N_noons_37 ?_
      rw [pk_sub h9.2]
      refine x_min lm_N_156 G d_N_noons_38 (by omega) (Nat.le_of_ble_eq_true rfl) (Nat.le_of_eq hx.symm) ?_
      rw [mnI (by omega) (by omega)]
      refine x_iconst (v := (-1)) G d_N_noons_41 rfl ?_
      refine m_callV_pv (p_Wo_pass (kg κ) (d - 1) (by omega) σ 28 hw28 S hR hI hL (min j (9999 - tn (S 2))) (by have := h9.2; omega) (-1)) G d_N_noons_42 lk_N_174 rfl ⟨by decide, rfl⟩ (by decide) (by omega) rfl (Nat.le_of_ble_eq_true rfl) hx (fun σ1 ⟨g1, g2, _⟩ => ?_)
      refine x_aload0 G d_N_noons_45 ?_
      refine m_getr G d_N_noons_46 fl_N_43 rfl (by decide) rfl ?_
      refine m_geti G d_N_noons_49 fl_N_168 rfl (by decide) rfl ?_
      refine x_iload2 G d_N_noons_52 ?_
      refine x_isub G d_N_noons_53 ?_
      exact m_iret E G d_N_noons_54 hx rfl rfl ⟨_, rfl, RC.mk' (S1 := passN S (-1) (min j (9999 - tn (S 2)))) (v1 := passN S (-1) (min j (9999 - tn (S 2))) 4 - S 4) (by simp only [fNoons, cin, tj, Bool.and_true, Bool.true_and, Bool.and_false, Bool.false_and, Bool.or_true, Bool.true_or, Bool.or_false, Bool.false_or, Bool.not_true, Bool.not_false, Bool.false_eq_true, decide_true, decide_false, if_true, if_false]) (by rw [show σ1 28 11 = _ from g1.left, show σ 28 11 = _ from hR.left]) g1 (OutC.of (Or.inl rfl) g2)⟩
    · replace c8 := Int32.not_le.mp c8
      have cin : inB n (nI 1) (nI 100) = false := by simp only [inB, c2, c8, decide_true, decide_false, Bool.not_false, Bool.not_true, Bool.and_false]
      refine x_ldc G d_N_noons_11 kc_N_102 ?_
      exact m_iret E G d_N_noons_13 hx rfl rfl ⟨_, rfl, RC.same hR (by simp only [fNoons, cin, Bool.and_true, Bool.true_and, Bool.and_false, Bool.false_and, Bool.or_true, Bool.true_or, Bool.or_false, Bool.false_or, Bool.not_true, Bool.not_false, Bool.false_eq_true, decide_true, decide_false, if_true, if_false])⟩
theorem p_N_year (g : CX) (d : Nat) (hd : 1 ≤ d) (σ : Sg) (S : Rw) (hO : CO S σ) (what : Int32) : RunM g d N_year [.ref 0, .int what] σ (PR (RC (fYear S what) σ)) := by
  refine RunM.of 0 (by decide +kernel) rfl ?_
  intro κ hg hx hk0 G E
  subst hg
  have hk : 2 ≤ kn κ := Nat.le_of_eq hk0.symm
  show X κ NC 0 [some (.ref 0), some (.int what)] [] (hv σ)
  obtain ⟨hR, hL, hI, hJ, h9⟩ := hO
  have hn8 := hI.n
  refine x_iload1 G d_N_year_0 ?_
  rcases sw5 what with rfl | rfl | rfl | rfl | rfl | hsw
  · show X κ NC 1 _ _ _
    refine x_tabIn (35) 36 G d_N_year_1 (by decide +kernel) (by decide +kernel) (by decide +kernel) rfl ?_
    refine x_aload0 G d_N_year_36 ?_
    refine m_getr G d_N_year_37 fl_N_43 rfl (by decide) rfl ?_
    refine m_geti G d_N_year_40 fl_N_178 rfl (by decide) rfl ?_
    exact m_iret E G d_N_year_43 hx rfl rfl ⟨_, rfl, RC.same hR (by unfold fYear; rw [if_pos rfl]; rw [hR.steps])⟩
  · show X κ NC 1 _ _ _
    refine x_tabIn (43) 44 G d_N_year_1 (by decide +kernel) (by decide +kernel) (by decide +kernel) rfl ?_
    refine x_aload0 G d_N_year_44 ?_
    refine m_getr G d_N_year_45 fl_N_43 rfl (by decide) rfl ?_
    refine m_geti G d_N_year_48 fl_N_168 rfl (by decide) rfl ?_
    exact m_iret E G d_N_year_51 hx rfl rfl ⟨_, rfl, RC.same hR (by unfold fYear; rw [if_neg (show ¬ nI 1 = nI 0 by decide), if_pos rfl]; rw [hR.left])⟩
  · show X κ NC 1 _ _ _
    refine x_tabIn (51) 52 G d_N_year_1 (by decide +kernel) (by decide +kernel) (by decide +kernel) rfl ?_
    refine x_aload0 G d_N_year_52 ?_
    refine m_getr G d_N_year_53 fl_N_43 rfl (by decide) rfl ?_
    refine m_getr G d_N_year_56 fl_N_144 rfl (by decide) rfl ?_
    refine x_iconst (v := nI 1) G d_N_year_59 rfl ?_
    refine m_aald 1 G d_N_year_60 rfl (by decide) rfl ⟨by omega, by first | decide | omega⟩ rfl ?_
    refine m_callS_pi (p_Wo_sum (kg κ) (d - 1) (by omega) σ (28 + 9 + 1) 9 rfl (by decide) (by decide)) G d_N_year_61 lk_N_181 (by omega) rfl (Nat.le_of_ble_eq_true rfl) hx ?_
    exact m_iret E G d_N_year_64 hx rfl rfl ⟨_, rfl, RC.same hR (by unfold fYear; rw [if_neg (show ¬ nI 2 = nI 0 by decide), if_neg (show ¬ nI 2 = nI 1 by decide), if_pos rfl]; rw [sumN_cong 9 (fun i hi => hR.f 1 (by decide) hi)])⟩
  · show X κ NC 1 _ _ _
    refine x_tabIn (64) 65 G d_N_year_1 (by decide +kernel) (by decide +kernel) (by decide +kernel) rfl ?_
    refine x_aload0 G d_N_year_65 ?_
    refine m_getr G d_N_year_66 fl_N_43 rfl (by decide) rfl ?_
    refine m_getr G d_N_year_69 fl_N_115 rfl (by decide) rfl ?_
    refine x_iconst (v := nI 5) G d_N_year_72 rfl ?_
    refine m_aald 5 G d_N_year_73 rfl (by decide) rfl ⟨by omega, by first | decide | omega⟩ rfl ?_
    refine m_callS_pi (p_Wo_sum (kg κ) (d - 1) (by omega) σ (28 + 2 + 5) 8 rfl (by decide) (by decide)) G d_N_year_74 lk_N_181 (by omega) rfl (Nat.le_of_ble_eq_true rfl) hx ?_
    exact m_iret E G d_N_year_77 hx rfl rfl ⟨_, rfl, RC.same hR (by unfold fYear; rw [if_neg (show ¬ nI 3 = nI 0 by decide), if_neg (show ¬ nI 3 = nI 1 by decide), if_neg (show ¬ nI 3 = nI 2 by decide), if_pos rfl]; rw [sumN_cong 8 (fun i hi => hR.p 5 (by decide) hi)])⟩
  · show X κ NC 1 _ _ _
    refine x_tabIn (77) 78 G d_N_year_1 (by decide +kernel) (by decide +kernel) (by decide +kernel) rfl ?_
    refine x_aload0 G d_N_year_78 ?_
    refine m_getr G d_N_year_79 fl_N_43 rfl (by decide) rfl ?_
    refine m_getr G d_N_year_82 fl_N_115 rfl (by decide) rfl ?_
    refine x_iconst (v := nI 4) G d_N_year_85 rfl ?_
    refine m_aald 4 G d_N_year_86 rfl (by decide) rfl ⟨by omega, by first | decide | omega⟩ rfl ?_
    refine m_callS_pi (p_Wo_sum (kg κ) (d - 1) (by omega) σ (28 + 2 + 4) 8 rfl (by decide) (by decide)) G d_N_year_87 lk_N_181 (by omega) rfl (Nat.le_of_ble_eq_true rfl) hx ?_
    exact m_iret E G d_N_year_90 hx rfl rfl ⟨_, rfl, RC.same hR (by unfold fYear; rw [if_neg (show ¬ nI 4 = nI 0 by decide), if_neg (show ¬ nI 4 = nI 1 by decide), if_neg (show ¬ nI 4 = nI 2 by decide), if_neg (show ¬ nI 4 = nI 3 by decide), if_pos rfl]; rw [sumN_cong 8 (fun i hi => hR.p 4 (by decide) hi)])⟩
  · show X κ NC 1 _ _ _
    refine x_tabOut 91 G d_N_year_1 (hsw) rfl ?_
    refine x_ldc G d_N_year_91 kc_N_102 ?_
    exact m_iret E G d_N_year_93 hx rfl rfl ⟨_, rfl, RC.same hR (by unfold fYear; rw [if_neg (sw_ne (k := 0) (n := 4) hsw (by decide) (by decide)), if_neg (sw_ne (k := 1) (n := 4) hsw (by decide) (by decide)), if_neg (sw_ne (k := 2) (n := 4) hsw (by decide) (by decide)), if_neg (sw_ne (k := 3) (n := 4) hsw (by decide) (by decide)), if_neg (sw_ne (k := 4) (n := 4) hsw (by decide) (by decide))])⟩
theorem p_N_deal (g : CX) (d : Nat) (hd : 1 ≤ d) (σ : Sg) (S : Rw) (hO : CO S σ) (n : Int32) : RunM g d N_deal [.ref 0, .int n] σ (PR (RC (fDeal S n) σ)) := by
  refine RunM.of 5 (by decide +kernel) rfl ?_
  intro κ hg hx hk0 G E
  subst hg
  have hk : 7 ≤ kn κ := Nat.le_of_eq hk0.symm
  show X κ NC 0 [some (.ref 0), some (.int n), none, none, none, none, none] [] (hv σ)
  obtain ⟨hR, hL, hI, hJ, h9⟩ := hO
  have hn8 := hI.n
  refine x_iload1 G d_N_deal_0 ?_
  refine x_iconst (v := nI 1) G d_N_deal_1 rfl ?_
  refine x_icmp_lt G d_N_deal_2 (fun c2 => ?_) (fun c2 => ?_)
  · have cin : inB n (nI 1) (nI 8) = false := by simp only [inB, c2, decide_true, Bool.not_true, Bool.false_and]
    refine x_ldc G d_N_deal_11 kc_N_102 ?_
    exact m_iret E G d_N_deal_13 hx rfl rfl ⟨_, rfl, RC.same hR (by simp only [fDeal, cin, Bool.and_true, Bool.true_and, Bool.and_false, Bool.false_and, Bool.or_true, Bool.true_or, Bool.or_false, Bool.false_or, Bool.not_true, Bool.not_false, Bool.false_eq_true, decide_true, decide_false, if_true, if_false])⟩
  · refine x_iload1 G d_N_deal_5 ?_
    refine x_bipush (v := nI 8) G d_N_deal_6 rfl ?_
    refine x_icmp_le G d_N_deal_8 (fun c8 => ?_) (fun c8 => ?_)
    · replace c8 := Int32.not_lt.mpr c8
      have cin : inB n (nI 1) (nI 8) = true := by simp only [inB, c2, c8, decide_false, Bool.not_false, Bool.and_true]
      obtain ⟨j, hj1, hj2, tj, rfl⟩ := inB_1 (by decide) cin
      refine x_iload1 G d_N_deal_14 ?_
      refine x_bipush (v := nI 8) G d_N_deal_15 rfl ?_
      refine x_aload0 G d_N_deal_17 ?_
      refine m_getr G d_N_deal_18 fl_N_43 rfl (by decide) rfl ?_
      refine m_geti G d_N_deal_21 fl_N_153 rfl (by decide) rfl ?_
      rw [show σ 28 7 = nI (tn (S 0)) by rw [hR.n]; exact hn8.1]
      refine x_isub G d_N_deal_24 ?_
      rw [pk_sub hn8.2]
      refine x_min lm_N_156 G d_N_deal_25 (by omega) (Nat.le_of_ble_eq_true rfl) (Nat.le_of_eq hx.symm) ?_
      rw [mnI (by omega) (by omega)]
      obtain ⟨many, hmany⟩ : ∃ z, z = min j (8 - tn (S 0)) := ⟨_, rfl⟩
      rw [← hmany]
      refine x_istore2 G d_N_deal_28 rfl hk ?_
      refine x_iconst (v := nI 0) G d_N_deal_29 rfl ?_
      refine x_istore3 G d_N_deal_30 rfl hk ?_
      have hloop : ∀ (m i : Nat) (σ1 : Sg) (o4 o5 o6 : Option Value), i ≤ many → many < i + m → WRel 28 (dealN S i) σ1 → OutC σ σ1 → X κ NC 31 [some (.ref 0), some (.int (nI j)), some (.int (nI many)), some (.int (nI i)), o4, o5, o6] [] (hv σ1) := by
        intro m
        induction m with
        | zero => intro i σ1 o4 o5 o6 h1 h2; omega
        | succ m ih =>
          intro i σ1 o4 o5 o6 hi1 hi2 hR1 hO1
          obtain ⟨k1, k2, k3⟩ := dealN_keep hI i
          have k4 := dealN_n hI i (by omega)
          refine x_iload3 G d_N_deal_31 ?_
          refine x_iload2 G d_N_deal_32 ?_
          refine x_icmp_ge G d_N_deal_33 (fun c33 => ?_) (fun c33 => ?_)
          · replace c33 := Int32.not_lt.mpr c33
            have him : i = many := by rw [nlt (by omega) (by omega)] at c33; omega
            refine x_iload2 G d_N_deal_92 ?_
            exact m_iret E G d_N_deal_93 hx rfl rfl ⟨_, rfl, RC.mk' (S1 := dealN S many) (v1 := nI many) (by simp only [fDeal, ← hmany, cin, tj, Bool.and_true, Bool.true_and, Bool.and_false, Bool.false_and, Bool.or_true, Bool.true_or, Bool.or_false, Bool.false_or, Bool.not_true, Bool.not_false, Bool.false_eq_true, decide_true, decide_false, if_true, if_false]) rfl (by rw [← him]; exact hR1) hO1⟩
          · replace c33 := Int32.not_le.mp c33
            have him : i < many := by rw [nlt (by omega) (by omega)] at c33; omega
            refine x_aload0 G d_N_deal_36 ?_
            refine m_getr G d_N_deal_37 fl_N_43 rfl (by decide) rfl ?_
            refine m_callV_pi (p_Wo_draw (kg κ) (d - 1) (by omega) σ1 28 hw28) G d_N_deal_40 lk_N_161 rfl ⟨by decide, rfl⟩ (by decide) (by omega) rfl (Nat.le_of_ble_eq_true rfl) hx ?_
            rw [show σ1 28 12 = dealN S i 6 from hR1.z]
            obtain ⟨σ2, e2⟩ : ∃ z, z = updS σ1 28 12 (zn (dealN S i 6)) := ⟨_, rfl⟩
            rw [← e2]
            have hR2 : WRel 28 (upd (dealN S i) 6 (zn (dealN S i 6))) σ2 := by rw [e2]; exact hR1.sets (by unfold scal; omega) _
            have hO2 : OutC σ σ2 := by rw [e2]; exact hO1.upd (by omega)
            refine x_bipush (v := nI 6) G d_N_deal_43 rfl ?_
            refine x_irem G d_N_deal_45 (by decide +kernel) ?_
            refine x_istore4 G d_N_deal_46 rfl hk ?_
            refine x_aload0 G d_N_deal_48 ?_
            refine m_getr G d_N_deal_49 fl_N_43 rfl (by decide) rfl ?_
            refine m_callV_pi (p_Wo_draw (kg κ) (d - 1) (by omega) σ2 28 hw28) G d_N_deal_52 lk_N_161 rfl ⟨by decide, rfl⟩ (by decide) (by omega) rfl (Nat.le_of_ble_eq_true rfl) hx ?_
            rw [show σ2 28 12 = zn (dealN S i 6) by rw [hR2.z, pk_us]]
            obtain ⟨σ3, e3⟩ : ∃ z, z = updS σ2 28 12 (zn (zn (dealN S i 6))) := ⟨_, rfl⟩
            rw [← e3]
            have hR3 : WRel 28 (upd (upd (dealN S i) 6 (zn (dealN S i 6))) 6 (zn (zn (dealN S i 6)))) σ3 := by rw [e3]; exact hR2.sets (by unfold scal; omega) _
            have hO3 : OutC σ σ3 := by rw [e3]; exact hO2.upd (by omega)
            refine x_bipush (v := nI 9) G d_N_deal_55 rfl ?_
            refine x_irem G d_N_deal_57 (by decide +kernel) ?_
            refine x_istore5 G d_N_deal_58 rfl hk ?_
            refine x_aload0 G d_N_deal_60 ?_
            refine m_getr G d_N_deal_61 fl_N_43 rfl (by decide) rfl ?_
            refine m_callV_pi (p_Wo_draw (kg κ) (d - 1) (by omega) σ3 28 hw28) G d_N_deal_64 lk_N_161 rfl ⟨by decide, rfl⟩ (by decide) (by omega) rfl (Nat.le_of_ble_eq_true rfl) hx ?_
            rw [show σ3 28 12 = zn (zn (dealN S i 6)) by rw [hR3.z, pk_us]]
            obtain ⟨σ4, e4⟩ : ∃ z, z = updS σ3 28 12 (zn (zn (zn (dealN S i 6)))) := ⟨_, rfl⟩
            rw [← e4]
            have hR4 : WRel 28 (upd (dealN S i) 6 (zn (zn (zn (dealN S i 6))))) σ4 := by
              have := hR3.sets (j := 12) (i := 6) (by unfold scal; omega) (zn (zn (zn (dealN S i 6))))
              rw [e4, show upd (dealN S i) 6 (zn (zn (zn (dealN S i 6)))) = upd (upd (upd (dealN S i) 6 (zn (dealN S i 6))) 6 (zn (zn (dealN S i 6)))) 6 (zn (zn (zn (dealN S i 6)))) by funext q; by_cases w : q = 6 <;> simp [upd, w]]
              exact this
            have hO5 : OutC σ σ4 := by rw [e4]; exact hO3.upd (by omega)
            refine x_bipush (v := nI 60) G d_N_deal_67 rfl ?_
            refine x_irem G d_N_deal_69 (by decide +kernel) ?_
            refine x_istore6 G d_N_deal_70 rfl hk ?_
            refine x_aload0 G d_N_deal_72 ?_
            refine m_getr G d_N_deal_73 fl_N_43 rfl (by decide) rfl ?_
            refine x_iload4 G d_N_deal_76 ?_
            refine x_iload5 G d_N_deal_78 ?_
            refine x_iload6 G d_N_deal_80 ?_
            refine m_callV_pr (p_Wo_come (kg κ) (d - 1) (by omega) σ4 28 hw28 _ hR4 (k1.z6 _) _ _ _) G d_N_deal_82 lk_N_103 rfl ⟨by decide, rfl⟩ (by decide) (by omega) rfl (Nat.le_of_ble_eq_true rfl) hx (fun v5 σ5 ⟨h3, h4, h5⟩ => ?_)
            refine x_pop G d_N_deal_85 rfl ?_
            refine x_iinc3 (v := nI (i + 1)) G d_N_deal_86 rfl hk (nI_1 _) ?_
            refine x_goto G d_N_deal_89 ?_
            exact ih (i + 1) _ _ _ _ (by omega) (by omega) h4 (hO5.trans (OutC.of (Or.inl rfl) h5))
      exact hloop (many + 1) 0 σ none none none (Nat.zero_le _) (by omega) hR OutC.refl
    · replace c8 := Int32.not_le.mp c8
      have cin : inB n (nI 1) (nI 8) = false := by simp only [inB, c2, c8, decide_true, decide_false, Bool.not_false, Bool.not_true, Bool.and_false]
      refine x_ldc G d_N_deal_11 kc_N_102 ?_
      exact m_iret E G d_N_deal_13 hx rfl rfl ⟨_, rfl, RC.same hR (by simp only [fDeal, cin, Bool.and_true, Bool.true_and, Bool.and_false, Bool.false_and, Bool.or_true, Bool.true_or, Bool.or_false, Bool.false_or, Bool.not_true, Bool.not_false, Bool.false_eq_true, decide_true, decide_false, if_true, if_false])⟩
