/-! the model's isFree, goesTo, goes, goesOn, goesOnMany -/
theorem p_M_isFree (g : CX) (d : Nat) (hd : 2 ≤ d) (σ : Sg) (S : Rw) (hS : σ 114 = S) (hI : Inv S) (T : Nat → Int32) (hT : MT T σ) (p : Nat) (hp : p < 8) (f : Nat) (hf : f < 9) (hTp : T p ≠ nI f) : RunM g d M_isFree [.ref 113, .int (nI p), .int (nI f)] σ (PI (bI (sFree S T p f)) σ) := by
  refine RunM.of 2 (by decide +kernel) rfl ?_
  intro κ hg hx hk0 G E
  subst hg
  have hk : 5 ≤ kn κ := Nat.le_of_eq hk0.symm
  show X κ NC 0 [some (.ref 113), some (.int (nI p)), some (.int (nI f)), none, none] [] (hv σ)
  refine x_iconst (v := nI 0) G d_M_isFree_0 rfl ?_
  refine x_istore3 G d_M_isFree_1 rfl hk ?_
  refine x_iconst (v := nI 0) G d_M_isFree_2 rfl ?_
  refine x_istore4 G d_M_isFree_3 rfl hk ?_
  have hloop : ∀ (m i c : Nat), i ≤ tn (S 0) → tn (S 0) < i + m → frN S T p f i = some c → c ≤ i → X κ NC 5 [some (.ref 113), some (.int (nI p)), some (.int (nI f)), some (.int (nI c)), some (.int (nI i))] [] (hv σ) := by
    intro m
    induction m with
    | zero => intro i c h1 h2; omega
    | succ m ih =>
      intro i c hi1 hi2 hfr hci
      have hn8 := hI.n
      refine x_iload4 G d_M_isFree_5 ?_
      refine x_aload0 G d_M_isFree_7 ?_
      refine m_getr G d_M_isFree_8 fl_M_7 rfl (by decide) rfl ?_
      refine x_iconst (v := nI 0) G d_M_isFree_11 rfl ?_
      refine m_iald 0 G d_M_isFree_12 rfl rfl ⟨by omega, by first | decide | omega⟩ ?_
      rw [hS, hn8.1]
      refine x_icmp_ge G d_M_isFree_13 (fun c13 => ?_) (fun c13 => ?_)
      · have hin : i = tn (S 0) := by rw [nle (by omega) (by omega)] at c13; omega
        refine x_iload3 G d_M_isFree_48 ?_
        refine x_aload0 G d_M_isFree_49 ?_
        refine x_iload2 G d_M_isFree_50 ?_
        refine x_iconst (v := nI 2) G d_M_isFree_51 rfl ?_
        refine m_callV_pi (p_M_in (kg κ) (d - 1) (by omega) _ f 2 hf (by decide)) G d_M_isFree_52 lk_M_113 rfl ⟨by decide, rfl⟩ (by decide) (by omega) rfl (Nat.le_of_ble_eq_true rfl) hx ?_
        rw [hS]
        refine x_icmp_ge G d_M_isFree_55 (fun c55 => ?_) (fun c55 => ?_)
        · refine x_iconst (v := nI 0) G d_M_isFree_62 rfl ?_
          exact m_iret E G d_M_isFree_63 hx rfl rfl (pi_of (by unfold sFree; rw [← hin, hfr]; simp [frB, bI, nI_0, nI1, c55]))
        · refine x_iconst (v := nI 1) G d_M_isFree_58 rfl ?_
          refine x_goto G d_M_isFree_59 ?_
          exact m_iret E G d_M_isFree_63 hx rfl rfl (pi_of (by unfold sFree; rw [← hin, hfr]; simp [frB, bI, nI_0, nI1, c55]))
      · have hin : i < tn (S 0) := by rw [nle (by omega) (by omega)] at c13; omega
        refine x_aload0 G d_M_isFree_16 ?_
        refine m_getr G d_M_isFree_17 fl_M_43 rfl (by decide) rfl ?_
        refine x_iload4 G d_M_isFree_20 ?_
        refine m_iald i G d_M_isFree_22 rfl rfl ⟨by omega, by first | decide | omega⟩ ?_
        rw [hT i (by omega)]
        refine x_iload2 G d_M_isFree_23 ?_
        refine x_icmp_ne G d_M_isFree_24 (fun c24 => ?_) (fun c24 => ?_)
        · refine x_iinc4 (v := nI (i + 1)) G d_M_isFree_42 rfl hk (nI_1 _) ?_
          refine x_goto G d_M_isFree_45 ?_
          exact ih (i + 1) c (by omega) (by omega) (by rw [frN, hfr]; simp [c24]) (by omega)
        · have hip : ¬ i = p := fun q => hTp (by rw [← q]; exact c24)
          refine x_iinc3 (v := nI (c + 1)) G d_M_isFree_27 rfl hk (nI_1 _) ?_
          refine x_aload0 G d_M_isFree_30 ?_
          refine x_iload1 G d_M_isFree_31 ?_
          refine x_iload4 G d_M_isFree_32 ?_
          refine m_callV_pi (p_M_areTalked (kg κ) (d - 1) (by omega) _ S hS p i hp) G d_M_isFree_34 lk_M_152 rfl ⟨by decide, rfl⟩ (by decide) (by omega) rfl (Nat.le_of_ble_eq_true rfl) hx ?_
          refine x_if_eq G d_M_isFree_37 (fun c37 => ?_) (fun c37 => ?_)
          · have htk : sTalk S p i = false := bI_0.mp c37
            refine x_iinc4 (v := nI (i + 1)) G d_M_isFree_42 rfl hk (nI_1 _) ?_
            refine x_goto G d_M_isFree_45 ?_
            exact ih (i + 1) (c + 1) (by omega) (by omega) (by rw [frN, hfr]; simp [hip, c24, htk]) (by omega)
          · have htk : sTalk S p i = true := bI_n0.mp c37
            refine x_iconst (v := nI 0) G d_M_isFree_40 rfl ?_
            exact m_iret E G d_M_isFree_41 hx rfl rfl (pi_of (by rw [show sFree S T p f = false by unfold sFree; rw [frN_none (tn (S 0)) (i + 1) hin (by rw [frN, hfr]; simp [hip, c24, htk])]; rfl]; rfl))
  exact hloop (tn (S 0) + 1) 0 0 (Nat.zero_le _) (by omega) rfl (Nat.le_refl _)
theorem p_M_goesTo (g : CX) (d : Nat) (hd : 3 ≤ d) (σ : Sg) (S : Rw) (hS : σ 114 = S) (hI : Inv S) (T : Nat → Int32) (hT : MT T σ) (p : Nat) (hp : p < 8) (hTn : T p = -1) : RunM g d M_goesTo [.ref 113, .int (nI p)] σ (PR (fun v σ1 => v = (gst S T p 9).1 ∧ OutW2 σ σ1)) := by
  refine RunM.of 4 (by decide +kernel) rfl ?_
  intro κ hg hx hk0 G E
  subst hg
  have hk : 6 ≤ kn κ := Nat.le_of_eq hk0.symm
  show X κ NC 0 [some (.ref 113), some (.int (nI p)), none, none, none, none] [] (hv σ)
  refine x_iconst (v := (-1)) G d_M_goesTo_0 rfl ?_
  refine x_istore2 G d_M_goesTo_1 rfl hk ?_
  refine x_iconst (v := nI 0) G d_M_goesTo_2 rfl ?_
  refine x_istore3 G d_M_goesTo_3 rfl hk ?_
  refine x_iconst (v := nI 0) G d_M_goesTo_4 rfl ?_
  refine x_istore4 G d_M_goesTo_5 rfl hk ?_
  have hloop : ∀ (m f : Nat) (to le : Int32) (σ1 : Sg) (o5 : Option Value), f ≤ 9 → 9 < f + m → gst S T p f = (to, le) → OutW2 σ σ1 → X κ NC 7 [some (.ref 113), some (.int (nI p)), some (.int to), some (.int le), some (.int (nI f)), o5] [] (hv σ1) := by
    intro m
    induction m with
    | zero => intro f to le σ1 o5 h1 h2; omega
    | succ m ih =>
      intro f to le σ1 o5 hf1 hf2 hg hF
      have hS1 : σ1 114 = S := by rw [hF 114 (by decide) (by decide)]; exact hS
      have hT1 : MT T σ1 := fun i hi => by rw [hF 125 (by decide) (by decide)]; exact hT i hi
      have hto : to = -1 ∨ ∃ f0, f0 < f ∧ to = nI f0 := by have q := gst_range (S := S) (T := T) (p := p) f hf1; rw [hg] at q; exact q
      refine x_iload4 G d_M_goesTo_7 ?_
      refine x_bipush (v := nI 9) G d_M_goesTo_9 rfl ?_
      refine x_icmp_ge G d_M_goesTo_11 (fun c11 => ?_) (fun c11 => ?_)
      · have hf9 : f = 9 := by rw [nle (by omega) (by omega)] at c11; omega
        refine x_iload2 G d_M_goesTo_65 ?_
        exact m_iret E G d_M_goesTo_66 hx rfl rfl ⟨_, rfl, (by subst hf9; rw [hg]), hF⟩
      · have hf9 : f < 9 := by rw [nle (by omega) (by omega)] at c11; omega
        refine x_aload0 G d_M_goesTo_14 ?_
        refine x_iload1 G d_M_goesTo_15 ?_
        refine x_iload4 G d_M_goesTo_16 ?_
        refine m_callV_pi (p_M_mayStand (kg κ) (d - 1) (by omega) _ S hS1 hI p hp f hf9) G d_M_goesTo_18 lk_M_137 rfl ⟨by decide, rfl⟩ (by decide) (by omega) rfl (Nat.le_of_ble_eq_true rfl) hx ?_
        refine x_if_eq G d_M_goesTo_21 (fun c21 => ?_) (fun c21 => ?_)
        · have hq := bI_0.mp c21
          refine x_iinc4 (v := nI (f + 1)) G d_M_goesTo_59 rfl hk (nI_1 _) ?_
          refine x_goto G d_M_goesTo_62 ?_
          exact ih (f + 1) to le _ _ (by omega) (by omega) (gst_no hg (by simp [hq])) hF
        · have hm := bI_n0.mp c21
          refine x_aload0 G d_M_goesTo_24 ?_
          refine x_iload1 G d_M_goesTo_25 ?_
          refine x_iload4 G d_M_goesTo_26 ?_
          refine m_callV_pi (p_M_isFree (kg κ) (d - 1) (by omega) _ S hS1 hI T hT1 p hp f hf9 (by rw [hTn]; exact fun q => nI_nn (by omega) (by decide +kernel) q.symm)) G d_M_goesTo_28 lk_M_163 rfl ⟨by decide, rfl⟩ (by decide) (by omega) rfl (Nat.le_of_ble_eq_true rfl) hx ?_
          refine x_if_eq G d_M_goesTo_31 (fun c31 => ?_) (fun c31 => ?_)
          · have hq := bI_0.mp c31
            refine x_iinc4 (v := nI (f + 1)) G d_M_goesTo_59 rfl hk (nI_1 _) ?_
            refine x_goto G d_M_goesTo_62 ?_
            exact ih (f + 1) to le _ _ (by omega) (by omega) (gst_no hg (by simp [hm, hq])) hF
          · have hr := bI_n0.mp c31
            refine x_aload0 G d_M_goesTo_34 ?_
            refine x_iload1 G d_M_goesTo_35 ?_
            refine x_iload4 G d_M_goesTo_36 ?_
            refine m_callV_pr (p_M_walkOf (kg κ) (d - 1) (by omega) σ1 S hS1 hI p hp f hf9) G d_M_goesTo_38 lk_M_134 rfl ⟨by decide, rfl⟩ (by decide) (by omega) rfl (Nat.le_of_ble_eq_true rfl) hx (fun v2 σ2 ⟨hv2, hF2⟩ => ?_)
            subst hv2
            have hF3 : OutW2 σ σ2 := fun k h1 h2 => (hF2 k h1 h2).trans (hF k h1 h2)
            refine x_istore5 G d_M_goesTo_41 rfl hk ?_
            refine x_iload2 G d_M_goesTo_43 ?_
            refine x_if_lt G d_M_goesTo_44 (fun c44 => ?_) (fun c44 => ?_)
            · have hm1 : to = -1 := hto.resolve_right (fun ⟨f0, q1, q2⟩ => nI_pos (by omega) (q2 ▸ c44))
              refine x_iload4 G d_M_goesTo_53 ?_
              refine x_istore2 G d_M_goesTo_55 rfl hk ?_
              refine x_iload5 G d_M_goesTo_56 ?_
              refine x_istore3 G d_M_goesTo_58 rfl hk ?_
              refine x_iinc4 (v := nI (f + 1)) G d_M_goesTo_59 rfl hk (nI_1 _) ?_
              refine x_goto G d_M_goesTo_62 ?_
              exact ih (f + 1) _ _ _ _ (by omega) (by omega) (gst_yes hg (by simp [hm, hr, hm1])) hF3
            · have hm1 : ¬ to = -1 := fun q => c44 (by rw [q]; decide)
              refine x_iload5 G d_M_goesTo_47 ?_
              refine x_iload3 G d_M_goesTo_49 ?_
              refine x_icmp_ge G d_M_goesTo_50 (fun c50 => ?_) (fun c50 => ?_)
              · refine x_iinc4 (v := nI (f + 1)) G d_M_goesTo_59 rfl hk (nI_1 _) ?_
                refine x_goto G d_M_goesTo_62 ?_
                exact ih (f + 1) to le _ _ (by omega) (by omega) (gst_no hg (by simp [hm, hr, hm1, Int32.not_lt.mpr c50])) hF3
              · refine x_iload4 G d_M_goesTo_53 ?_
                refine x_istore2 G d_M_goesTo_55 rfl hk ?_
                refine x_iload5 G d_M_goesTo_56 ?_
                refine x_istore3 G d_M_goesTo_58 rfl hk ?_
                refine x_iinc4 (v := nI (f + 1)) G d_M_goesTo_59 rfl hk (nI_1 _) ?_
                refine x_goto G d_M_goesTo_62 ?_
                exact ih (f + 1) _ _ _ _ (by omega) (by omega) (gst_yes hg (by simp [hm, hr, Int32.not_le.mp c50])) hF3
  exact hloop 10 0 (-1) (nI 0) σ none (Nat.zero_le _) (by omega) rfl (fun _ _ _ => rfl)
theorem p_M_goes (g : CX) (d : Nat) (hd : 4 ≤ d) (σ : Sg) (S : Rw) (hS : σ 114 = S) (hI : Inv S) (T : Nat → Int32) (hT : MT T σ) (p : Nat) (hp : p < 8) (hTn : T p = -1) : RunM g d M_goes [.ref 113, .int (nI p)] σ (PV (fun σ1 => σ1 114 = (sGo S T p).1 ∧ MT (sGo S T p).2 σ1 ∧ OutM σ σ1)) := by
  refine RunM.of 2 (by decide +kernel) rfl ?_
  intro κ hg hx hk0 G E
  subst hg
  have hk : 4 ≤ kn κ := Nat.le_of_eq hk0.symm
  show X κ NC 0 [some (.ref 113), some (.int (nI p)), none, none] [] (hv σ)
  refine x_aload0 G d_M_goes_0 ?_
  refine x_iload1 G d_M_goes_1 ?_
  refine m_callV_pr (p_M_goesTo (kg κ) (d - 1) (by omega) σ S hS hI T hT p hp hTn) G d_M_goes_2 lk_M_166 rfl ⟨by decide, rfl⟩ (by decide) (by omega) rfl (Nat.le_of_ble_eq_true rfl) hx (fun v1 σ1 ⟨hv1, hF1⟩ => ?_)
  have hS1 : σ1 114 = S := by rw [hF1 114 (by decide) (by decide)]; exact hS
  have hT1 : MT T σ1 := fun i hi => by rw [hF1 125 (by decide) (by decide)]; exact hT i hi
  have hO1 : OutM σ σ1 := fun k _ _ h3 h4 => hF1 k h3 h4
  have hg := gst_range (S := S) (T := T) (p := p) 9 (Nat.le_refl _)
  rw [← hv1] at hg
  refine x_istore2 G d_M_goes_5 rfl hk ?_
  refine x_iload2 G d_M_goes_6 ?_
  refine x_if_ge G d_M_goes_7 (fun c7 => ?_) (fun c7 => ?_)
  · obtain ⟨f0, hf0, hv⟩ := hg.resolve_left (fun q => by rw [q] at c7; exact absurd c7 (by decide))
    have he : gst S T p 9 = (nI f0, sWalk S p f0) := by
      have e1 : (gst S T p 9).1 = nI f0 := hv1 ▸ hv
      have e2 : gst S T p 9 = (nI f0, (gst S T p 9).2) := by rw [← e1]
      rw [e2, gst_val 9 (Nat.le_refl _) f0 _ (by omega) e2]
    subst hv
    refine x_aload0 G d_M_goes_21 ?_
    refine m_getr G d_M_goes_22 fl_M_7 rfl (by decide) rfl ?_
    refine x_iconst (v := nI 3) G d_M_goes_25 rfl ?_
    refine x_dup2 G d_M_goes_26 rfl rfl ?_
    refine m_iald 3 G d_M_goes_27 rfl rfl ⟨by omega, by first | decide | omega⟩ ?_
    rw [hS1]
    refine x_aload0 G d_M_goes_28 ?_
    refine x_iload1 G d_M_goes_29 ?_
    refine x_iload2 G d_M_goes_30 ?_
    refine m_callV_pr (p_M_walkOf (kg κ) (d - 1) (by omega) σ1 S hS1 hI p hp f0 hf0) G d_M_goes_31 lk_M_134 rfl ⟨by decide, rfl⟩ (by decide) (by omega) rfl (Nat.le_of_ble_eq_true rfl) hx (fun v2 σ2 ⟨hv2, hF2⟩ => ?_)
    subst hv2
    have hS2 : σ2 114 = S := by rw [hF2 114 (by decide) (by decide)]; exact hS1
    have hT2 : MT T σ2 := fun i hi => by rw [hF2 125 (by decide) (by decide)]; exact hT1 i hi
    have hO2 : OutM σ σ2 := hO1.trans (fun k _ _ h3 h4 => hF2 k h3 h4)
    refine x_iadd G d_M_goes_34 ?_
    refine m_iast_n 3 G d_M_goes_35 rfl rfl ⟨by omega, by first | decide | omega⟩ (fun σ3 e3 => ?_)
    have hS3 : σ3 114 = (upd S 3 (S 3 + sWalk S p f0)) := by rw [e3, updS_row, hS2]
    have hO3 : OutM σ σ3 := by rw [e3]; exact hO2.upd (Or.inl rfl)
    have hT3 : MT T σ3 := fun i hi => by rw [e3, updS_nk (by decide)]; exact hT2 i hi
    have hI3 : Inv (upd S 3 (S 3 + sWalk S p f0)) := (Keep.refl.put (Or.inl (by omega))).inv hI
    refine x_aload0 G d_M_goes_36 ?_
    refine m_getr G d_M_goes_37 fl_M_43 rfl (by decide) rfl ?_
    refine x_iload1 G d_M_goes_40 ?_
    refine x_iload2 G d_M_goes_41 ?_
    refine m_iast_n p G d_M_goes_42 rfl rfl ⟨by omega, by first | decide | omega⟩ (fun σ4 e4 => ?_)
    have hS4 : σ4 114 = (upd S 3 (S 3 + sWalk S p f0)) := by rw [e4, updS_nk (by decide)]; exact hS3
    have hO4 : OutM σ σ4 := by rw [e4]; exact hO3.upd (Or.inr (Or.inl rfl))
    have hT4 : MT (upd T p (nI f0)) σ4 := fun i hi => by
      rw [e4, updS_row]
      unfold upd
      split
      · rfl
      · exact hT3 i hi
    have hcr := hI3.corn hf0
    refine x_aload0 G d_M_goes_43 ?_
    refine x_iload2 G d_M_goes_44 ?_
    refine x_iconst (v := nI 1) G d_M_goes_45 rfl ?_
    refine x_aload0 G d_M_goes_46 ?_
    refine x_iload2 G d_M_goes_47 ?_
    refine x_iconst (v := nI 1) G d_M_goes_48 rfl ?_
    refine m_callV_pi (p_M_in (kg κ) (d - 1) (by omega) _ f0 1 hf0 (by decide)) G d_M_goes_49 lk_M_113 rfl ⟨by decide, rfl⟩ (by decide) (by omega) rfl (Nat.le_of_ble_eq_true rfl) hx ?_
    rw [hS4]
    refine x_iconst (v := nI 1) G d_M_goes_52 rfl ?_
    refine x_isub G d_M_goes_53 ?_
    refine x_bipush (v := nI 99) G d_M_goes_54 rfl ?_
    refine m_callS_pi (p_M_within (kg κ) (d - 1) (by omega) _ _ _) G d_M_goes_56 lk_M_123 (by omega) rfl (Nat.le_of_ble_eq_true rfl) hx ?_
    rw [show withB ((upd S 3 (S 3 + sWalk S p f0)) (ixF f0 1) - nI 1) (nI 99) = (if nI 0 < (upd S 3 (S 3 + sWalk S p f0)) (ixF f0 1) - nI 1 then (upd S 3 (S 3 + sWalk S p f0)) (ixF f0 1) - nI 1 else nI 0) by rw [hcr.1]; exact corn_c _ (by omega)]
    refine m_callV_pv (p_M_puts (kg κ) (d - 1) (by omega) _ f0 1 hf0 (by decide) _) G d_M_goes_59 lk_M_77 rfl ⟨by decide, rfl⟩ (by decide) (by omega) rfl (Nat.le_of_ble_eq_true rfl) hx (fun σ5 e5 => ?_)
    have hS5 : σ5 114 = (upd (upd S 3 (S 3 + sWalk S p f0)) (ixF f0 1) (if nI 0 < (upd S 3 (S 3 + sWalk S p f0)) (ixF f0 1) - nI 1 then (upd S 3 (S 3 + sWalk S p f0)) (ixF f0 1) - nI 1 else nI 0)) := by rw [e5, updS_row, hS4]
    have hO5 : OutM σ σ5 := by rw [e5]; exact hO4.upd (Or.inl rfl)
    have hT5 : MT (upd T p (nI f0)) σ5 := fun i hi => by rw [e5, updS_nk (by decide)]; exact hT4 i hi
    refine x_aload0 G d_M_goes_62 ?_
    refine x_iload1 G d_M_goes_63 ?_
    refine x_iconst (v := nI 3) G d_M_goes_64 rfl ?_
    refine x_aload0 G d_M_goes_65 ?_
    refine x_iload1 G d_M_goes_66 ?_
    refine x_iconst (v := nI 3) G d_M_goes_67 rfl ?_
    refine m_callV_pi (p_M_of (kg κ) (d - 1) (by omega) _ p 3 hp (by decide)) G d_M_goes_68 lk_M_107 rfl ⟨by decide, rfl⟩ (by decide) (by omega) rfl (Nat.le_of_ble_eq_true rfl) hx ?_
    rw [hS5]
    refine x_iconst (v := nI 1) G d_M_goes_71 rfl ?_
    refine x_iload2 G d_M_goes_72 ?_
    refine x_ishl G d_M_goes_73 ?_
    refine x_ior G d_M_goes_74 ?_
    refine m_callV_pv (p_M_sets (kg κ) (d - 1) (by omega) _ p 3 hp (by decide) _) G d_M_goes_75 lk_M_87 rfl ⟨by decide, rfl⟩ (by decide) (by omega) rfl (Nat.le_of_ble_eq_true rfl) hx (fun σ6 e6 => ?_)
    have hS6 : σ6 114 = (upd (upd (upd S 3 (S 3 + sWalk S p f0)) (ixF f0 1) (if nI 0 < (upd S 3 (S 3 + sWalk S p f0)) (ixF f0 1) - nI 1 then (upd S 3 (S 3 + sWalk S p f0)) (ixF f0 1) - nI 1 else nI 0)) (ixP p 3) ((upd (upd S 3 (S 3 + sWalk S p f0)) (ixF f0 1) (if nI 0 < (upd S 3 (S 3 + sWalk S p f0)) (ixF f0 1) - nI 1 then (upd S 3 (S 3 + sWalk S p f0)) (ixF f0 1) - nI 1 else nI 0)) (ixP p 3) ||| nI 1 <<< (nI f0 &&& 31))) := by rw [e6, updS_row, hS5]
    have hO6 : OutM σ σ6 := by rw [e6]; exact hO5.upd (Or.inl rfl)
    have hT6 : MT (upd T p (nI f0)) σ6 := fun i hi => by rw [e6, updS_nk (by decide)]; exact hT5 i hi
    have hos : (upd (upd (upd S 3 (S 3 + sWalk S p f0)) (ixF f0 1) (if nI 0 < (upd S 3 (S 3 + sWalk S p f0)) (ixF f0 1) - nI 1 then (upd S 3 (S 3 + sWalk S p f0)) (ixF f0 1) - nI 1 else nI 0)) (ixP p 3) ((upd (upd S 3 (S 3 + sWalk S p f0)) (ixF f0 1) (if nI 0 < (upd S 3 (S 3 + sWalk S p f0)) (ixF f0 1) - nI 1 then (upd S 3 (S 3 + sWalk S p f0)) (ixF f0 1) - nI 1 else nI 0)) (ixP p 3) ||| nI 1 <<< (nI f0 &&& 31))) (ixF f0 0) = nI (tn ((upd S 3 (S 3 + sWalk S p f0)) (ixF f0 0))) := by
      rw [pk_un (by unfold ixF ixP; omega), pk_un (by unfold ixF; omega)]
      exact (hI3.owner hf0).1
    have how9 := (hI3.owner hf0).2
    have hn8 := hI.n
    have hn0 : σ6 114 0 = nI (tn (S 0)) := by rw [hS6, pk_un (by unfold ixP; omega), pk_un (by unfold ixF; omega), pk_un (by decide)]; exact hn8.1
    have heq : sGo S T p = (sArr (upd S 3 (S 3 + sWalk S p f0)) p f0, upd T p (nI f0)) := by
      unfold sGo
      rw [he, if_neg (fun q => nI_nn (by omega) (by decide +kernel) q)]
      simp only [tn_nI (show f0 < 2 ^ 31 by omega)]
    refine x_aload0 G d_M_goes_78 ?_
    refine x_iload2 G d_M_goes_79 ?_
    refine x_iconst (v := nI 0) G d_M_goes_80 rfl ?_
    refine m_callV_pi (p_M_in (kg κ) (d - 1) (by omega) _ f0 0 hf0 (by decide)) G d_M_goes_81 lk_M_113 rfl ⟨by decide, rfl⟩ (by decide) (by omega) rfl (Nat.le_of_ble_eq_true rfl) hx ?_
    rw [hS6, show (upd (upd (upd S 3 (S 3 + sWalk S p f0)) (ixF f0 1) (if nI 0 < (upd S 3 (S 3 + sWalk S p f0)) (ixF f0 1) - nI 1 then (upd S 3 (S 3 + sWalk S p f0)) (ixF f0 1) - nI 1 else nI 0)) (ixP p 3) ((upd (upd S 3 (S 3 + sWalk S p f0)) (ixF f0 1) (if nI 0 < (upd S 3 (S 3 + sWalk S p f0)) (ixF f0 1) - nI 1 then (upd S 3 (S 3 + sWalk S p f0)) (ixF f0 1) - nI 1 else nI 0)) (ixP p 3) ||| nI 1 <<< (nI f0 &&& 31))) (ixF f0 0) = nI (tn ((upd S 3 (S 3 + sWalk S p f0)) (ixF f0 0))) from by rw [pk_un (by unfold ixF ixP; omega), pk_un (by unfold ixF; omega)]; exact (hI3.owner hf0).1]
    refine x_istore3 G d_M_goes_84 rfl hk ?_
    refine x_iload3 G d_M_goes_85 ?_
    refine x_iload1 G d_M_goes_86 ?_
    refine x_icmp_eq G d_M_goes_87 (fun c87 => ?_) (fun c87 => ?_)
    · have hc : ¬ ((upd S 3 (S 3 + sWalk S p f0)) (ixF f0 0) ≠ nI p ∧ isO ((upd S 3 (S 3 + sWalk S p f0)) 0) ((upd S 3 (S 3 + sWalk S p f0)) (ixF f0 0)) = true) := fun q => q.1 ((hI3.owner hf0).1.trans c87)
      exact m_vret E G d_M_goes_112 hx rfl ⟨rfl, (by rw [heq]; exact ⟨by unfold sArr; rw [if_neg hc]; exact hS6, hT6, hO6⟩)⟩
    · refine x_aload0 G d_M_goes_90 ?_
      refine x_iload3 G d_M_goes_91 ?_
      refine m_callV_pi (p_M_isOne (kg κ) (d - 1) (by omega) _ (tn (S 0)) hn0 hn8.2 _) G d_M_goes_92 lk_M_126 rfl ⟨by decide, rfl⟩ (by decide) (by omega) rfl (Nat.le_of_ble_eq_true rfl) hx ?_
      refine x_if_eq G d_M_goes_95 (fun c95 => ?_) (fun c95 => ?_)
      · have hc : ¬ ((upd S 3 (S 3 + sWalk S p f0)) (ixF f0 0) ≠ nI p ∧ isO ((upd S 3 (S 3 + sWalk S p f0)) 0) ((upd S 3 (S 3 + sWalk S p f0)) (ixF f0 0)) = true) := fun q => by
          have q2 := bI_0.mp c95
          have q3 := q.2
          rw [pk_un (by decide), hn8.1, (hI3.owner hf0).1] at q3
          rw [q3] at q2
          cases q2
        exact m_vret E G d_M_goes_112 hx rfl ⟨rfl, (by rw [heq]; exact ⟨by unfold sArr; rw [if_neg hc]; exact hS6, hT6, hO6⟩)⟩
      · have q2 := bI_n0.mp c95
        have hc : ((upd S 3 (S 3 + sWalk S p f0)) (ixF f0 0) ≠ nI p ∧ isO ((upd S 3 (S 3 + sWalk S p f0)) 0) ((upd S 3 (S 3 + sWalk S p f0)) (ixF f0 0)) = true) := ⟨fun q => c87 ((hI3.owner hf0).1.symm.trans q), by rw [pk_un (by decide), hn8.1, (hI3.owner hf0).1]; exact q2⟩
        have how : (tn ((upd S 3 (S 3 + sWalk S p f0)) (ixF f0 0))) < 8 := by
          simp only [isO, Bool.and_eq_true, Bool.not_eq_true', decide_eq_false_iff_not] at q2
          rcases Nat.lt_or_ge (tn ((upd S 3 (S 3 + sWalk S p f0)) (ixF f0 0))) (tn (S 0)) with q | q
          · omega
          · exact absurd (nI_le q (by omega)) q2.2
        refine x_aload0 G d_M_goes_98 ?_
        refine x_iload3 G d_M_goes_99 ?_
        refine x_iconst (v := nI 4) G d_M_goes_100 rfl ?_
        refine x_aload0 G d_M_goes_101 ?_
        refine x_iload3 G d_M_goes_102 ?_
        refine x_iconst (v := nI 4) G d_M_goes_103 rfl ?_
        refine m_callV_pi (p_M_of (kg κ) (d - 1) (by omega) _ (tn ((upd S 3 (S 3 + sWalk S p f0)) (ixF f0 0))) 4 how (by decide)) G d_M_goes_104 lk_M_107 rfl ⟨by decide, rfl⟩ (by decide) (by omega) rfl (Nat.le_of_ble_eq_true rfl) hx ?_
        rw [hS6]
        refine x_iconst (v := nI 1) G d_M_goes_107 rfl ?_
        refine x_iadd G d_M_goes_108 ?_
        refine m_callV_pv (p_M_sets (kg κ) (d - 1) (by omega) _ (tn ((upd S 3 (S 3 + sWalk S p f0)) (ixF f0 0))) 4 how (by decide) _) G d_M_goes_109 lk_M_87 rfl ⟨by decide, rfl⟩ (by decide) (by omega) rfl (Nat.le_of_ble_eq_true rfl) hx (fun σ7 e7 => ?_)
        exact m_vret E G d_M_goes_112 hx rfl ⟨rfl, (by rw [heq]; exact ⟨by unfold sArr; rw [if_pos hc, e7, updS_row, hS6], fun i hi => by rw [e7, updS_nk (by decide)]; exact hT6 i hi, by rw [e7]; exact hO6.upd (Or.inl rfl)⟩)⟩
  · have hm1 : v1 = -1 := hg.resolve_right (fun ⟨f0, q1, q2⟩ => c7 (by rw [q2]; exact nI_pos' (by omega)))
    refine x_aload0 G d_M_goes_10 ?_
    refine m_getr G d_M_goes_11 fl_M_7 rfl (by decide) rfl ?_
    refine x_iconst (v := nI 4) G d_M_goes_14 rfl ?_
    refine x_dup2 G d_M_goes_15 rfl rfl ?_
    refine m_iald 4 G d_M_goes_16 rfl rfl ⟨by omega, by first | decide | omega⟩ ?_
    rw [hS1]
    refine x_iconst (v := nI 1) G d_M_goes_17 rfl ?_
    refine x_iadd G d_M_goes_18 ?_
    refine m_iast_n 4 G d_M_goes_19 rfl rfl ⟨by omega, by first | decide | omega⟩ (fun σ2 e2 => ?_)
    exact m_vret E G d_M_goes_20 hx rfl ⟨rfl, (by rw [show sGo S T p = (upd S 4 (S 4 + nI 1), T) by unfold sGo; rw [← hv1, if_pos hm1]]; exact ⟨by rw [e2, updS_row, hS1], fun i hi => by rw [e2, updS_nk (by decide)]; exact hT1 i hi, by rw [e2]; exact hO1.upd (Or.inl rfl)⟩)⟩
