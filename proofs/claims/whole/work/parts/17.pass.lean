/-! n noons one behind the other -/
theorem p_Wo_pass (g : CX) (d : Nat) (hd : 5 ≤ d) (σ : Sg) (w : Nat) (hw : isW w) (S : Rw) (hR : WRel w S σ) (hI : Inv S) (hL : LRel S σ) (n : Nat) (hn9 : tn (S 2) + n ≤ 11000) (ab : Int32) : RunM g d Wo_pass [.ref w, .int (nI n), .int ab] σ (PV (fun σ1 => WRel w (passN S ab n) σ1 ∧ OutW w σ σ1 ∧ (0 < n → StT w (sNoonT (passN S ab (n - 1)) ab) σ1))) := by
  refine RunM.of 3 (by decide +kernel) rfl ?_
  intro κ hg hx hk0 G E
  subst hg
  have hk : 6 ≤ kn κ := Nat.le_of_eq hk0.symm
  show X κ NC 0 [some (.ref w), some (.int (nI n)), some (.int ab), none, none, none] [] (hv σ)
  refine x_iconst (v := nI 0) G d_Wo_pass_0 rfl ?_
  refine x_istore3 G d_Wo_pass_1 rfl hk ?_
  have hloop : ∀ (m j : Nat) (σ1 : Sg) (o4 o5 : Option Value), j ≤ n → n < j + m → WRel w (passN S ab j) σ1 → OutW w σ σ1 → (0 < j → StT w (sNoonT (passN S ab (j - 1)) ab) σ1) → X κ NC 2 [some (.ref w), some (.int (nI n)), some (.int ab), some (.int (nI j)), o4, o5] [] (hv σ1) := by
    intro m
    induction m with
    | zero => intro j σ1 o4 o5 h1 h2; omega
    | succ m ih1 =>
      intro j σ1 o4 o5 hj1 hj2 hR1 hO1 hT1
      obtain ⟨hI1, k0, k1, k2, kA, -⟩ := passN_keep hI ab j (by omega)
      have hw27 : 27 < w := by rcases hw with rfl | rfl | rfl <;> decide
      have hn8 := hI1.n
      obtain ⟨S1, hS1'⟩ : ∃ z, z = passN S ab j := ⟨_, rfl⟩
      rw [← hS1'] at hR1 hI1 k0 k1 k2 kA hn8
      have hS1 := hS1'.symm
      refine x_iload3 G d_Wo_pass_2 ?_
      refine x_iload1 G d_Wo_pass_3 ?_
      refine x_icmp_ge G d_Wo_pass_4 (fun c4 => ?_) (fun c4 => ?_)
      · have hjn : j = n := by rw [nle (by omega) (by omega)] at c4; omega
        exact m_vret E G d_Wo_pass_89 hx rfl ⟨rfl, (by rw [← hjn, hS1]; exact hR1), hO1, (by rw [← hjn]; exact hT1)⟩
      · have hjn : j < n := by rw [nle (by omega) (by omega)] at c4; omega
        refine x_aload0 G d_Wo_pass_7 ?_
        refine m_callV_pv (p_Wo_standNowhere (kg κ) (d - 1) (by omega) σ1 w hw) G d_Wo_pass_8 lk_Wo_114 (W_o hw) ⟨by decide, rfl⟩ (W_l hw) (by omega) rfl (Nat.le_of_ble_eq_true rfl) hx (fun σ2 ⟨h2a, h2b⟩ => ?_)
        refine x_iconst (v := nI 0) G d_Wo_pass_11 rfl ?_
        refine x_istore4 G d_Wo_pass_12 rfl hk ?_
        have hin : ∀ (m i : Nat) (σ2 : Sg) (o5 : Option Value), i ≤ tn (S1 0) → tn (S1 0) < i + m → WRel w (sGos S1 ab i).1 σ2 → StT w (sGos S1 ab i).2 σ2 → OutW w σ σ2 → X κ NC 14 [some (.ref w), some (.int (nI n)), some (.int ab), some (.int (nI j)), some (.int (nI i)), o5] [] (hv σ2) := by
          intro m
          induction m with
          | zero => intro i σ2 o5 h1 h2; omega
          | succ m ih2 =>
            intro i σ2 o5 hi1 hi2 hR2 hT2 hO2
            have hkk : Keep S1 (sGos S1 ab i).1 ∧ TOk (sGos S1 ab i).2 := by
              rcases Nat.eq_zero_or_pos (tn (S1 0)) with q | q
              · rw [show i = 0 by omega]; exact ⟨Keep.refl, fun _ _ => Or.inl rfl⟩
              · exact sGos_keep hI1 ab q i
            refine x_iload4 G d_Wo_pass_14 ?_
            refine x_aload0 G d_Wo_pass_16 ?_
            refine m_geti G d_Wo_pass_17 fl_Wo_29 (W_o hw) (W_l hw) (W_ij hw 7 (by decide) (by decide)) ?_
            rw [show σ2 w 7 = nI (tn (S1 0)) by rw [hR2.n, hkk.1.1]; exact hn8.1]
            refine x_icmp_ge G d_Wo_pass_20 (fun c20 => ?_) (fun c20 => ?_)
            · have hin0 : i = tn (S1 0) := by rw [nle (by omega) (by omega)] at c20; omega
              refine x_aload0 G d_Wo_pass_55 ?_
              refine m_callV_pi (p_Wo_draw (kg κ) (d - 1) (by omega) σ2 w hw) G d_Wo_pass_56 lk_Wo_121 (W_o hw) ⟨by decide, rfl⟩ (W_l hw) (by omega) rfl (Nat.le_of_ble_eq_true rfl) hx ?_
              obtain ⟨σ3, e3⟩ : ∃ z, z = updS σ2 w 12 (zn (σ2 w 12)) := ⟨_, rfl⟩
              rw [← e3, show σ2 w 12 = (sGos S1 ab i).1 6 from hR2.z]
              subst hin0
              have hR3 : WRel w (upd (sGos S1 ab (tn (S1 0))).1 6 (zn ((sGos S1 ab (tn (S1 0))).1 6))) σ3 := by rw [e3, ← hR2.z]; exact hR2.sets (by unfold scal; omega) _
              have hT3 : StT w (sNoonT S1 ab) σ3 := hT2.ne (by rw [e3]; exact updS_nk (by omega))
              have hO3 : OutW w σ σ3 := by rw [e3]; exact hO2.upd (by omega)
              have hk3 : Keep S1 (upd (sGos S1 ab (tn (S1 0))).1 6 (zn ((sGos S1 ab (tn (S1 0))).1 6))) := hkk.1.put (Or.inl (by omega))
              refine x_bipush (v := nI 100) G d_Wo_pass_59 rfl ?_
              refine x_irem G d_Wo_pass_61 (by decide +kernel) ?_
              refine x_aload0 G d_Wo_pass_62 ?_
              refine m_geti G d_Wo_pass_63 fl_Wo_36 (W_o hw) (W_l hw) (W_ij hw 9 (by decide) (by decide)) ?_
              rw [show σ3 w 9 = S1 5 by rw [hR3.late, hk3.2.2.2.1]]
              refine x_icmp_ge G d_Wo_pass_66 (fun c66 => ?_) (fun c66 => ?_)
              · have e4 : sNoon S1 ab = upd (upd (sGos S1 ab (tn (S1 0))).1 6 (zn ((sGos S1 ab (tn (S1 0))).1 6))) 2 ((upd (sGos S1 ab (tn (S1 0))).1 6 (zn ((sGos S1 ab (tn (S1 0))).1 6))) 2 + nI 1) := by
                  unfold sNoon; simp only; rw [if_neg (by rw [pk_us]; exact Int32.not_lt.mpr c66)]
                refine x_aload0 G d_Wo_pass_73 ?_
                refine x_dup G d_Wo_pass_74 rfl ?_
                refine m_geti G d_Wo_pass_75 fl_Wo_33 (W_o hw) (W_l hw) (W_ij hw 8 (by decide) (by decide)) ?_
                rw [show σ3 w 8 = (upd (sGos S1 ab (tn (S1 0))).1 6 (zn ((sGos S1 ab (tn (S1 0))).1 6))) 2 from hR3.noon]
                refine x_iconst (v := nI 1) G d_Wo_pass_78 rfl ?_
                refine x_iadd G d_Wo_pass_79 ?_
                refine m_puti_n G d_Wo_pass_80 fl_Wo_33 (W_o hw) (W_l hw) (W_ij hw 8 (by decide) (by decide)) rfl rfl (fun σ5 e5 => ?_)
                refine x_iinc3 (v := nI (j + 1)) G d_Wo_pass_83 rfl hk (nI_1 _) ?_
                refine x_goto G d_Wo_pass_86 ?_
                exact ih1 (j + 1) σ5 _ _ (by omega) (by omega) (by rw [passN, hS1, e4, e5]; exact (hR3).sets (by unfold scal; omega) _) (by rw [e5]; exact (hO3).upd (by omega)) (fun _ => by rw [Nat.add_sub_cancel, hS1]; exact (hT3).ne (by rw [e5]; exact updS_nk (by omega)))
              · have e4 : sNoon S1 ab = upd (sCat (upd (sGos S1 ab (tn (S1 0))).1 6 (zn ((sGos S1 ab (tn (S1 0))).1 6))) (sNoonT S1 ab) (tn (S1 0))) 2 ((sCat (upd (sGos S1 ab (tn (S1 0))).1 6 (zn ((sGos S1 ab (tn (S1 0))).1 6))) (sNoonT S1 ab) (tn (S1 0))) 2 + nI 1) := by
                  unfold sNoon; simp only; rw [if_pos (by rw [pk_us]; exact Int32.not_le.mp c66)]
                refine x_aload0 G d_Wo_pass_69 ?_
                refine m_callV_pv (p_Wo_catchNearHome (kg κ) (d - 1) (by omega) σ3 w hw _ hR3 (hk3.inv hI1) _ hT3 hkk.2) G d_Wo_pass_70 lk_Wo_125 (W_o hw) ⟨by decide, rfl⟩ (W_l hw) (by omega) rfl (Nat.le_of_ble_eq_true rfl) hx (fun σ4 ⟨h4a, h4b, h4c⟩ => ?_)
                rw [hk3.1] at h4a
                have h4c' : OutW w σ σ4 := hO3.trans h4c
                refine x_aload0 G d_Wo_pass_73 ?_
                refine x_dup G d_Wo_pass_74 rfl ?_
                refine m_geti G d_Wo_pass_75 fl_Wo_33 (W_o hw) (W_l hw) (W_ij hw 8 (by decide) (by decide)) ?_
                rw [show σ4 w 8 = (sCat (upd (sGos S1 ab (tn (S1 0))).1 6 (zn ((sGos S1 ab (tn (S1 0))).1 6))) (sNoonT S1 ab) (tn (S1 0))) 2 from h4a.noon]
                refine x_iconst (v := nI 1) G d_Wo_pass_78 rfl ?_
                refine x_iadd G d_Wo_pass_79 ?_
                refine m_puti_n G d_Wo_pass_80 fl_Wo_33 (W_o hw) (W_l hw) (W_ij hw 8 (by decide) (by decide)) rfl rfl (fun σ5 e5 => ?_)
                refine x_iinc3 (v := nI (j + 1)) G d_Wo_pass_83 rfl hk (nI_1 _) ?_
                refine x_goto G d_Wo_pass_86 ?_
                exact ih1 (j + 1) σ5 _ _ (by omega) (by omega) (by rw [passN, hS1, e4, e5]; exact (h4a).sets (by unfold scal; omega) _) (by rw [e5]; exact (h4c').upd (by omega)) (fun _ => by rw [Nat.add_sub_cancel, hS1]; exact (h4b).ne (by rw [e5]; exact updS_nk (by omega)))
            · have hin0 : i < tn (S1 0) := by rw [nle (by omega) (by omega)] at c20; omega
              have hp8 : (tn (S1 2) + i) % tn (S1 0) < 8 := Nat.lt_of_lt_of_le (Nat.mod_lt _ (by omega)) hn8.2
              have ht2 := hI1.2.2.1
              refine x_aload0 G d_Wo_pass_23 ?_
              refine m_geti G d_Wo_pass_24 fl_Wo_33 (W_o hw) (W_l hw) (W_ij hw 8 (by decide) (by decide)) ?_
              rw [show σ2 w 8 = nI (tn (S1 2)) by rw [hR2.noon, hkk.1.2.2.1]; exact ht2.1]
              refine x_iload4 G d_Wo_pass_27 ?_
              refine x_iadd G d_Wo_pass_29 ?_
              refine x_aload0 G d_Wo_pass_30 ?_
              refine m_geti G d_Wo_pass_31 fl_Wo_29 (W_o hw) (W_l hw) (W_ij hw 7 (by decide) (by decide)) ?_
              rw [show σ2 w 7 = nI (tn (S1 0)) by rw [hR2.n, hkk.1.1]; exact hn8.1]
              refine x_irem G d_Wo_pass_34 (nI_ne0 (by omega) (by omega)) ?_
              rw [nI_add, pk_rem (by have := ht2.2; omega) (by omega) (by omega)]
              refine x_istore5 G d_Wo_pass_35 rfl hk ?_
              refine x_iload5 G d_Wo_pass_37 ?_
              refine x_iload2 G d_Wo_pass_39 ?_
              refine x_icmp_eq G d_Wo_pass_40 (fun c40 => ?_) (fun c40 => ?_)
              · refine x_iinc4 (v := nI (i + 1)) G d_Wo_pass_49 rfl hk (nI_1 _) ?_
                refine x_goto G d_Wo_pass_52 ?_
                exact ih2 (i + 1) σ2 _ (by omega) (by omega) (by rw [sGos]; rw [if_pos c40]; exact hR2) (by rw [sGos]; rw [if_pos c40]; exact hT2) hO2
              · refine x_aload0 G d_Wo_pass_43 ?_
                refine x_iload5 G d_Wo_pass_44 ?_
                refine m_callV_pv (p_Wo_setOut (kg κ) (d - 1) (by omega) σ2 w hw _ hR2 (hkk.1.inv hI1) (lrel_of hw hI hL (kA.trans hkk.1.2.2.2.2.2.2.2) hO2) _ hT2 _ hp8) G d_Wo_pass_46 lk_Wo_117 (W_o hw) ⟨by decide, rfl⟩ (W_l hw) (by omega) rfl (Nat.le_of_ble_eq_true rfl) hx (fun σ3 ⟨h3a, h3b, h3c⟩ => ?_)
                refine x_iinc4 (v := nI (i + 1)) G d_Wo_pass_49 rfl hk (nI_1 _) ?_
                refine x_goto G d_Wo_pass_52 ?_
                exact ih2 (i + 1) σ3 _ (by omega) (by omega) (by rw [sGos]; rw [if_neg c40]; exact h3a) (by rw [sGos]; rw [if_neg c40]; exact h3b) (hO2.trans h3c)
        exact hin (tn (S1 0) + 1) 0 σ2 _ (Nat.zero_le _) (by omega) (hR1.frame (fun k _ _ h3 => h2b k h3)) h2a (hO1.trans (fun k h1 h2 => h2b k (by omega)))
  exact hloop (n + 1) 0 σ none none (Nat.zero_le _) (by omega) hR OutW.refl (fun h => absurd h (Nat.lt_irrefl _))
