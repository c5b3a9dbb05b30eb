/-! the model's goesOn and goesOnMany -/
theorem mod_dis {a i j n : Nat} (h1 : i < j) (h2 : j < n) : (a + i) % n ≠ (a + j) % n := by
  intro h
  have hn : 0 < n := by omega
  have e1 := Nat.div_add_mod (a + i) n
  have e2 := Nat.div_add_mod (a + j) n
  have hle : (a + i) / n ≤ (a + j) / n := Nat.div_le_div_right (by omega)
  rcases Nat.lt_or_ge ((a + i) / n) ((a + j) / n) with q | q
  · have : n * ((a + i) / n) + n ≤ n * ((a + j) / n) := by
      calc n * ((a + i) / n) + n = n * ((a + i) / n + 1) := by rw [Nat.mul_add, Nat.mul_one]
        _ ≤ n * ((a + j) / n) := Nat.mul_le_mul_left _ q
    omega
  · have : (a + i) / n = (a + j) / n := by omega
    rw [this] at e1
    omega
theorem sGo_T {S : Rw} {T : Nat → Int32} {p q : Nat} (h : q ≠ p) : (sGo S T p).2 q = T q := by
  unfold sGo
  split
  · rfl
  · exact pk_un h
theorem sGos_T {S : Rw} {ab : Int32} {q : Nat} : ∀ i, (∀ j, j < i → (tn (S 2) + j) % tn (S 0) ≠ q) → (sGos S ab i).2 q = -1
  | 0, _ => rfl
  | i + 1, h => by
    have ih := sGos_T (S := S) (ab := ab) (q := q) i (fun j hj => h j (by omega))
    rw [sGos]
    split
    · exact ih
    · rw [sGo_T (Ne.symm (h i (by omega)))]; exact ih
theorem p_M_goesOn (g : CX) (d : Nat) (hd : 5 ≤ d) (σ : Sg) (S : Rw) (hS : σ 114 = S) (hI : Inv S) (ab : Int32) (hab : σ 113 13 = ab) : RunM g d M_goesOn [.ref 113] σ (PV (fun σ1 => σ1 114 = sNoon S ab ∧ MT (sNoonT S ab) σ1 ∧ OutM σ σ1)) := by
  refine RunM.of 2 (by decide +kernel) rfl ?_
  intro κ hg hx hk0 G E
  subst hg
  have hk : 3 ≤ kn κ := Nat.le_of_eq hk0.symm
  show X κ NC 0 [some (.ref 113), none, none] [] (hv σ)
  refine x_iconst (v := nI 0) G d_M_goesOn_0 rfl ?_
  refine x_istore1 G d_M_goesOn_1 rfl hk ?_
  have hl1 : ∀ (m i : Nat) (σ1 : Sg) (o2 : Option Value), i ≤ 8 → 8 < i + m → (∀ j, j < i → σ1 125 j = -1) → (∀ k, k ≠ 125 → σ1 k = σ k) → X κ NC 2 [some (.ref 113), some (.int (nI i)), o2] [] (hv σ1) := by
    intro m
    induction m with
    | zero => intro i σ1 o2 h1 h2; omega
    | succ m ih1 =>
      intro i σ1 o2 hi1 hi2 hJ hF
      refine x_iload1 G d_M_goesOn_2 ?_
      refine x_bipush (v := nI 8) G d_M_goesOn_3 rfl ?_
      refine x_icmp_ge G d_M_goesOn_5 (fun c5 => ?_) (fun c5 => ?_)
      · have hin : i = 8 := by rw [nle (by omega) (by omega)] at c5; omega
        refine x_iconst (v := nI 0) G d_M_goesOn_21 rfl ?_
        refine x_istore1 G d_M_goesOn_22 rfl hk ?_
        have hl2 : ∀ (m i : Nat) (σ2 : Sg) (o2 : Option Value), i ≤ tn (S 0) → tn (S 0) < i + m → σ2 114 = (sGos S ab i).1 → MT (sGos S ab i).2 σ2 → OutM σ σ2 → X κ NC 23 [some (.ref 113), some (.int (nI i)), o2] [] (hv σ2) := by
          intro m
          induction m with
          | zero => intro i σ2 o2 h1 h2; omega
          | succ m ih2 =>
            intro i σ2 o2 hi3 hi4 hS2 hT2 hO2
            have hkk : Keep S (sGos S ab i).1 ∧ TOk (sGos S ab i).2 := by
              rcases Nat.eq_zero_or_pos (tn (S 0)) with q | q
              · rw [show i = 0 by omega]; exact ⟨Keep.refl, fun _ _ => Or.inl rfl⟩
              · exact sGos_keep hI ab q i
            have hn8 := hI.n
            have h0 : σ2 114 0 = nI (tn (S 0)) := by rw [hS2, hkk.1.1]; exact hn8.1
            refine x_iload1 G d_M_goesOn_23 ?_
            refine x_aload0 G d_M_goesOn_24 ?_
            refine m_getr G d_M_goesOn_25 fl_M_7 rfl (by decide) rfl ?_
            refine x_iconst (v := nI 0) G d_M_goesOn_28 rfl ?_
            refine m_iald 0 G d_M_goesOn_29 rfl rfl ⟨by omega, by first | decide | omega⟩ ?_
            rw [h0]
            refine x_icmp_ge G d_M_goesOn_30 (fun c30 => ?_) (fun c30 => ?_)
            · have hin : i = tn (S 0) := by rw [nle (by omega) (by omega)] at c30; omega
              refine x_aload0 G d_M_goesOn_75 ?_
              refine m_callV_pi (p_M_drawn (kg κ) (d - 1) (by omega) σ2) G d_M_goesOn_76 lk_M_159 rfl ⟨by decide, rfl⟩ (by decide) (by omega) rfl (Nat.le_of_ble_eq_true rfl) hx ?_
              subst hin
              obtain ⟨σ3, e3⟩ : ∃ z, z = updS σ2 114 6 (zn (σ2 114 6)) := ⟨_, rfl⟩
              rw [← e3, hS2]
              have hS3 : σ3 114 = (upd (sGos S ab (tn (S 0))).1 6 (zn ((sGos S ab (tn (S 0))).1 6))) := by rw [e3, updS_row, hS2]
              have hT3 : MT (sNoonT S ab) σ3 := fun j hj => by rw [e3, updS_nk (by decide)]; exact hT2 j hj
              have hO3 : OutM σ σ3 := by rw [e3]; exact hO2.upd (Or.inl rfl)
              have hk3 : Keep S (upd (sGos S ab (tn (S 0))).1 6 (zn ((sGos S ab (tn (S 0))).1 6))) := hkk.1.put (Or.inl (by omega))
              have hTO := hkk.2
              refine x_bipush (v := nI 100) G d_M_goesOn_79 rfl ?_
              refine x_irem G d_M_goesOn_81 (by decide +kernel) ?_
              refine x_aload0 G d_M_goesOn_82 ?_
              refine m_getr G d_M_goesOn_83 fl_M_7 rfl (by decide) rfl ?_
              refine x_iconst (v := nI 5) G d_M_goesOn_86 rfl ?_
              refine m_iald 5 G d_M_goesOn_87 rfl rfl ⟨by omega, by first | decide | omega⟩ ?_
              rw [show σ3 114 5 = S 5 by rw [hS3]; exact hk3.2.2.2.1]
              refine x_icmp_ge G d_M_goesOn_88 (fun c88 => ?_) (fun c88 => ?_)
              · obtain ⟨lt, hlt⟩ : ∃ b : Bool, b = false := ⟨_, rfl⟩
                have e4 : sNoon S ab = upd (if lt then sCat (upd (sGos S ab (tn (S 0))).1 6 (zn ((sGos S ab (tn (S 0))).1 6))) (sNoonT S ab) (tn (S 0)) else (upd (sGos S ab (tn (S 0))).1 6 (zn ((sGos S ab (tn (S 0))).1 6)))) 2 ((if lt then sCat (upd (sGos S ab (tn (S 0))).1 6 (zn ((sGos S ab (tn (S 0))).1 6))) (sNoonT S ab) (tn (S 0)) else (upd (sGos S ab (tn (S 0))).1 6 (zn ((sGos S ab (tn (S 0))).1 6)))) 2 + nI 1) := by
                  unfold sNoon; simp only; rw [if_neg (by rw [pk_us]; exact Int32.not_lt.mpr c88), hlt]; rfl
                refine x_iconst (v := nI 0) G d_M_goesOn_95 rfl ?_
                rw [show nI 0 = bI lt by rw [hlt]; rfl]
                refine x_istore1 G d_M_goesOn_96 rfl hk ?_
                refine x_iconst (v := nI 0) G d_M_goesOn_97 rfl ?_
                refine x_istore2 G d_M_goesOn_98 rfl hk ?_
                have hl3 : ∀ (m i : Nat) (σ4 : Sg), i ≤ tn (S 0) → tn (S 0) < i + m → σ4 114 = (if lt then sCat (upd (sGos S ab (tn (S 0))).1 6 (zn ((sGos S ab (tn (S 0))).1 6))) (sNoonT S ab) i else (upd (sGos S ab (tn (S 0))).1 6 (zn ((sGos S ab (tn (S 0))).1 6)))) → MT (sNoonT S ab) σ4 → OutM σ σ4 → X κ NC 99 [some (.ref 113), some (.int (bI lt)), some (.int (nI i))] [] (hv σ4) := by
                  intro m
                  induction m with
                  | zero => intro i σ4 h1 h2; omega
                  | succ m ih3 =>
                    intro i σ4 hi5 hi6 hS4 hT4 hO4
                    have hk4 : Keep S (if lt then sCat (upd (sGos S ab (tn (S 0))).1 6 (zn ((sGos S ab (tn (S 0))).1 6))) (sNoonT S ab) i else (upd (sGos S ab (tn (S 0))).1 6 (zn ((sGos S ab (tn (S 0))).1 6)))) := by
                      by_cases q : lt = true
                      · rw [if_pos q]; exact hk3.trans (sCat_keep i (by omega))
                      · rw [if_neg q]; exact hk3
                    have h04 : σ4 114 0 = nI (tn (S 0)) := by rw [hS4, hk4.1]; exact hn8.1
                    refine x_iload2 G d_M_goesOn_99 ?_
                    refine x_aload0 G d_M_goesOn_100 ?_
                    refine m_getr G d_M_goesOn_101 fl_M_7 rfl (by decide) rfl ?_
                    refine x_iconst (v := nI 0) G d_M_goesOn_104 rfl ?_
                    refine m_iald 0 G d_M_goesOn_105 rfl rfl ⟨by omega, by first | decide | omega⟩ ?_
                    rw [h04]
                    refine x_icmp_ge G d_M_goesOn_106 (fun c106 => ?_) (fun c106 => ?_)
                    · have hin : i = tn (S 0) := by rw [nle (by omega) (by omega)] at c106; omega
                      refine x_aload0 G d_M_goesOn_161 ?_
                      refine m_getr G d_M_goesOn_162 fl_M_7 rfl (by decide) rfl ?_
                      refine x_iconst (v := nI 2) G d_M_goesOn_165 rfl ?_
                      refine x_dup2 G d_M_goesOn_166 rfl rfl ?_
                      refine m_iald 2 G d_M_goesOn_167 rfl rfl ⟨by omega, by first | decide | omega⟩ ?_
                      rw [hS4]
                      refine x_iconst (v := nI 1) G d_M_goesOn_168 rfl ?_
                      refine x_iadd G d_M_goesOn_169 ?_
                      refine m_iast_n 2 G d_M_goesOn_170 rfl rfl ⟨by omega, by first | decide | omega⟩ (fun σ6 e6 => ?_)
                      exact m_vret E G d_M_goesOn_171 hx rfl ⟨rfl, (by rw [e4, e6, updS_row, hS4, hin]), (fun j hj => by rw [e6, updS_nk (by decide)]; exact hT4 j hj), (by rw [e6]; exact hO4.upd (Or.inl rfl))⟩
                    · have hin : i < tn (S 0) := by rw [nle (by omega) (by omega)] at c106; omega
                      refine x_iload1 G d_M_goesOn_109 ?_
                      refine x_if_eq G d_M_goesOn_110 (fun c110 => ?_) (fun c110 => ?_)
                      · have hlf := bI_0.mp c110
                        refine x_iinc2 (v := nI (i + 1)) G d_M_goesOn_155 rfl hk (nI_1 _) ?_
                        refine x_goto G d_M_goesOn_158 ?_
                        exact ih3 (i + 1) σ4 (by omega) (by omega) (by rw [hS4, hlf]; rfl) hT4 hO4
                      · have hlf := bI_n0.mp c110
                        refine x_aload0 G d_M_goesOn_113 ?_
                        refine m_getr G d_M_goesOn_114 fl_M_43 rfl (by decide) rfl ?_
                        refine x_iload2 G d_M_goesOn_117 ?_
                        refine m_iald i G d_M_goesOn_118 rfl rfl ⟨by omega, by first | decide | omega⟩ ?_
                        rw [hT4 i (by omega)]
                        refine x_if_lt G d_M_goesOn_119 (fun c119 => ?_) (fun c119 => ?_)
                        · have hm1 : sNoonT S ab i = -1 := (hTO i (by omega)).resolve_right (fun ⟨f, q1, q2⟩ => nI_pos (n := f) (by omega) (by have q3 := c119; rw [show sNoonT S ab i = nI f from q2] at q3; exact q3))
                          refine x_iinc2 (v := nI (i + 1)) G d_M_goesOn_155 rfl hk (nI_1 _) ?_
                          refine x_goto G d_M_goesOn_158 ?_
                          exact ih3 (i + 1) σ4 (by omega) (by omega) (by rw [hS4, hlf, if_pos rfl, if_pos rfl, sCat, if_neg (fun q => q.1 hm1)]) hT4 hO4
                        · obtain ⟨f, hf, hTf⟩ : ∃ f, f < 9 ∧ sNoonT S ab i = nI f := (hTO i (by omega)).resolve_left (fun q => c119 (by rw [show sNoonT S ab i = -1 from q]; decide))
                          refine x_aload0 G d_M_goesOn_122 ?_
                          refine x_iload2 G d_M_goesOn_123 ?_
                          refine x_iconst (v := nI 1) G d_M_goesOn_124 rfl ?_
                          refine m_callV_pi (p_M_of (kg κ) (d - 1) (by omega) _ i 1 (by omega) (by decide)) G d_M_goesOn_125 lk_M_107 rfl ⟨by decide, rfl⟩ (by decide) (by omega) rfl (Nat.le_of_ble_eq_true rfl) hx ?_
                          have hhm := hI.home (show i < 8 by omega)
                          rw [show σ4 114 (ixP i 1) = nI (tn (S (ixP i 1))) by rw [hS4, hk4.2.2.2.2.1 i 1 (by omega) (by decide)]; exact hhm.1]
                          refine x_aload0 G d_M_goesOn_128 ?_
                          refine m_getr G d_M_goesOn_129 fl_M_43 rfl (by decide) rfl ?_
                          refine x_iload2 G d_M_goesOn_132 ?_
                          refine m_iald i G d_M_goesOn_133 rfl rfl ⟨by omega, by first | decide | omega⟩ ?_
                          rw [hT4 i (by omega), hTf]
                          refine m_callS_pi (p_M_farOf (kg κ) (d - 1) (by omega) _ (tn (S (ixP i 1))) f (by omega) hf) G d_M_goesOn_134 lk_M_110 (by omega) rfl (Nat.le_of_ble_eq_true rfl) hx ?_
                          refine x_iconst (v := nI 1) G d_M_goesOn_137 rfl ?_
                          refine x_icmp_gt G d_M_goesOn_138 (fun c138 => ?_) (fun c138 => ?_)
                          · have hfl := far_le (tn (S (ixP i 1))) (by omega) f hf
                            rw [nlt (by omega) (by omega)] at c138
                            refine x_iinc2 (v := nI (i + 1)) G d_M_goesOn_155 rfl hk (nI_1 _) ?_
                            refine x_goto G d_M_goesOn_158 ?_
                            exact ih3 (i + 1) σ4 (by omega) (by omega) (by rw [hS4, hlf, if_pos rfl, if_pos rfl, sCat, if_neg (fun q => by
                          have q2 := q.2
                          rw [hTf, tn_nI (by omega), hk3.2.2.2.2.1 i 1 (by omega) (by decide)] at q2
                          omega)]) hT4 hO4
                          · have hfl := far_le (tn (S (ixP i 1))) (by omega) f hf
                            rw [nlt (by omega) (by omega)] at c138
                            refine x_aload0 G d_M_goesOn_141 ?_
                            refine x_iload2 G d_M_goesOn_142 ?_
                            refine x_iconst (v := nI 5) G d_M_goesOn_143 rfl ?_
                            refine x_aload0 G d_M_goesOn_144 ?_
                            refine x_iload2 G d_M_goesOn_145 ?_
                            refine x_iconst (v := nI 5) G d_M_goesOn_146 rfl ?_
                            refine m_callV_pi (p_M_of (kg κ) (d - 1) (by omega) _ i 5 (by omega) (by decide)) G d_M_goesOn_147 lk_M_107 rfl ⟨by decide, rfl⟩ (by decide) (by omega) rfl (Nat.le_of_ble_eq_true rfl) hx ?_
                            rw [hS4]
                            refine x_iconst (v := nI 1) G d_M_goesOn_150 rfl ?_
                            refine x_iadd G d_M_goesOn_151 ?_
                            refine m_callV_pv (p_M_sets (kg κ) (d - 1) (by omega) _ i 5 (by omega) (by decide) _) G d_M_goesOn_152 lk_M_87 rfl ⟨by decide, rfl⟩ (by decide) (by omega) rfl (Nat.le_of_ble_eq_true rfl) hx (fun σ5 e5 => ?_)
                            refine x_iinc2 (v := nI (i + 1)) G d_M_goesOn_155 rfl hk (nI_1 _) ?_
                            refine x_goto G d_M_goesOn_158 ?_
                            exact ih3 (i + 1) σ5 (by omega) (by omega) (by rw [e5, updS_row, hS4, hlf, if_pos rfl, if_pos rfl, sCat, if_pos ⟨fun q => nI_nn (by omega) (by decide +kernel) (hTf.symm.trans q), by rw [hTf, tn_nI (by omega), hk3.2.2.2.2.1 i 1 (by omega) (by decide)]; omega⟩]) (fun j hj => by rw [e5, updS_nk (by decide)]; exact hT4 j hj) (by rw [e5]; exact hO4.upd (Or.inl rfl))
                exact hl3 (tn (S 0) + 1) 0 σ3 (Nat.zero_le _) (by omega) (by rw [hS3]; cases lt <;> rfl) hT3 hO3
              · obtain ⟨lt, hlt⟩ : ∃ b : Bool, b = true := ⟨_, rfl⟩
                have e4 : sNoon S ab = upd (if lt then sCat (upd (sGos S ab (tn (S 0))).1 6 (zn ((sGos S ab (tn (S 0))).1 6))) (sNoonT S ab) (tn (S 0)) else (upd (sGos S ab (tn (S 0))).1 6 (zn ((sGos S ab (tn (S 0))).1 6)))) 2 ((if lt then sCat (upd (sGos S ab (tn (S 0))).1 6 (zn ((sGos S ab (tn (S 0))).1 6))) (sNoonT S ab) (tn (S 0)) else (upd (sGos S ab (tn (S 0))).1 6 (zn ((sGos S ab (tn (S 0))).1 6)))) 2 + nI 1) := by
                  unfold sNoon; simp only; rw [if_pos (by rw [pk_us]; exact Int32.not_le.mp c88), hlt]; rfl
                refine x_iconst (v := nI 1) G d_M_goesOn_91 rfl ?_
                rw [show nI 1 = bI lt by rw [hlt]; rfl]
                refine x_goto G d_M_goesOn_92 ?_
                refine x_istore1 G d_M_goesOn_96 rfl hk ?_
                refine x_iconst (v := nI 0) G d_M_goesOn_97 rfl ?_
                refine x_istore2 G d_M_goesOn_98 rfl hk ?_
                have hl3 : ∀ (m i : Nat) (σ4 : Sg), i ≤ tn (S 0) → tn (S 0) < i + m → σ4 114 = (if lt then sCat (upd (sGos S ab (tn (S 0))).1 6 (zn ((sGos S ab (tn (S 0))).1 6))) (sNoonT S ab) i else (upd (sGos S ab (tn (S 0))).1 6 (zn ((sGos S ab (tn (S 0))).1 6)))) → MT (sNoonT S ab) σ4 → OutM σ σ4 → X κ NC 99 [some (.ref 113), some (.int (bI lt)), some (.int (nI i))] [] (hv σ4) := by
                  intro m
                  induction m with
                  | zero => intro i σ4 h1 h2; omega
                  | succ m ih3 =>
                    intro i σ4 hi5 hi6 hS4 hT4 hO4
                    have hk4 : Keep S (if lt then sCat (upd (sGos S ab (tn (S 0))).1 6 (zn ((sGos S ab (tn (S 0))).1 6))) (sNoonT S ab) i else (upd (sGos S ab (tn (S 0))).1 6 (zn ((sGos S ab (tn (S 0))).1 6)))) := by
                      by_cases q : lt = true
                      · rw [if_pos q]; exact hk3.trans (sCat_keep i (by omega))
                      · rw [if_neg q]; exact hk3
                    have h04 : σ4 114 0 = nI (tn (S 0)) := by rw [hS4, hk4.1]; exact hn8.1
                    refine x_iload2 G d_M_goesOn_99 ?_
                    refine x_aload0 G d_M_goesOn_100 ?_
                    refine m_getr G d_M_goesOn_101 fl_M_7 rfl (by decide) rfl ?_
                    refine x_iconst (v := nI 0) G d_M_goesOn_104 rfl ?_
                    refine m_iald 0 G d_M_goesOn_105 rfl rfl ⟨by omega, by first | decide | omega⟩ ?_
                    rw [h04]
                    refine x_icmp_ge G d_M_goesOn_106 (fun c106 => ?_) (fun c106 => ?_)
                    · have hin : i = tn (S 0) := by rw [nle (by omega) (by omega)] at c106; omega
                      refine x_aload0 G d_M_goesOn_161 ?_
                      refine m_getr G d_M_goesOn_162 fl_M_7 rfl (by decide) rfl ?_
                      refine x_iconst (v := nI 2) G d_M_goesOn_165 rfl ?_
                      refine x_dup2 G d_M_goesOn_166 rfl rfl ?_
                      refine m_iald 2 G d_M_goesOn_167 rfl rfl ⟨by omega, by first | decide | omega⟩ ?_
                      rw [hS4]
                      refine x_iconst (v := nI 1) G d_M_goesOn_168 rfl ?_
                      refine x_iadd G d_M_goesOn_169 ?_
                      refine m_iast_n 2 G d_M_goesOn_170 rfl rfl ⟨by omega, by first | decide | omega⟩ (fun σ6 e6 => ?_)
                      exact m_vret E G d_M_goesOn_171 hx rfl ⟨rfl, (by rw [e4, e6, updS_row, hS4, hin]), (fun j hj => by rw [e6, updS_nk (by decide)]; exact hT4 j hj), (by rw [e6]; exact hO4.upd (Or.inl rfl))⟩
                    · have hin : i < tn (S 0) := by rw [nle (by omega) (by omega)] at c106; omega
                      refine x_iload1 G d_M_goesOn_109 ?_
                      refine x_if_eq G d_M_goesOn_110 (fun c110 => ?_) (fun c110 => ?_)
                      · have hlf := bI_0.mp c110
                        refine x_iinc2 (v := nI (i + 1)) G d_M_goesOn_155 rfl hk (nI_1 _) ?_
                        refine x_goto G d_M_goesOn_158 ?_
                        exact ih3 (i + 1) σ4 (by omega) (by omega) (by rw [hS4, hlf]; rfl) hT4 hO4
                      · have hlf := bI_n0.mp c110
                        refine x_aload0 G d_M_goesOn_113 ?_
                        refine m_getr G d_M_goesOn_114 fl_M_43 rfl (by decide) rfl ?_
                        refine x_iload2 G d_M_goesOn_117 ?_
                        refine m_iald i G d_M_goesOn_118 rfl rfl ⟨by omega, by first | decide | omega⟩ ?_
                        rw [hT4 i (by omega)]
                        refine x_if_lt G d_M_goesOn_119 (fun c119 => ?_) (fun c119 => ?_)
                        · have hm1 : sNoonT S ab i = -1 := (hTO i (by omega)).resolve_right (fun ⟨f, q1, q2⟩ => nI_pos (n := f) (by omega) (by have q3 := c119; rw [show sNoonT S ab i = nI f from q2] at q3; exact q3))
                          refine x_iinc2 (v := nI (i + 1)) G d_M_goesOn_155 rfl hk (nI_1 _) ?_
                          refine x_goto G d_M_goesOn_158 ?_
                          exact ih3 (i + 1) σ4 (by omega) (by omega) (by rw [hS4, hlf, if_pos rfl, if_pos rfl, sCat, if_neg (fun q => q.1 hm1)]) hT4 hO4
                        · obtain ⟨f, hf, hTf⟩ : ∃ f, f < 9 ∧ sNoonT S ab i = nI f := (hTO i (by omega)).resolve_left (fun q => c119 (by rw [show sNoonT S ab i = -1 from q]; decide))
                          refine x_aload0 G d_M_goesOn_122 ?_
                          refine x_iload2 G d_M_goesOn_123 ?_
                          refine x_iconst (v := nI 1) G d_M_goesOn_124 rfl ?_
                          refine m_callV_pi (p_M_of (kg κ) (d - 1) (by omega) _ i 1 (by omega) (by decide)) G d_M_goesOn_125 lk_M_107 rfl ⟨by decide, rfl⟩ (by decide) (by omega) rfl (Nat.le_of_ble_eq_true rfl) hx ?_
                          have hhm := hI.home (show i < 8 by omega)
                          rw [show σ4 114 (ixP i 1) = nI (tn (S (ixP i 1))) by rw [hS4, hk4.2.2.2.2.1 i 1 (by omega) (by decide)]; exact hhm.1]
                          refine x_aload0 G d_M_goesOn_128 ?_
                          refine m_getr G d_M_goesOn_129 fl_M_43 rfl (by decide) rfl ?_
                          refine x_iload2 G d_M_goesOn_132 ?_
                          refine m_iald i G d_M_goesOn_133 rfl rfl ⟨by omega, by first | decide | omega⟩ ?_
                          rw [hT4 i (by omega), hTf]
                          refine m_callS_pi (p_M_farOf (kg κ) (d - 1) (by omega) _ (tn (S (ixP i 1))) f (by omega) hf) G d_M_goesOn_134 lk_M_110 (by omega) rfl (Nat.le_of_ble_eq_true rfl) hx ?_
                          refine x_iconst (v := nI 1) G d_M_goesOn_137 rfl ?_
                          refine x_icmp_gt G d_M_goesOn_138 (fun c138 => ?_) (fun c138 => ?_)
                          · have hfl := far_le (tn (S (ixP i 1))) (by omega) f hf
                            rw [nlt (by omega) (by omega)] at c138
                            refine x_iinc2 (v := nI (i + 1)) G d_M_goesOn_155 rfl hk (nI_1 _) ?_
                            refine x_goto G d_M_goesOn_158 ?_
                            exact ih3 (i + 1) σ4 (by omega) (by omega) (by rw [hS4, hlf, if_pos rfl, if_pos rfl, sCat, if_neg (fun q => by
                          have q2 := q.2
                          rw [hTf, tn_nI (by omega), hk3.2.2.2.2.1 i 1 (by omega) (by decide)] at q2
                          omega)]) hT4 hO4
                          · have hfl := far_le (tn (S (ixP i 1))) (by omega) f hf
                            rw [nlt (by omega) (by omega)] at c138
                            refine x_aload0 G d_M_goesOn_141 ?_
                            refine x_iload2 G d_M_goesOn_142 ?_
                            refine x_iconst (v := nI 5) G d_M_goesOn_143 rfl ?_
                            refine x_aload0 G d_M_goesOn_144 ?_
                            refine x_iload2 G d_M_goesOn_145 ?_
                            refine x_iconst (v := nI 5) G d_M_goesOn_146 rfl ?_
                            refine m_callV_pi (p_M_of (kg κ) (d - 1) (by omega) _ i 5 (by omega) (by decide)) G d_M_goesOn_147 lk_M_107 rfl ⟨by decide, rfl⟩ (by decide) (by omega) rfl (Nat.le_of_ble_eq_true rfl) hx ?_
                            rw [hS4]
                            refine x_iconst (v := nI 1) G d_M_goesOn_150 rfl ?_
                            refine x_iadd G d_M_goesOn_151 ?_
                            refine m_callV_pv (p_M_sets (kg κ) (d - 1) (by omega) _ i 5 (by omega) (by decide) _) G d_M_goesOn_152 lk_M_87 rfl ⟨by decide, rfl⟩ (by decide) (by omega) rfl (Nat.le_of_ble_eq_true rfl) hx (fun σ5 e5 => ?_)
                            refine x_iinc2 (v := nI (i + 1)) G d_M_goesOn_155 rfl hk (nI_1 _) ?_
                            refine x_goto G d_M_goesOn_158 ?_
                            exact ih3 (i + 1) σ5 (by omega) (by omega) (by rw [e5, updS_row, hS4, hlf, if_pos rfl, if_pos rfl, sCat, if_pos ⟨fun q => nI_nn (by omega) (by decide +kernel) (hTf.symm.trans q), by rw [hTf, tn_nI (by omega), hk3.2.2.2.2.1 i 1 (by omega) (by decide)]; omega⟩]) (fun j hj => by rw [e5, updS_nk (by decide)]; exact hT4 j hj) (by rw [e5]; exact hO4.upd (Or.inl rfl))
                exact hl3 (tn (S 0) + 1) 0 σ3 (Nat.zero_le _) (by omega) (by rw [hS3]; cases lt <;> rfl) hT3 hO3
            · have hin : i < tn (S 0) := by rw [nle (by omega) (by omega)] at c30; omega
              refine x_aload0 G d_M_goesOn_33 ?_
              refine m_getr G d_M_goesOn_34 fl_M_7 rfl (by decide) rfl ?_
              refine x_iconst (v := nI 2) G d_M_goesOn_37 rfl ?_
              refine m_iald 2 G d_M_goesOn_38 rfl rfl ⟨by omega, by first | decide | omega⟩ ?_
              have ht2 := hI.2.2.1
              rw [show σ2 114 2 = nI (tn (S 2)) by rw [hS2, hkk.1.2.2.1]; exact ht2.1]
              refine x_aload0 G d_M_goesOn_39 ?_
              refine m_getr G d_M_goesOn_40 fl_M_7 rfl (by decide) rfl ?_
              refine x_iconst (v := nI 0) G d_M_goesOn_43 rfl ?_
              refine m_iald 0 G d_M_goesOn_44 rfl rfl ⟨by omega, by first | decide | omega⟩ ?_
              rw [h0]
              refine x_irem G d_M_goesOn_45 (nI_ne0 (by omega) (by omega)) ?_
              rw [pk_rem (by have := ht2.2; omega) (by omega) (by omega)]
              refine x_iload1 G d_M_goesOn_46 ?_
              refine x_iadd G d_M_goesOn_47 ?_
              rw [nI_add]
              refine x_aload0 G d_M_goesOn_48 ?_
              refine m_getr G d_M_goesOn_49 fl_M_7 rfl (by decide) rfl ?_
              refine x_iconst (v := nI 0) G d_M_goesOn_52 rfl ?_
              refine m_iald 0 G d_M_goesOn_53 rfl rfl ⟨by omega, by first | decide | omega⟩ ?_
              rw [h0]
              refine x_irem G d_M_goesOn_54 (nI_ne0 (by omega) (by omega)) ?_
              rw [pk_rem (by have := Nat.mod_lt (tn (S 2)) (show 0 < tn (S 0) by omega); omega) (by omega) (by omega), Nat.mod_add_mod]
              have hp8 : (tn (S 2) + i) % tn (S 0) < 8 := Nat.lt_of_lt_of_le (Nat.mod_lt _ (by omega)) hn8.2
              refine x_istore2 G d_M_goesOn_55 rfl hk ?_
              refine x_iload2 G d_M_goesOn_56 ?_
              refine x_aload0 G d_M_goesOn_57 ?_
              refine m_geti G d_M_goesOn_58 fl_M_46 rfl (by decide) rfl ?_
              rw [show σ2 113 13 = ab by rw [hO2 113 (by decide) (by decide) (by decide) (by decide)]; exact hab]
              refine x_icmp_eq G d_M_goesOn_61 (fun c61 => ?_) (fun c61 => ?_)
              · refine x_iinc1 (v := nI (i + 1)) G d_M_goesOn_69 rfl hk (nI_1 _) ?_
                refine x_goto G d_M_goesOn_72 ?_
                exact ih2 (i + 1) σ2 _ (by omega) (by omega) (by rw [sGos]; rw [if_pos c61]; exact hS2) (by rw [sGos]; rw [if_pos c61]; exact hT2) hO2
              · refine x_aload0 G d_M_goesOn_64 ?_
                refine x_iload2 G d_M_goesOn_65 ?_
                refine m_callV_pv (p_M_goes (kg κ) (d - 1) (by omega) σ2 _ hS2 (hkk.1.inv hI) _ hT2 _ hp8 (sGos_T i (fun j hj => mod_dis hj hin))) G d_M_goesOn_66 lk_M_169 rfl ⟨by decide, rfl⟩ (by decide) (by omega) rfl (Nat.le_of_ble_eq_true rfl) hx (fun σ3 ⟨h3a, h3b, h3c⟩ => ?_)
                refine x_iinc1 (v := nI (i + 1)) G d_M_goesOn_69 rfl hk (nI_1 _) ?_
                refine x_goto G d_M_goesOn_72 ?_
                exact ih2 (i + 1) σ3 _ (by omega) (by omega) (by rw [sGos]; rw [if_neg c61]; exact h3a) (by rw [sGos]; rw [if_neg c61]; exact h3b) (hO2.trans h3c)
        exact hl2 (tn (S 0) + 1) 0 σ1 _ (Nat.zero_le _) (by omega) (by rw [hF 114 (by decide)]; exact hS) (fun j hj => hJ j (by omega)) (fun k _ h2 _ _ => hF k h2)
      · have hin : i < 8 := by rw [nle (by omega) (by omega)] at c5; omega
        refine x_aload0 G d_M_goesOn_8 ?_
        refine m_getr G d_M_goesOn_9 fl_M_43 rfl (by decide) rfl ?_
        refine x_iload1 G d_M_goesOn_12 ?_
        refine x_iconst (v := (-1)) G d_M_goesOn_13 rfl ?_
        refine m_iast i G d_M_goesOn_14 rfl rfl ⟨by omega, by first | decide | omega⟩ ?_
        refine x_iinc1 (v := nI (i + 1)) G d_M_goesOn_15 rfl hk (nI_1 _) ?_
        refine x_goto G d_M_goesOn_18 ?_
        exact ih1 (i + 1) _ _ (by omega) (by omega) (fun j hj => by
          rw [updS_row]
          unfold upd
          by_cases q : j = i
          · rw [if_pos q]
          · rw [if_neg q]; exact hJ j (by omega)) (fun k hk => by rw [updS_nk hk]; exact hF k hk)
  exact hl1 9 0 σ none (Nat.zero_le _) (by omega) (fun j hj => absurd hj (Nat.not_lt_zero _)) (fun _ _ => rfl)
theorem p_M_goesOnMany (g : CX) (d : Nat) (hd : 6 ≤ d) (σ : Sg) (S : Rw) (hS : σ 114 = S) (hI : Inv S) (ab : Int32) (hab : σ 113 13 = ab) (n : Nat) (hn9 : tn (S 2) + n ≤ 11000) : RunM g d M_goesOnMany [.ref 113, .int (nI n)] σ (PV (fun σ1 => σ1 114 = passN S ab n ∧ OutM σ σ1 ∧ (0 < n → MT (sNoonT (passN S ab (n - 1)) ab) σ1))) := by
  refine RunM.of 1 (by decide +kernel) rfl ?_
  intro κ hg hx hk0 G E
  subst hg
  have hk : 3 ≤ kn κ := Nat.le_of_eq hk0.symm
  show X κ NC 0 [some (.ref 113), some (.int (nI n)), none] [] (hv σ)
  refine x_iconst (v := nI 0) G d_M_goesOnMany_0 rfl ?_
  refine x_istore2 G d_M_goesOnMany_1 rfl hk ?_
  have hloop : ∀ (m j : Nat) (σ1 : Sg), j ≤ n → n < j + m → σ1 114 = passN S ab j → OutM σ σ1 → (0 < j → MT (sNoonT (passN S ab (j - 1)) ab) σ1) → X κ NC 2 [some (.ref 113), some (.int (nI n)), some (.int (nI j))] [] (hv σ1) := by
    intro m
    induction m with
    | zero => intro j σ1 h1 h2; omega
    | succ m ih =>
      intro j σ1 hj1 hj2 hS1 hO1 hT1
      obtain ⟨hI1, -⟩ := passN_keep hI ab j (by omega)
      refine x_iload2 G d_M_goesOnMany_2 ?_
      refine x_iload1 G d_M_goesOnMany_3 ?_
      refine x_icmp_ge G d_M_goesOnMany_4 (fun c4 => ?_) (fun c4 => ?_)
      · have hin : j = n := by rw [nle (by omega) (by omega)] at c4; omega
        exact m_vret E G d_M_goesOnMany_17 hx rfl ⟨rfl, (by rw [← hin]; exact hS1), hO1, (by rw [← hin]; exact hT1)⟩
      · have hin : j < n := by rw [nle (by omega) (by omega)] at c4; omega
        refine x_aload0 G d_M_goesOnMany_7 ?_
        refine m_callV_pv (p_M_goesOn (kg κ) (d - 1) (by omega) σ1 _ hS1 hI1 ab (by rw [hO1 113 (by decide) (by decide) (by decide) (by decide)]; exact hab)) G d_M_goesOnMany_8 lk_M_173 rfl ⟨by decide, rfl⟩ (by decide) (by omega) rfl (Nat.le_of_ble_eq_true rfl) hx (fun σ2 ⟨h2a, h2b, h2c⟩ => ?_)
        refine x_iinc2 (v := nI (j + 1)) G d_M_goesOnMany_11 rfl hk (nI_1 _) ?_
        refine x_goto G d_M_goesOnMany_14 ?_
        exact ih (j + 1) σ2 (by omega) (by omega) h2a (hO1.trans h2c) (fun _ => by rw [Nat.add_sub_cancel]; exact h2b)
  exact hloop (n + 1) 0 σ (Nat.zero_le _) (by omega) hS OutM.refl (fun h => absurd h (Nat.lt_irrefl _))
