/-! World's setOut and pass -/
def passN (S : Rw) (ab : Int32) : Nat → Rw
  | 0 => S
  | n + 1 => sNoon (passN S ab n) ab
theorem gst_no {S : Rw} {T : Nat → Int32} {p f : Nat} {r : Int32 × Int32} (hg : gst S T p f = r) (h : (sMay S p f && sFree S T p f && (decide (r.1 = -1) || decide (sWalk S p f < r.2))) = false) : gst S T p (f + 1) = r := by
  rw [gst, hg, if_neg (by rw [h]; decide)]
theorem gst_yes {S : Rw} {T : Nat → Int32} {p f : Nat} {r : Int32 × Int32} (hg : gst S T p f = r) (h : (sMay S p f && sFree S T p f && (decide (r.1 = -1) || decide (sWalk S p f < r.2))) = true) : gst S T p (f + 1) = (nI f, sWalk S p f) := by
  rw [gst, hg, if_pos h]
theorem sNoon_keep {S : Rw} (hI : Inv S) (ab : Int32) (hn : tn (S 2) < 11000) : Inv (sNoon S ab) ∧ (sNoon S ab) 0 = S 0 ∧ (sNoon S ab) 1 = S 1 ∧ (sNoon S ab) 2 = nI (tn (S 2) + 1) ∧ AgT S (sNoon S ab) ∧ (∀ p k, p < 8 → k < 3 → sNoon S ab (ixP p k) = S (ixP p k)) := by
  obtain ⟨h1, h2⟩ := sGosN_keep hI ab
  have h3 : Keep S (upd (sGos S ab (tn (S 0))).1 6 (zn ((sGos S ab (tn (S 0))).1 6))) := h1.put (Or.inl (by omega))
  have h4 : Keep S (if irm (dval ((upd (sGos S ab (tn (S 0))).1 6 (zn ((sGos S ab (tn (S 0))).1 6))) 6)) (nI 100) < S 5 then sCat (upd (sGos S ab (tn (S 0))).1 6 (zn ((sGos S ab (tn (S 0))).1 6))) (sNoonT S ab) (tn (S 0)) else (upd (sGos S ab (tn (S 0))).1 6 (zn ((sGos S ab (tn (S 0))).1 6)))) := by
    split
    · exact h3.trans (sCat_keep _ hI.n.2)
    · exact h3
  have e : ∃ S2, Keep S S2 ∧ sNoon S ab = upd S2 2 (S2 2 + nI 1) := ⟨_, h4, rfl⟩
  obtain ⟨S2, hk, he⟩ := e
  have hI2 := hk.inv hI
  have e2 : S2 2 + nI 1 = nI (tn (S 2) + 1) := by rw [hk.2.2.1, hI.2.2.1.1, nI_add, tn_nI (by omega)]
  rw [he, e2]
  refine ⟨?_, (pk_un (by decide)).trans hk.1, (pk_un (by decide)).trans hk.2.1, pk_us, hk.2.2.2.2.2.2.2.upd (by decide) (by decide), fun p k hp hk3 => (pk_un (by unfold ixP; omega)).trans (hk.2.2.2.2.1 p k hp hk3)⟩
  obtain ⟨b0, b1, b2, b3, b4, b5, b6⟩ := hI2
  have hA : AgT S2 (upd S2 2 (nI (tn (S 2) + 1))) := AgT.refl.upd (by decide) (by decide)
  refine ⟨by rw [pk_un (by decide)]; exact b0, by rw [pk_un (by decide)]; exact b1, by rw [pk_us]; exact In.mk' (by omega) (by decide), by rw [pk_un (by decide)]; exact b3, fun f hf => ?_, fun p hp => ?_, fun t ht => ?_⟩
  · rw [pk_un (by unfold ixF; omega), pk_un (by unfold ixF; omega), pk_un (by unfold ixF; omega)]
    exact b4 f hf
  · rw [pk_un (by unfold ixP; omega), pk_un (by unfold ixP; omega), pk_un (by unfold ixP; omega)]
    exact b5 p hp
  · rw [pk_un (by decide)] at ht
    exact TV_agT hA (b6 t ht)
theorem passN_keep {S : Rw} (hI : Inv S) (ab : Int32) : ∀ n, tn (S 2) + n ≤ 11000 → Inv (passN S ab n) ∧ (passN S ab n) 0 = S 0 ∧ (passN S ab n) 1 = S 1 ∧ (passN S ab n) 2 = nI (tn (S 2) + n) ∧ AgT S (passN S ab n) ∧ (∀ p k, p < 8 → k < 3 → passN S ab n (ixP p k) = S (ixP p k))
  | 0, _ => ⟨hI, rfl, rfl, hI.2.2.1.1, AgT.refl, fun _ _ _ _ => rfl⟩
  | n + 1, hn => by
    obtain ⟨h1, h2, h3, h4, h5, h6⟩ := passN_keep hI ab n (by omega)
    have e : tn (passN S ab n 2) = tn (S 2) + n := by rw [h4, tn_nI (by omega)]
    obtain ⟨g1, g2, g3, g4, g5, g6⟩ := sNoon_keep h1 ab (by omega)
    exact ⟨g1, g2.trans h2, g3.trans h3, by rw [passN, g4, e]; rfl, h5.trans g5, fun p k hp hk => (g6 p k hp hk).trans (h6 p k hp hk)⟩
theorem lrel_of {S S' : Rw} {σ σ' : Sg} {w : Nat} (hw : isW w) (hI : Inv S) (hL : LRel S σ) (hA : AgT S S') (hO : OutW w σ σ') : LRel S' σ' :=
  LRel_agT hA (fun k h1 h2 => hO k (by rcases hw with rfl | rfl | rfl <;> omega) (by omega)) hL hI.2.1.2
theorem p_Wo_setOut (g : CX) (d : Nat) (hd : 4 ≤ d) (σ : Sg) (w : Nat) (hw : isW w) (S : Rw) (hR : WRel w S σ) (hI : Inv S) (hL : LRel S σ) (T : Nat → Int32) (hT : StT w T σ) (p : Nat) (hp : p < 8) : RunM g d Wo_setOut [.ref w, .int (nI p)] σ (PV (fun σ1 => WRel w (sGo S T p).1 σ1 ∧ StT w (sGo S T p).2 σ1 ∧ OutW w σ σ1)) := by
  refine RunM.of 4 (by decide +kernel) rfl ?_
  intro κ hg hx hk0 G E
  subst hg
  have hk : 6 ≤ kn κ := Nat.le_of_eq hk0.symm
  show X κ NC 0 [some (.ref w), some (.int (nI p)), none, none, none, none] [] (hv σ)
  refine x_iconst (v := (-1)) G d_Wo_setOut_0 rfl ?_
  refine x_istore2 G d_Wo_setOut_1 rfl hk ?_
  refine x_iconst (v := nI 0) G d_Wo_setOut_2 rfl ?_
  refine x_istore3 G d_Wo_setOut_3 rfl hk ?_
  refine x_iconst (v := nI 0) G d_Wo_setOut_4 rfl ?_
  refine x_istore4 G d_Wo_setOut_5 rfl hk ?_
  have hloop : ∀ (m f : Nat) (to le : Int32) (σ1 : Sg) (o5 : Option Value), f ≤ 9 → 9 < f + m → gst S T p f = (to, le) → (∀ k, k ≠ 27 → σ1 k = σ k) → X κ NC 7 [some (.ref w), some (.int (nI p)), some (.int to), some (.int le), some (.int (nI f)), o5] [] (hv σ1) := by
    intro m
    induction m with
    | zero => intro f to le σ1 o5 h1 h2; omega
    | succ m ih =>
      intro f to le σ1 o5 hf1 hf2 hg hF
      have hw27 : 27 < w := by rcases hw with rfl | rfl | rfl <;> decide
      have hR1 : WRel w S σ1 := hR.frame (fun k h1 h2 h3 => hF k (by omega))
      have hT1 : StT w T σ1 := hT.ne (hF _ (by omega))
      have hO1 : OutW w σ σ1 := fun k _ h => hF k h
      have hL1 : LRel S σ1 := lrel_of hw hI hL AgT.refl hO1
      refine x_iload4 G d_Wo_setOut_7 ?_
      refine x_bipush (v := nI 9) G d_Wo_setOut_9 rfl ?_
      refine x_icmp_ge G d_Wo_setOut_11 (fun c11 => ?_) (fun c11 => ?_)
      · have hf9 : f = 9 := by rw [nle (by omega) (by omega)] at c11; omega
        refine x_iload2 G d_Wo_setOut_66 ?_
        refine x_iconst (v := (-1)) G d_Wo_setOut_67 rfl ?_
        refine x_icmp_ne G d_Wo_setOut_68 (fun c68 => ?_) (fun c68 => ?_)
        · refine x_aload0 G d_Wo_setOut_84 ?_
          refine x_dup G d_Wo_setOut_85 rfl ?_
          refine m_geti G d_Wo_setOut_86 fl_Wo_39 (W_o hw) (W_l hw) (W_ij hw 10 (by decide) (by decide)) ?_
          rw [show σ1 w 10 = S 3 from hR1.steps]
          refine x_iload3 G d_Wo_setOut_89 ?_
          refine x_iadd G d_Wo_setOut_90 ?_
          refine m_puti_n G d_Wo_setOut_91 fl_Wo_39 (W_o hw) (W_l hw) (W_ij hw 10 (by decide) (by decide)) rfl rfl (fun σ2 e2 => ?_)
          have hS2 : WRel w (upd S 3 (S 3 + le)) σ2 := by rw [e2]; exact hR1.sets (by unfold scal; omega) _
          have hI2 : Inv (upd S 3 (S 3 + le)) := (Keep.refl.put (Or.inl (by omega))).inv hI
          subst hf9
          obtain ⟨f0, hf0, hto⟩ := (gst_range (S := S) (T := T) (p := p) 9 (Nat.le_refl _)).resolve_left (by rw [hg]; exact c68)
          rw [hg] at hto
          have hto : to = nI f0 := hto
          subst hto
          refine x_aload0 G d_Wo_setOut_94 ?_
          refine x_iload1 G d_Wo_setOut_95 ?_
          refine x_iload2 G d_Wo_setOut_96 ?_
          refine m_callV_pv (p_Wo_arrive (kg κ) (d - 1) (by omega) σ2 w hw (upd S 3 (S 3 + le)) hS2 hI2 T (hT1.ne (by rw [e2]; exact updS_nk (by omega))) p f0 hp hf0) G d_Wo_setOut_97 lk_Wo_137 (W_o hw) ⟨by decide, rfl⟩ (W_l hw) (by omega) rfl (Nat.le_of_ble_eq_true rfl) hx (fun σ3 ⟨h3a, h3b, h3c⟩ => ?_)
          exact m_vret E G d_Wo_setOut_100 hx rfl (by
        subst hf9
        have e : sGo S T p = (upd S 4 (S 4 + nI 1), T) := by unfold sGo; rw [hg, if_pos c68]
        rw [e]
        exact ⟨rfl, (by rw [e2]; exact hR1.sets (by unfold scal; omega) _), hT1.ne (by rw [e2]; exact updS_nk (by omega)), (by rw [e2]; exact hO1.upd (by omega))⟩)
        · refine x_aload0 G d_Wo_setOut_71 ?_
          refine x_dup G d_Wo_setOut_72 rfl ?_
          refine m_geti G d_Wo_setOut_73 fl_Wo_42 (W_o hw) (W_l hw) (W_ij hw 11 (by decide) (by decide)) ?_
          rw [show σ1 w 11 = S 4 from hR1.left]
          refine x_iconst (v := nI 1) G d_Wo_setOut_76 rfl ?_
          refine x_iadd G d_Wo_setOut_77 ?_
          refine m_puti_n G d_Wo_setOut_78 fl_Wo_42 (W_o hw) (W_l hw) (W_ij hw 11 (by decide) (by decide)) rfl rfl (fun σ2 e2 => ?_)
          refine x_goto G d_Wo_setOut_81 ?_
          exact m_vret E G d_Wo_setOut_100 hx rfl (by
        have e : sGo S T p = (sArr (upd S 3 (S 3 + le)) p f0, upd T p (nI f0)) := by unfold sGo; rw [hg, if_neg c68]; simp only [tn_nI (show f0 < 2 ^ 31 by omega)]
        rw [e]
        exact ⟨rfl, h3a, h3b, (show OutW w σ σ2 by rw [e2]; exact hO1.upd (by omega)).trans h3c⟩)
      · have hf9 : f < 9 := by rw [nle (by omega) (by omega)] at c11; omega
        refine x_aload0 G d_Wo_setOut_14 ?_
        refine x_iload1 G d_Wo_setOut_15 ?_
        refine x_iload4 G d_Wo_setOut_16 ?_
        refine m_callV_pi (p_Wo_mayStand (kg κ) (d - 1) (by omega) σ1 w hw S hR1 hI p f hp hf9) G d_Wo_setOut_18 lk_Wo_128 (W_o hw) ⟨by decide, rfl⟩ (W_l hw) (by omega) rfl (Nat.le_of_ble_eq_true rfl) hx ?_
        refine x_if_eq G d_Wo_setOut_21 (fun c21 => ?_) (fun c21 => ?_)
        · have hq := bI_0.mp c21
          refine x_iinc4 (v := nI (f + 1)) G d_Wo_setOut_60 rfl hk (nI_1 _) ?_
          refine x_goto G d_Wo_setOut_63 ?_
          exact ih (f + 1) to le _ _ (by omega) (by omega) (gst_no hg (by simp [hq])) hF
        · have hm := bI_n0.mp c21
          refine x_aload0 G d_Wo_setOut_24 ?_
          refine x_iload1 G d_Wo_setOut_25 ?_
          refine x_iload4 G d_Wo_setOut_26 ?_
          refine m_callV_pi (p_Wo_hasRoom (kg κ) (d - 1) (by omega) σ1 w hw S hR1 hI T hT1 p f hp hf9) G d_Wo_setOut_28 lk_Wo_131 (W_o hw) ⟨by decide, rfl⟩ (W_l hw) (by omega) rfl (Nat.le_of_ble_eq_true rfl) hx ?_
          refine x_if_eq G d_Wo_setOut_31 (fun c31 => ?_) (fun c31 => ?_)
          · have hq := bI_0.mp c31
            refine x_iinc4 (v := nI (f + 1)) G d_Wo_setOut_60 rfl hk (nI_1 _) ?_
            refine x_goto G d_Wo_setOut_63 ?_
            exact ih (f + 1) to le _ _ (by omega) (by omega) (gst_no hg (by simp [hm, hq])) hF
          · have hr := bI_n0.mp c31
            refine x_aload0 G d_Wo_setOut_34 ?_
            refine x_iload1 G d_Wo_setOut_35 ?_
            refine x_iload4 G d_Wo_setOut_36 ?_
            refine m_callV_pr (p_Wo_walkOf (kg κ) (d - 1) (by omega) σ1 w hw S hR1 hI hL1 p f hp hf9) G d_Wo_setOut_38 lk_Wo_134 (W_o hw) ⟨by decide, rfl⟩ (W_l hw) (by omega) rfl (Nat.le_of_ble_eq_true rfl) hx (fun v2 σ2 ⟨hv2, hF2⟩ => ?_)
            subst hv2
            have hF3 : ∀ k, k ≠ 27 → σ2 k = σ k := fun k hk => (hF2 k hk).trans (hF k hk)
            refine x_istore5 G d_Wo_setOut_41 rfl hk ?_
            refine x_iload2 G d_Wo_setOut_43 ?_
            refine x_iconst (v := (-1)) G d_Wo_setOut_44 rfl ?_
            refine x_icmp_eq G d_Wo_setOut_45 (fun c45 => ?_) (fun c45 => ?_)
            · refine x_iload4 G d_Wo_setOut_54 ?_
              refine x_istore2 G d_Wo_setOut_56 rfl hk ?_
              refine x_iload5 G d_Wo_setOut_57 ?_
              refine x_istore3 G d_Wo_setOut_59 rfl hk ?_
              refine x_iinc4 (v := nI (f + 1)) G d_Wo_setOut_60 rfl hk (nI_1 _) ?_
              refine x_goto G d_Wo_setOut_63 ?_
              exact ih (f + 1) _ _ _ _ (by omega) (by omega) (gst_yes hg (by simp [hm, hr, c45])) hF3
            · refine x_iload5 G d_Wo_setOut_48 ?_
              refine x_iload3 G d_Wo_setOut_50 ?_
              refine x_icmp_ge G d_Wo_setOut_51 (fun c51 => ?_) (fun c51 => ?_)
              · refine x_iinc4 (v := nI (f + 1)) G d_Wo_setOut_60 rfl hk (nI_1 _) ?_
                refine x_goto G d_Wo_setOut_63 ?_
                exact ih (f + 1) to le _ _ (by omega) (by omega) (gst_no hg (by simp [hm, hr, c45, Int32.not_lt.mpr c51])) hF3
              · refine x_iload4 G d_Wo_setOut_54 ?_
                refine x_istore2 G d_Wo_setOut_56 rfl hk ?_
                refine x_iload5 G d_Wo_setOut_57 ?_
                refine x_istore3 G d_Wo_setOut_59 rfl hk ?_
                refine x_iinc4 (v := nI (f + 1)) G d_Wo_setOut_60 rfl hk (nI_1 _) ?_
                refine x_goto G d_Wo_setOut_63 ?_
                exact ih (f + 1) _ _ _ _ (by omega) (by omega) (gst_yes hg (by simp [hm, hr, Int32.not_le.mp c51])) hF3
  exact hloop 10 0 (-1) (nI 0) σ none (Nat.zero_le _) (by omega) rfl (fun _ _ => rfl)
theorem p_Wo_pass (g : CX) (d : Nat) (hd : 5 ≤ d) (σ : Sg) (w : Nat) (hw : isW w) (S : Rw) (hR : WRel w S σ) (hI : Inv S) (hL : LRel S σ) (n : Nat) (hn9 : tn (S 2) + n ≤ 11000) (ab : Int32) : RunM g d Wo_pass [.ref w, .int (nI n), .int ab] σ (PV (fun σ1 => WRel w (passN S ab n) σ1 ∧ OutW w σ σ1 ∧ (0 < n → StT w (sNoonT (passN S ab (n - 1)) ab) σ1))) := by
  refine RunM.of 3 (by decide +kernel) rfl ?_
  intro κ hg hx hk0 G E
  subst hg
  have hk : 6 ≤ kn κ := Nat.le_of_eq hk0.symm
  show X κ NC 0 [some (.ref w), some (.int (nI n)), some (.int ab), none, none, none] [] (hv σ)
  refine x_iconst (v := nI 0) G d_Wo_pass_0 rfl ?_
  refine x_istore3 G d_Wo_pass_1 rfl hk ?_
  have hloop : ∀ (m j : Nat) (σ1 : Sg) (o4 o5 : Option Value), j ≤ n → n < j + m → WRel w (passN S ab j) σ1 → OutW w σ σ1 → (0 < j → StT w (sNoonT (passN S ab (j - 1)) ab) σ1) → X κ NC 2 [some (.ref w), some (.int (nI n)), some (.int ab), some (.int (nI j)), o4, o5] [] (hv σ1) := by
    intro m
    induction m with
    | zero => intro j σ1 o4 o5 h1 h2; omega
    | succ m ih1 =>
      intro j σ1 o4 o5 hj1 hj2 hR1 hO1 hT1
      obtain ⟨hI1, k0, k1, k2, kA, -⟩ := passN_keep hI ab j (by omega)
      have hw27 : 27 < w := by rcases hw with rfl | rfl | rfl <;> decide
      have hn8 := hI1.n
      generalize hS1 : passN S ab j = S1 at *
      refine x_iload3 G d_Wo_pass_2 ?_
      refine x_iload1 G d_Wo_pass_3 ?_
      refine x_icmp_ge G d_Wo_pass_4 (fun c4 => ?_) (fun c4 => ?_)
      · have hjn : j = n := by rw [nle (by omega) (by omega)] at c4; omega
        exact m_vret E G d_Wo_pass_89 hx rfl ⟨rfl, (by rw [← hjn, hS1]; exact hR1), hO1, (by rw [← hjn]; exact hT1)⟩
      · have hjn : j < n := by rw [nle (by omega) (by omega)] at c4; omega
        refine x_aload0 G d_Wo_pass_7 ?_
        refine m_callV_pv (p_Wo_standNowhere (kg κ) (d - 1) (by omega) σ1 w hw) G d_Wo_pass_8 lk_Wo_114 (W_o hw) ⟨by decide, rfl⟩ (W_l hw) (by omega) rfl (Nat.le_of_ble_eq_true rfl) hx (fun σ2 ⟨h2a, h2b⟩ => ?_)
        refine x_iconst (v := nI 0) G d_Wo_pass_11 rfl ?_
        refine x_istore4 G d_Wo_pass_12 rfl hk ?_
        have hin : ∀ (m i : Nat) (σ2 : Sg) (o5 : Option Value), i ≤ tn (S1 0) → tn (S1 0) < i + m → WRel w (sGos S1 ab i).1 σ2 → StT w (sGos S1 ab i).2 σ2 → OutW w σ σ2 → X κ NC 14 [some (.ref w), some (.int (nI n)), some (.int ab), some (.int (nI j)), some (.int (nI i)), o5] [] (hv σ2) := by
          intro m
          induction m with
          | zero => intro i σ2 o5 h1 h2; omega
          | succ m ih2 =>
            intro i σ2 o5 hi1 hi2 hR2 hT2 hO2
            have hk : Keep S1 (sGos S1 ab i).1 ∧ TOk (sGos S1 ab i).2 := by
              rcases Nat.eq_zero_or_pos (tn (S1 0)) with q | q
              · rw [show i = 0 by omega]; exact ⟨Keep.refl, fun _ _ => Or.inl rfl⟩
              · exact sGos_keep hI1 ab q i
            refine x_iload4 G d_Wo_pass_14 ?_
            refine x_aload0 G d_Wo_pass_16 ?_
            refine m_geti G d_Wo_pass_17 fl_Wo_29 (W_o hw) (W_l hw) (W_ij hw 7 (by decide) (by decide)) ?_
            rw [show σ2 w 7 = nI (tn (S1 0)) by rw [hR2.n, hk.1.1]; exact hn8.1]
            refine x_icmp_ge G d_Wo_pass_20 (fun c20 => ?_) (fun c20 => ?_)
            · have hin0 : i = tn (S1 0) := by rw [nle (by omega) (by omega)] at c20; omega
              refine x_aload0 G d_Wo_pass_55 ?_
              refine m_callV_pi (p_Wo_draw (kg κ) (d - 1) (by omega) σ2 w hw) G d_Wo_pass_56 lk_Wo_121 (W_o hw) ⟨by decide, rfl⟩ (W_l hw) (by omega) rfl (Nat.le_of_ble_eq_true rfl) hx ?_
              obtain ⟨σ3, e3⟩ : ∃ z, z = updS σ2 w 12 (zn (σ2 w 12)) := ⟨_, rfl⟩
              rw [← e3, show σ2 w 12 = (sGos S1 ab i).1 6 from hR2.z]
              subst hin0
              have hR3 : WRel w (upd (sGos S1 ab (tn (S1 0))).1 6 (zn ((sGos S1 ab (tn (S1 0))).1 6))) σ3 := by rw [e3, ← hR2.z]; exact hR2.sets (by unfold scal; omega) _
              have hT3 : StT w (sNoonT S1 ab) σ3 := hT2.ne (by rw [e3]; exact updS_nk (by omega))
              have hO3 : OutW w σ σ3 := by rw [e3]; exact hO2.upd (by omega)
              have hk3 : Keep S1 (upd (sGos S1 ab (tn (S1 0))).1 6 (zn ((sGos S1 ab (tn (S1 0))).1 6))) := hk.1.put (Or.inl (by omega))
              refine x_bipush (v := nI 100) G d_Wo_pass_59 rfl ?_
              refine x_irem G d_Wo_pass_61 (by decide +kernel) ?_
              refine x_aload0 G d_Wo_pass_62 ?_
              refine m_geti G d_Wo_pass_63 fl_Wo_36 (W_o hw) (W_l hw) (W_ij hw 9 (by decide) (by decide)) ?_
              rw [show σ3 w 9 = S1 5 by rw [hR3.late, hk3.2.2.2.1]]
              refine x_icmp_ge G d_Wo_pass_66 (fun c66 => ?_) (fun c66 => ?_)
              · have e4 : sNoon S1 ab = upd (upd (sGos S1 ab (tn (S1 0))).1 6 (zn ((sGos S1 ab (tn (S1 0))).1 6))) 2 ((upd (sGos S1 ab (tn (S1 0))).1 6 (zn ((sGos S1 ab (tn (S1 0))).1 6))) 2 + nI 1) := by
                  unfold sNoon; simp only; rw [if_neg (by rw [pk_us]; exact Int32.not_lt.mpr c66)]
                refine x_aload0 G d_Wo_pass_73 ?_
                refine x_dup G d_Wo_pass_74 rfl ?_
                refine m_geti G d_Wo_pass_75 fl_Wo_33 (W_o hw) (W_l hw) (W_ij hw 8 (by decide) (by decide)) ?_
                rw [show σ3 w 8 = (upd (sGos S1 ab (tn (S1 0))).1 6 (zn ((sGos S1 ab (tn (S1 0))).1 6))) 2 from hR3.noon]
                refine x_iconst (v := nI 1) G d_Wo_pass_78 rfl ?_
                refine x_iadd G d_Wo_pass_79 ?_
                refine m_puti_n G d_Wo_pass_80 fl_Wo_33 (W_o hw) (W_l hw) (W_ij hw 8 (by decide) (by decide)) rfl rfl (fun σ5 e5 => ?_)
                refine x_iinc3 (v := nI (j + 1)) G d_Wo_pass_83 rfl hk (nI_1 _) ?_
                refine x_goto G d_Wo_pass_86 ?_
                exact ih1 (j + 1) σ5 _ _ (by omega) (by omega) (by rw [passN, hS1, e4, e5]; exact (hR3).sets (by unfold scal; omega) _) (by rw [e5]; exact (hO3).upd (by omega)) (fun _ => by rw [Nat.add_sub_cancel, hS1]; exact (hT3).ne (by rw [e5]; exact updS_nk (by omega)))
              · have e4 : sNoon S1 ab = upd (sCat (upd (sGos S1 ab (tn (S1 0))).1 6 (zn ((sGos S1 ab (tn (S1 0))).1 6))) (sNoonT S1 ab) (tn (S1 0))) 2 ((sCat (upd (sGos S1 ab (tn (S1 0))).1 6 (zn ((sGos S1 ab (tn (S1 0))).1 6))) (sNoonT S1 ab) (tn (S1 0))) 2 + nI 1) := by
                  unfold sNoon; simp only; rw [if_pos (by rw [pk_us]; exact Int32.not_le.mp c66)]
                refine x_aload0 G d_Wo_pass_69 ?_
                refine m_callV_pv (p_Wo_catchNearHome (kg κ) (d - 1) (by omega) σ3 w hw _ hR3 (hk3.inv hI1) _ hT3 hk.2) G d_Wo_pass_70 lk_Wo_125 (W_o hw) ⟨by decide, rfl⟩ (W_l hw) (by omega) rfl (Nat.le_of_ble_eq_true rfl) hx (fun σ4 ⟨h4a, h4b, h4c⟩ => ?_)
                rw [hk3.1] at h4a
                have h4c' : OutW w σ σ4 := hO3.trans h4c
                refine x_aload0 G d_Wo_pass_73 ?_
                refine x_dup G d_Wo_pass_74 rfl ?_
                refine m_geti G d_Wo_pass_75 fl_Wo_33 (W_o hw) (W_l hw) (W_ij hw 8 (by decide) (by decide)) ?_
                rw [show σ4 w 8 = (sCat (upd (sGos S1 ab (tn (S1 0))).1 6 (zn ((sGos S1 ab (tn (S1 0))).1 6))) (sNoonT S1 ab) (tn (S1 0))) 2 from h4a.noon]
                refine x_iconst (v := nI 1) G d_Wo_pass_78 rfl ?_
                refine x_iadd G d_Wo_pass_79 ?_
                refine m_puti_n G d_Wo_pass_80 fl_Wo_33 (W_o hw) (W_l hw) (W_ij hw 8 (by decide) (by decide)) rfl rfl (fun σ5 e5 => ?_)
                refine x_iinc3 (v := nI (j + 1)) G d_Wo_pass_83 rfl hk (nI_1 _) ?_
                refine x_goto G d_Wo_pass_86 ?_
                exact ih1 (j + 1) σ5 _ _ (by omega) (by omega) (by rw [passN, hS1, e4, e5]; exact (h4a).sets (by unfold scal; omega) _) (by rw [e5]; exact (h4c').upd (by omega)) (fun _ => by rw [Nat.add_sub_cancel, hS1]; exact (h4b).ne (by rw [e5]; exact updS_nk (by omega)))
            · have hin0 : i < tn (S1 0) := by rw [nle (by omega) (by omega)] at c20; omega
              have hp8 : (tn (S1 2) + i) % tn (S1 0) < 8 := Nat.lt_of_lt_of_le (Nat.mod_lt _ (by omega)) hn8.2
              have ht2 := hI1.2.2.1
              refine x_aload0 G d_Wo_pass_23 ?_
              refine m_geti G d_Wo_pass_24 fl_Wo_33 (W_o hw) (W_l hw) (W_ij hw 8 (by decide) (by decide)) ?_
              rw [show σ2 w 8 = nI (tn (S1 2)) by rw [hR2.noon, hk.1.2.2.1]; exact ht2.1]
              refine x_iload4 G d_Wo_pass_27 ?_
              refine x_iadd G d_Wo_pass_29 ?_
              refine x_aload0 G d_Wo_pass_30 ?_
              refine m_geti G d_Wo_pass_31 fl_Wo_29 (W_o hw) (W_l hw) (W_ij hw 7 (by decide) (by decide)) ?_
              rw [show σ2 w 7 = nI (tn (S1 0)) by rw [hR2.n, hk.1.1]; exact hn8.1]
              refine x_irem G d_Wo_pass_34 (nI_ne0 (by omega) (by omega)) ?_
              rw [nI_add, pk_rem (by have := ht2.2; omega) (by omega) (by omega)]
              refine x_istore5 G d_Wo_pass_35 rfl hk ?_
              refine x_iload5 G d_Wo_pass_37 ?_
              refine x_iload2 G d_Wo_pass_39 ?_
              refine x_icmp_eq G d_Wo_pass_40 (fun c40 => ?_) (fun c40 => ?_)
              · refine x_iinc4 (v := nI (i + 1)) G d_Wo_pass_49 rfl hk (nI_1 _) ?_
                refine x_goto G d_Wo_pass_52 ?_
                exact ih2 (i + 1) σ2 _ (by omega) (by omega) (by rw [sGos]; simp only; rw [if_pos c40]; exact hR2) (by rw [sGos]; simp only; rw [if_pos c40]; exact hT2) hO2
              · refine x_aload0 G d_Wo_pass_43 ?_
                refine x_iload5 G d_Wo_pass_44 ?_
                refine m_callV_pv (p_Wo_setOut (kg κ) (d - 1) (by omega) σ2 w hw _ hR2 (hk.1.inv hI1) (lrel_of hw hI hL (kA.trans hk.1.2.2.2.2.2.2.2) hO2) _ hT2 _ hp8) G d_Wo_pass_46 lk_Wo_117 (W_o hw) ⟨by decide, rfl⟩ (W_l hw) (by omega) rfl (Nat.le_of_ble_eq_true rfl) hx (fun σ3 ⟨h3a, h3b, h3c⟩ => ?_)
                refine x_iinc4 (v := nI (i + 1)) G d_Wo_pass_49 rfl hk (nI_1 _) ?_
                refine x_goto G d_Wo_pass_52 ?_
                exact ih2 (i + 1) σ3 _ (by omega) (by omega) (by rw [sGos]; simp only; rw [if_neg c40]; exact h3a) (by rw [sGos]; simp only; rw [if_neg c40]; exact h3b) (hO2.trans h3c)
        exact hin (tn (S1 0) + 1) 0 σ2 _ (Nat.zero_le _) (by omega) (hR1.frame (fun k _ _ h3 => h2b k h3)) h2a (hO1.trans (fun k h1 h2 => h2b k (by omega)))
  exact hloop (n + 1) 0 σ none none (Nat.zero_le _) (by omega) hR OutW.refl (fun h => absurd h (Nat.lt_irrefl _))
