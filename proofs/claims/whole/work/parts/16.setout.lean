/-! World's setOut and pass -/
def passN (S : Rw) (ab : Int32) : Nat → Rw
  | 0 => S
  | n + 1 => sNoon (passN S ab n) ab
theorem gst_no {S : Rw} {T : Nat → Int32} {p f : Nat} {r : Int32 × Int32} (hg : gst S T p f = r) (h : (sMay S p f && sFree S T p f && (decide (r.1 = -1) || decide (sWalk S p f < r.2))) = false) : gst S T p (f + 1) = r := by
  rw [gst, hg, if_neg (by rw [h]; decide)]
theorem gst_yes {S : Rw} {T : Nat → Int32} {p f : Nat} {r : Int32 × Int32} (hg : gst S T p f = r) (h : (sMay S p f && sFree S T p f && (decide (r.1 = -1) || decide (sWalk S p f < r.2))) = true) : gst S T p (f + 1) = (nI f, sWalk S p f) := by
  rw [gst, hg, if_pos h]
theorem sNoon_keep {S : Rw} (hI : Inv S) (ab : Int32) (hn : tn (S 2) < 11000) : Inv (sNoon S ab) ∧ (sNoon S ab) 0 = S 0 ∧ (sNoon S ab) 1 = S 1 ∧ (sNoon S ab) 2 = nI (tn (S 2) + 1) ∧ AgT S (sNoon S ab) ∧ (∀ p k, p < 8 → k < 3 → sNoon S ab (ixP p k) = S (ixP p k)) := by
  obtain ⟨h1, h2⟩ := sGosN_keep hI ab
  have h3 : Keep S (upd (sGos S ab (tn (S 0))).1 6 (zn ((sGos S ab (tn (S 0))).1 6))) := h1.put (Or.inl (by omega))
  have h4 : Keep S (if irm (dval ((upd (sGos S ab (tn (S 0))).1 6 (zn ((sGos S ab (tn (S 0))).1 6))) 6)) (nI 100) < S 5 then sCat (upd (sGos S ab (tn (S 0))).1 6 (zn ((sGos S ab (tn (S 0))).1 6))) (sNoonT S ab) (tn (S 0)) else (upd (sGos S ab (tn (S 0))).1 6 (zn ((sGos S ab (tn (S 0))).1 6)))) := by
    split
    · exact h3.trans (sCat_keep _ hI.n.2)
    · exact h3
  have e : ∃ S2, Keep S S2 ∧ sNoon S ab = upd S2 2 (S2 2 + nI 1) := ⟨_, h4, rfl⟩
  obtain ⟨S2, hk, he⟩ := e
  have hI2 := hk.inv hI
  have e2 : S2 2 + nI 1 = nI (tn (S 2) + 1) := by rw [hk.2.2.1, hI.2.2.1.1, nI_add, tn_nI (by omega)]
  rw [he, e2]
  refine ⟨?_, (pk_un (by decide)).trans hk.1, (pk_un (by decide)).trans hk.2.1, pk_us, hk.2.2.2.2.2.2.2.upd (by decide) (by decide), fun p k hp hk3 => (pk_un (by unfold ixP; omega)).trans (hk.2.2.2.2.1 p k hp hk3)⟩
  obtain ⟨b0, b1, b2, b3, b4, b5, b6⟩ := hI2
  have hA : AgT S2 (upd S2 2 (nI (tn (S 2) + 1))) := AgT.refl.upd (by decide) (by decide)
  refine ⟨by rw [pk_un (by decide)]; exact b0, by rw [pk_un (by decide)]; exact b1, by rw [pk_us]; exact In.mk' (by omega) (by decide), by rw [pk_un (by decide)]; exact b3, fun f hf => ?_, fun p hp => ?_, fun t ht => ?_⟩
  · rw [pk_un (by unfold ixF; omega), pk_un (by unfold ixF; omega), pk_un (by unfold ixF; omega)]
    exact b4 f hf
  · rw [pk_un (by unfold ixP; omega), pk_un (by unfold ixP; omega), pk_un (by unfold ixP; omega)]
    exact b5 p hp
  · rw [pk_un (by decide)] at ht
    exact TV_agT hA (b6 t ht)
theorem passN_keep {S : Rw} (hI : Inv S) (ab : Int32) : ∀ n, tn (S 2) + n ≤ 11000 → Inv (passN S ab n) ∧ (passN S ab n) 0 = S 0 ∧ (passN S ab n) 1 = S 1 ∧ (passN S ab n) 2 = nI (tn (S 2) + n) ∧ AgT S (passN S ab n) ∧ (∀ p k, p < 8 → k < 3 → passN S ab n (ixP p k) = S (ixP p k))
  | 0, _ => ⟨hI, rfl, rfl, hI.2.2.1.1, AgT.refl, fun _ _ _ _ => rfl⟩
  | n + 1, hn => by
    obtain ⟨h1, h2, h3, h4, h5, h6⟩ := passN_keep hI ab n (by omega)
    have e : tn (passN S ab n 2) = tn (S 2) + n := by rw [h4, tn_nI (by omega)]
    obtain ⟨g1, g2, g3, g4, g5, g6⟩ := sNoon_keep h1 ab (by omega)
    exact ⟨g1, g2.trans h2, g3.trans h3, by rw [passN, g4, e]; rfl, h5.trans g5, fun p k hp hk => (g6 p k hp hk).trans (h6 p k hp hk)⟩
theorem lrel_of {S S' : Rw} {σ σ' : Sg} {w : Nat} (hw : isW w) (hI : Inv S) (hL : LRel S σ) (hA : AgT S S') (hO : OutW w σ σ') : LRel S' σ' :=
  LRel_agT hA (fun k h1 h2 => hO k (by rcases hw with rfl | rfl | rfl <;> omega) (by omega)) hL hI.2.1.2
theorem p_Wo_setOut (g : CX) (d : Nat) (hd : 4 ≤ d) (σ : Sg) (w : Nat) (hw : isW w) (S : Rw) (hR : WRel w S σ) (hI : Inv S) (hL : LRel S σ) (T : Nat → Int32) (hT : StT w T σ) (p : Nat) (hp : p < 8) : RunM g d Wo_setOut [.ref w, .int (nI p)] σ (PV (fun σ1 => WRel w (sGo S T p).1 σ1 ∧ StT w (sGo S T p).2 σ1 ∧ OutW w σ σ1)) := by
  refine RunM.of 4 (by decide +kernel) rfl ?_
  intro κ hg hx hk0 G E
  subst hg
  have hk : 6 ≤ kn κ := Nat.le_of_eq hk0.symm
  show X κ NC 0 [some (.ref w), some (.int (nI p)), none, none, none, none] [] (hv σ)
  refine x_iconst (v := (-1)) G d_Wo_setOut_0 rfl ?_
  refine x_istore2 G d_Wo_setOut_1 rfl hk ?_
  refine x_iconst (v := nI 0) G d_Wo_setOut_2 rfl ?_
  refine x_istore3 G d_Wo_setOut_3 rfl hk ?_
  refine x_iconst (v := nI 0) G d_Wo_setOut_4 rfl ?_
  refine x_istore4 G d_Wo_setOut_5 rfl hk ?_
  have hloop : ∀ (m f : Nat) (to le : Int32) (σ1 : Sg) (o5 : Option Value), f ≤ 9 → 9 < f + m → gst S T p f = (to, le) → (∀ k, k ≠ 27 → σ1 k = σ k) → X κ NC 7 [some (.ref w), some (.int (nI p)), some (.int to), some (.int le), some (.int (nI f)), o5] [] (hv σ1) := by
    intro m
    induction m with
    | zero => intro f to le σ1 o5 h1 h2; omega
    | succ m ih =>
      intro f to le σ1 o5 hf1 hf2 hg hF
      have hw27 : 27 < w := by rcases hw with rfl | rfl | rfl <;> decide
      have hR1 : WRel w S σ1 := hR.frame (fun k h1 h2 h3 => hF k (by omega))
      have hT1 : StT w T σ1 := hT.ne (hF _ (by omega))
      have hO1 : OutW w σ σ1 := fun k _ h => hF k h
      have hL1 : LRel S σ1 := lrel_of hw hI hL AgT.refl hO1
      refine x_iload4 G d_Wo_setOut_7 ?_
      refine x_bipush (v := nI 9) G d_Wo_setOut_9 rfl ?_
      refine x_icmp_ge G d_Wo_setOut_11 (fun c11 => ?_) (fun c11 => ?_)
      · have hf9 : f = 9 := by rw [nle (by omega) (by omega)] at c11; omega
        refine x_iload2 G d_Wo_setOut_66 ?_
        refine x_iconst (v := (-1)) G d_Wo_setOut_67 rfl ?_
        refine x_icmp_ne G d_Wo_setOut_68 (fun c68 => ?_) (fun c68 => ?_)
        · refine x_aload0 G d_Wo_setOut_84 ?_
          refine x_dup G d_Wo_setOut_85 rfl ?_
          refine m_geti G d_Wo_setOut_86 fl_Wo_39 (W_o hw) (W_l hw) (W_ij hw 10 (by decide) (by decide)) ?_
          rw [show σ1 w 10 = S 3 from hR1.steps]
          refine x_iload3 G d_Wo_setOut_89 ?_
          refine x_iadd G d_Wo_setOut_90 ?_
          refine m_puti_n G d_Wo_setOut_91 fl_Wo_39 (W_o hw) (W_l hw) (W_ij hw 10 (by decide) (by decide)) rfl rfl (fun σ2 e2 => ?_)
          have hS2 : WRel w (upd S 3 (S 3 + le)) σ2 := by rw [e2]; exact hR1.sets (by unfold scal; omega) _
          have hI2 : Inv (upd S 3 (S 3 + le)) := (Keep.refl.put (Or.inl (by omega))).inv hI
          subst hf9
          obtain ⟨f0, hf0, hto⟩ := (gst_range (S := S) (T := T) (p := p) 9 (Nat.le_refl _)).resolve_left (by rw [hg]; exact c68)
          rw [hg] at hto
          have hto : to = nI f0 := hto
          subst hto
          refine x_aload0 G d_Wo_setOut_94 ?_
          refine x_iload1 G d_Wo_setOut_95 ?_
          refine x_iload2 G d_Wo_setOut_96 ?_
          refine m_callV_pv (p_Wo_arrive (kg κ) (d - 1) (by omega) σ2 w hw (upd S 3 (S 3 + le)) hS2 hI2 T (hT1.ne (by rw [e2]; exact updS_nk (by omega))) p f0 hp hf0) G d_Wo_setOut_97 lk_Wo_137 (W_o hw) ⟨by decide, rfl⟩ (W_l hw) (by omega) rfl (Nat.le_of_ble_eq_true rfl) hx (fun σ3 ⟨h3a, h3b, h3c⟩ => ?_)
          exact m_vret E G d_Wo_setOut_100 hx rfl (by
        have e : sGo S T p = (sArr (upd S 3 (S 3 + le)) p f0, upd T p (nI f0)) := by unfold sGo; rw [hg, if_neg c68]; simp only [tn_nI (show f0 < 2 ^ 31 by omega)]
        rw [e]
        exact ⟨rfl, h3a, h3b, (show OutW w σ σ2 by rw [e2]; exact hO1.upd (by omega)).trans h3c⟩)
        · refine x_aload0 G d_Wo_setOut_71 ?_
          refine x_dup G d_Wo_setOut_72 rfl ?_
          refine m_geti G d_Wo_setOut_73 fl_Wo_42 (W_o hw) (W_l hw) (W_ij hw 11 (by decide) (by decide)) ?_
          rw [show σ1 w 11 = S 4 from hR1.left]
          refine x_iconst (v := nI 1) G d_Wo_setOut_76 rfl ?_
          refine x_iadd G d_Wo_setOut_77 ?_
          refine m_puti_n G d_Wo_setOut_78 fl_Wo_42 (W_o hw) (W_l hw) (W_ij hw 11 (by decide) (by decide)) rfl rfl (fun σ2 e2 => ?_)
          refine x_goto G d_Wo_setOut_81 ?_
          exact m_vret E G d_Wo_setOut_100 hx rfl (by
        subst hf9
        have e : sGo S T p = (upd S 4 (S 4 + nI 1), T) := by unfold sGo; rw [hg, if_pos c68]
        rw [e]
        exact ⟨rfl, (by rw [e2]; exact hR1.sets (by unfold scal; omega) _), hT1.ne (by rw [e2]; exact updS_nk (by omega)), (by rw [e2]; exact hO1.upd (by omega))⟩)
      · have hf9 : f < 9 := by rw [nle (by omega) (by omega)] at c11; omega
        refine x_aload0 G d_Wo_setOut_14 ?_
        refine x_iload1 G d_Wo_setOut_15 ?_
        refine x_iload4 G d_Wo_setOut_16 ?_
        refine m_callV_pi (p_Wo_mayStand (kg κ) (d - 1) (by omega) σ1 w hw S hR1 hI p f hp hf9) G d_Wo_setOut_18 lk_Wo_128 (W_o hw) ⟨by decide, rfl⟩ (W_l hw) (by omega) rfl (Nat.le_of_ble_eq_true rfl) hx ?_
        refine x_if_eq G d_Wo_setOut_21 (fun c21 => ?_) (fun c21 => ?_)
        · have hq := bI_0.mp c21
          refine x_iinc4 (v := nI (f + 1)) G d_Wo_setOut_60 rfl hk (nI_1 _) ?_
          refine x_goto G d_Wo_setOut_63 ?_
          exact ih (f + 1) to le _ _ (by omega) (by omega) (gst_no hg (by simp [hq])) hF
        · have hm := bI_n0.mp c21
          refine x_aload0 G d_Wo_setOut_24 ?_
          refine x_iload1 G d_Wo_setOut_25 ?_
          refine x_iload4 G d_Wo_setOut_26 ?_
          refine m_callV_pi (p_Wo_hasRoom (kg κ) (d - 1) (by omega) σ1 w hw S hR1 hI T hT1 p f hp hf9) G d_Wo_setOut_28 lk_Wo_131 (W_o hw) ⟨by decide, rfl⟩ (W_l hw) (by omega) rfl (Nat.le_of_ble_eq_true rfl) hx ?_
          refine x_if_eq G d_Wo_setOut_31 (fun c31 => ?_) (fun c31 => ?_)
          · have hq := bI_0.mp c31
            refine x_iinc4 (v := nI (f + 1)) G d_Wo_setOut_60 rfl hk (nI_1 _) ?_
            refine x_goto G d_Wo_setOut_63 ?_
            exact ih (f + 1) to le _ _ (by omega) (by omega) (gst_no hg (by simp [hm, hq])) hF
          · have hr := bI_n0.mp c31
            refine x_aload0 G d_Wo_setOut_34 ?_
            refine x_iload1 G d_Wo_setOut_35 ?_
            refine x_iload4 G d_Wo_setOut_36 ?_
            refine m_callV_pr (p_Wo_walkOf (kg κ) (d - 1) (by omega) σ1 w hw S hR1 hI hL1 p f hp hf9) G d_Wo_setOut_38 lk_Wo_134 (W_o hw) ⟨by decide, rfl⟩ (W_l hw) (by omega) rfl (Nat.le_of_ble_eq_true rfl) hx (fun v2 σ2 ⟨hv2, hF2⟩ => ?_)
            subst hv2
            have hF3 : ∀ k, k ≠ 27 → σ2 k = σ k := fun k hk => (hF2 k hk).trans (hF k hk)
            refine x_istore5 G d_Wo_setOut_41 rfl hk ?_
            refine x_iload2 G d_Wo_setOut_43 ?_
            refine x_iconst (v := (-1)) G d_Wo_setOut_44 rfl ?_
            refine x_icmp_eq G d_Wo_setOut_45 (fun c45 => ?_) (fun c45 => ?_)
            · refine x_iload4 G d_Wo_setOut_54 ?_
              refine x_istore2 G d_Wo_setOut_56 rfl hk ?_
              refine x_iload5 G d_Wo_setOut_57 ?_
              refine x_istore3 G d_Wo_setOut_59 rfl hk ?_
              refine x_iinc4 (v := nI (f + 1)) G d_Wo_setOut_60 rfl hk (nI_1 _) ?_
              refine x_goto G d_Wo_setOut_63 ?_
              exact ih (f + 1) _ _ _ _ (by omega) (by omega) (gst_yes hg (by simp [hm, hr, c45])) hF3
            · refine x_iload5 G d_Wo_setOut_48 ?_
              refine x_iload3 G d_Wo_setOut_50 ?_
              refine x_icmp_ge G d_Wo_setOut_51 (fun c51 => ?_) (fun c51 => ?_)
              · refine x_iinc4 (v := nI (f + 1)) G d_Wo_setOut_60 rfl hk (nI_1 _) ?_
                refine x_goto G d_Wo_setOut_63 ?_
                exact ih (f + 1) to le _ _ (by omega) (by omega) (gst_no hg (by simp [hm, hr, c45, Int32.not_lt.mpr c51])) hF3
              · refine x_iload4 G d_Wo_setOut_54 ?_
                refine x_istore2 G d_Wo_setOut_56 rfl hk ?_
                refine x_iload5 G d_Wo_setOut_57 ?_
                refine x_istore3 G d_Wo_setOut_59 rfl hk ?_
                refine x_iinc4 (v := nI (f + 1)) G d_Wo_setOut_60 rfl hk (nI_1 _) ?_
                refine x_goto G d_Wo_setOut_63 ?_
                exact ih (f + 1) _ _ _ _ (by omega) (by omega) (gst_yes hg (by simp [hm, hr, Int32.not_le.mp c51])) hF3
  exact hloop 10 0 (-1) (nI 0) σ none (Nat.zero_le _) (by omega) rfl (fun _ _ => rfl)
