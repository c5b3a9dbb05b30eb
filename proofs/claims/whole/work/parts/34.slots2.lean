/-! SLOTS: the model's side -/
def TLO (tH tK tG : Nat → Int32) : Prop := ∀ s, s < 5 → In (tH s) 3 ∧ (tH s = nI 1 → ∃ j, j < 6 ∧ tK s = nI j) ∧ (tH s = nI 2 → In (tG s) 24)
def PLM (S : Rw) (tS tZ tN : Nat → Int32) (slot thing x : Int32) (e : Int32 × Bool) (σ : Sg) : Int32 → Sg → Prop := fun v σ1 => v = e.1 ∧ (e.2 = false → σ1 = σ) ∧ (e.2 = true → ∃ s, s < 5 ∧ slot = nI s ∧ In thing 3 ∧ σ1 120 = upd (σ 120) s thing ∧ (thing = nI 1 → ∃ p, p < 8 ∧ x = nI p ∧ σ1 121 s = S (ixP p 0) ∧ σ1 122 s = worthB (tn (S (ixP p 0))) (S (ixP p 2))) ∧ (thing = nI 2 → ∃ k, k < 4 ∧ x = nI k ∧ σ1 123 s = tZ k ∧ ∀ i, i < 24 → σ1 124 (24 * s + i) = shV tN k i) ∧ (thing = nI 3 → σ1 121 s = x) ∧ (∀ s', s' ≠ s → σ1 121 s' = σ 121 s' ∧ σ1 122 s' = σ 122 s' ∧ σ1 123 s' = σ 123 s') ∧ (∀ j, (j < 24 * s ∨ 24 * s + 24 ≤ j) → σ1 124 j = σ 124 j) ∧ ∀ c, c ≠ 120 → c ≠ 121 → c ≠ 122 → c ≠ 123 → c ≠ 124 → σ1 c = σ c)
theorem PLM.no {S : Rw} {tS tZ tN : Nat → Int32} {slot thing k : Int32} {e : Int32 × Bool} {σ : Sg} {v : Int32} (h : e = (v, false)) : PLM S tS tZ tN slot thing k e σ v σ := by
  rw [h]; exact ⟨rfl, fun _ => rfl, fun z => by simp at z⟩
theorem PLM.yes {S : Rw} {tS tZ tN : Nat → Int32} {slot thing x : Int32} {e : Int32 × Bool} {σ σ1 : Sg} {v : Int32} (h : e = (v, true)) (g : ∃ s, s < 5 ∧ slot = nI s ∧ In thing 3 ∧ σ1 120 = upd (σ 120) s thing ∧ (thing = nI 1 → ∃ p, p < 8 ∧ x = nI p ∧ σ1 121 s = S (ixP p 0) ∧ σ1 122 s = worthB (tn (S (ixP p 0))) (S (ixP p 2))) ∧ (thing = nI 2 → ∃ k, k < 4 ∧ x = nI k ∧ σ1 123 s = tZ k ∧ ∀ i, i < 24 → σ1 124 (24 * s + i) = shV tN k i) ∧ (thing = nI 3 → σ1 121 s = x) ∧ (∀ s', s' ≠ s → σ1 121 s' = σ 121 s' ∧ σ1 122 s' = σ 122 s' ∧ σ1 123 s' = σ 123 s') ∧ (∀ j, (j < 24 * s ∨ 24 * s + 24 ≤ j) → σ1 124 j = σ 124 j) ∧ ∀ c, c ≠ 120 → c ≠ 121 → c ≠ 122 → c ≠ 123 → c ≠ 124 → σ1 c = σ c) : PLM S tS tZ tN slot thing x e σ v σ1 := by
  rw [h]; exact ⟨rfl, fun z => by simp at z, fun _ => g⟩
theorem th_no {x : Int32} (h0 : ¬ x = 0) (h1 : ¬ x = nI 1) (h2 : ¬ x = nI 2) (h3 : ¬ x = nI 3) : upB x (nI 3) = false := by
  by_cases h : upB x (nI 3) = true
  · rcases In3 ((upB_In (by decide)).mp h) with z | z | z | z
    · exact absurd z h0
    · exact absurd z h1
    · exact absurd z h2
    · exact absurd z h3
  · exact Bool.eq_false_iff.mpr h
theorem p_M_ask (g : CX) (d : Nat) (hd : 2 ≤ d) (σ : Sg) (tH tK tW tG tR : Nat → Int32) (m0 : σ 120 = tH) (m1 : σ 121 = tK) (m2 : σ 122 = tW) (m3 : σ 123 = tG) (m4 : σ 124 = tR) (hT : TLO tH tK tG) (sl kind : Int32) : RunM g d M_ask [.ref 113, .int sl, .int kind] σ (PI (fAsk tH tK tW sl kind) σ) := by
  refine RunM.of 0 (by decide +kernel) rfl ?_
  intro κ hg hx hk0 G E
  subst hg
  have hk : 3 ≤ kn κ := Nat.le_of_eq hk0.symm
  show X κ NC 0 [some (.ref 113), some (.int sl), some (.int kind)] [] (hv σ)
  refine x_iload1 G d_M_ask_0 ?_
  refine m_callS_pi (p_M_isSlo (kg κ) (d - 1) (by omega) _ _) G d_M_ask_1 lk_M_323 (by omega) rfl (Nat.le_of_ble_eq_true rfl) hx ?_
  refine x_if_eq G d_M_ask_4 (fun c4 => ?_) (fun c4 => ?_)
  · replace c4 := bI_0.mp c4
    refine x_ldc G d_M_ask_19 kc_M_98 ?_
    exact m_iret E G d_M_ask_21 hx rfl rfl (pi_of (by simp only [fAsk, c4, Bool.and_true, Bool.true_and, Bool.and_false, Bool.false_and, Bool.or_true, Bool.true_or, Bool.or_false, Bool.false_or, Bool.not_true, Bool.not_false, Bool.false_eq_true, decide_true, decide_false, if_true, if_false]))
  · replace c4 := bI_n0.mp c4
    obtain ⟨s, hs4, ts, rfl⟩ := upB_ex (by decide) c4
    have hs5 : s < 5 := by omega
    obtain ⟨hh3, hh1, hh2⟩ := hT s hs5
    refine x_iload2 G d_M_ask_7 ?_
    refine x_i2l G d_M_ask_8 ?_
    refine x_lconst (v := 0) G d_M_ask_9 rfl ?_
    refine x_ldc2 G d_M_ask_10 kc_M_90 ?_
    refine m_callS_pi (p_M_isUp (kg κ) (d - 1) _ _ 5 _ _ _ rfl (by decide +kernel) (by decide +kernel)) G d_M_ask_13 lk_M_82 (by omega) rfl (Nat.le_of_ble_eq_true rfl) hx ?_
    refine x_if_ne G d_M_ask_16 (fun c16 => ?_) (fun c16 => ?_)
    · replace c16 := bI_n0.mp c16
      obtain ⟨j, hj, tj, rfl⟩ := upB_ex (by decide) c16
      refine x_aload0 G d_M_ask_22 ?_
      refine m_getr G d_M_ask_23 fl_M_28 rfl (by decide) rfl ?_
      refine x_iload1 G d_M_ask_26 ?_
      refine m_iald s G d_M_ask_27 rfl rfl ⟨hs5, by first | decide | omega⟩ ?_
      rw [show σ 120 s = tH s by rw [m0]]
      refine x_if_ne G d_M_ask_28 (fun c28 => ?_) (fun c28 => ?_)
      · refine x_aload0 G d_M_ask_35 ?_
        refine m_getr G d_M_ask_36 fl_M_28 rfl (by decide) rfl ?_
        refine x_iload1 G d_M_ask_39 ?_
        refine m_iald s G d_M_ask_40 rfl rfl ⟨hs5, by first | decide | omega⟩ ?_
        rw [show σ 120 s = tH s by rw [m0]]
        refine x_iconst (v := nI 1) G d_M_ask_41 rfl ?_
        refine x_icmp_ne G d_M_ask_42 (fun c42 => ?_) (fun c42 => ?_)
        · refine x_ldc G d_M_ask_67 kc_M_144 ?_
          exact m_iret E G d_M_ask_69 hx rfl rfl (pi_of (by simp only [fAsk, c4, ts, c16, tj, c28, c42, Bool.and_true, Bool.true_and, Bool.and_false, Bool.false_and, Bool.or_true, Bool.true_or, Bool.or_false, Bool.false_or, Bool.not_true, Bool.not_false, Bool.false_eq_true, decide_true, decide_false, if_true, if_false]))
        · obtain ⟨i, hi6, e1⟩ := hh1 c42
          have ti : tn (nI i) = i := tn_nI (by omega)
          refine x_aload0 G d_M_ask_45 ?_
          refine m_getr G d_M_ask_46 fl_M_31 rfl (by decide) rfl ?_
          refine x_iload1 G d_M_ask_49 ?_
          refine m_iald s G d_M_ask_50 rfl rfl ⟨hs5, by first | decide | omega⟩ ?_
          rw [show σ 121 s = nI i by rw [m1]; exact e1]
          refine x_iload2 G d_M_ask_51 ?_
          refine m_callS_pi (p_M_isOf (kg κ) (d - 1) (by omega) σ i hi6 j (by omega)) G d_M_ask_52 lk_M_141 (by omega) rfl (Nat.le_of_ble_eq_true rfl) hx ?_
          refine x_if_eq G d_M_ask_55 (fun c55 => ?_) (fun c55 => ?_)
          · replace c55 := bI_0.mp c55
            refine x_ldc G d_M_ask_67 kc_M_144 ?_
            exact m_iret E G d_M_ask_69 hx rfl rfl (pi_of (by simp only [fAsk, c4, ts, c16, tj, c28, eq_true c42, e1, ti, c55, Bool.and_true, Bool.true_and, Bool.and_false, Bool.false_and, Bool.or_true, Bool.true_or, Bool.or_false, Bool.false_or, Bool.not_true, Bool.not_false, Bool.false_eq_true, decide_true, decide_false, if_true, if_false]))
          · replace c55 := bI_n0.mp c55
            refine x_aload0 G d_M_ask_58 ?_
            refine m_getr G d_M_ask_59 fl_M_34 rfl (by decide) rfl ?_
            refine x_iload1 G d_M_ask_62 ?_
            refine m_iald s G d_M_ask_63 rfl rfl ⟨hs5, by first | decide | omega⟩ ?_
            rw [show σ 122 s = tW s by rw [m2]]
            refine x_goto G d_M_ask_64 ?_
            exact m_iret E G d_M_ask_69 hx rfl rfl (pi_of (by simp only [fAsk, c4, ts, c16, tj, c28, eq_true c42, e1, ti, c55, Bool.and_true, Bool.true_and, Bool.and_false, Bool.false_and, Bool.or_true, Bool.true_or, Bool.or_false, Bool.false_or, Bool.not_true, Bool.not_false, Bool.false_eq_true, decide_true, decide_false, if_true, if_false]))
      · refine x_ldcw G d_M_ask_31 kc_M_317 ?_
        exact m_iret E G d_M_ask_34 hx rfl rfl (pi_of (by simp only [fAsk, c4, ts, c16, tj, eq_true c28, Bool.and_true, Bool.true_and, Bool.and_false, Bool.false_and, Bool.or_true, Bool.true_or, Bool.or_false, Bool.false_or, Bool.not_true, Bool.not_false, Bool.false_eq_true, decide_true, decide_false, if_true, if_false]))
    · replace c16 := bI_0.mp c16
      refine x_ldc G d_M_ask_19 kc_M_98 ?_
      exact m_iret E G d_M_ask_21 hx rfl rfl (pi_of (by simp only [fAsk, c4, ts, c16, Bool.and_true, Bool.true_and, Bool.and_false, Bool.false_and, Bool.or_true, Bool.true_or, Bool.or_false, Bool.false_or, Bool.not_true, Bool.not_false, Bool.false_eq_true, decide_true, decide_false, if_true, if_false]))
theorem p_M_item (g : CX) (d : Nat) (hd : 2 ≤ d) (σ : Sg) (tH tK tW tG tR : Nat → Int32) (m0 : σ 120 = tH) (m1 : σ 121 = tK) (m2 : σ 122 = tW) (m3 : σ 123 = tG) (m4 : σ 124 = tR) (hT : TLO tH tK tG) (sl pl : Int32) : RunM g d M_item [.ref 113, .int sl, .int pl] σ (PI (fItem tH tG tR sl pl) σ) := by
  refine RunM.of 1 (by decide +kernel) rfl ?_
  intro κ hg hx hk0 G E
  subst hg
  have hk : 4 ≤ kn κ := Nat.le_of_eq hk0.symm
  show X κ NC 0 [some (.ref 113), some (.int sl), some (.int pl), none] [] (hv σ)
  refine x_iload1 G d_M_item_0 ?_
  refine m_callS_pi (p_M_isSlo (kg κ) (d - 1) (by omega) _ _) G d_M_item_1 lk_M_323 (by omega) rfl (Nat.le_of_ble_eq_true rfl) hx ?_
  refine x_if_ne G d_M_item_4 (fun c4 => ?_) (fun c4 => ?_)
  · replace c4 := bI_n0.mp c4
    obtain ⟨s, hs4, ts, rfl⟩ := upB_ex (by decide) c4
    have hs5 : s < 5 := by omega
    obtain ⟨hh3, hh1, hh2⟩ := hT s hs5
    refine x_aload0 G d_M_item_10 ?_
    refine m_getr G d_M_item_11 fl_M_28 rfl (by decide) rfl ?_
    refine x_iload1 G d_M_item_14 ?_
    refine m_iald s G d_M_item_15 rfl rfl ⟨hs5, by first | decide | omega⟩ ?_
    rw [show σ 120 s = tH s by rw [m0]]
    refine x_iconst (v := nI 2) G d_M_item_16 rfl ?_
    refine x_icmp_eq G d_M_item_17 (fun c17 => ?_) (fun c17 => ?_)
    · obtain ⟨hg1, hg2⟩ := hh2 c17
      obtain ⟨m, hm⟩ : ∃ z, z = tn (tG s) := ⟨_, rfl⟩
      rw [← hm] at hg1 hg2
      have g17 : ¬ tH s = 0 := by rw [c17]; decide
      refine x_iload2 G d_M_item_38 ?_
      refine x_i2l G d_M_item_39 ?_
      refine x_lconst (v := 0) G d_M_item_40 rfl ?_
      refine x_aload0 G d_M_item_41 ?_
      refine m_getr G d_M_item_42 fl_M_37 rfl (by decide) rfl ?_
      refine x_iload1 G d_M_item_45 ?_
      refine m_iald s G d_M_item_46 rfl rfl ⟨hs5, by first | decide | omega⟩ ?_
      rw [show σ 123 s = nI m by rw [m3]; exact hg1]
      refine x_iconst (v := nI 1) G d_M_item_47 rfl ?_
      refine x_isub G d_M_item_48 ?_
      refine x_i2l G d_M_item_49 ?_
      refine m_callS_pi (p_M_isIn (kg κ) (d - 1) (Nat.zero_le _) _ _ 0 (nI m - 1) _ _ _ rfl rfl rfl) G d_M_item_50 lk_M_82 (by omega) rfl (Nat.le_of_ble_eq_true rfl) hx ?_
      rw [inB_O m (by omega), show nI m = tG s from hg1.symm]
      refine x_if_ne G d_M_item_53 (fun c53 => ?_) (fun c53 => ?_)
      · replace c53 := bI_n0.mp c53
        obtain ⟨p, hp, tp, rfl⟩ := isO_ex (by omega) (show isO (nI m) pl = true by rw [← hg1]; exact c53)
        refine x_aload0 G d_M_item_60 ?_
        refine m_getr G d_M_item_61 fl_M_40 rfl (by decide) rfl ?_
        refine x_bipush (v := nI 24) G d_M_item_64 rfl ?_
        refine x_iload1 G d_M_item_66 ?_
        refine x_imul G d_M_item_67 ?_
        refine x_iload2 G d_M_item_68 ?_
        refine x_iadd G d_M_item_69 ?_
        refine m_iald (24 * s + p) G d_M_item_70 rfl (by simp only [pk_mul, nI_add]) ⟨by omega, by first | decide | omega⟩ ?_
        rw [show σ 124 (24 * s + p) = shV tR s p by rw [m4]; rfl]
        refine x_istore3 G d_M_item_71 rfl hk ?_
        refine x_iload3 G d_M_item_72 ?_
        refine x_ldc G d_M_item_73 kc_M_81 ?_
        refine x_icmp_ne G d_M_item_75 (fun c75 => ?_) (fun c75 => ?_)
        · refine x_iload3 G d_M_item_83 ?_
          exact m_iret E G d_M_item_84 hx rfl rfl (pi_of (by simp only [fItem, c4, ts, g17, eq_true c17, c53, tp, c75, Bool.and_true, Bool.true_and, Bool.and_false, Bool.false_and, Bool.or_true, Bool.true_or, Bool.or_false, Bool.false_or, Bool.not_true, Bool.not_false, Bool.false_eq_true, decide_true, decide_false, if_true, if_false]))
        · refine x_ldc G d_M_item_78 kc_M_144 ?_
          refine x_goto G d_M_item_80 ?_
          exact m_iret E G d_M_item_84 hx rfl rfl (pi_of (by simp only [fItem, c4, ts, g17, eq_true c17, c53, tp, eq_true c75, Bool.and_true, Bool.true_and, Bool.and_false, Bool.false_and, Bool.or_true, Bool.true_or, Bool.or_false, Bool.false_or, Bool.not_true, Bool.not_false, Bool.false_eq_true, decide_true, decide_false, if_true, if_false]))
      · replace c53 := bI_0.mp c53
        refine x_ldcw G d_M_item_56 kc_M_318 ?_
        exact m_iret E G d_M_item_59 hx rfl rfl (pi_of (by simp only [fItem, c4, ts, g17, eq_true c17, c53, Bool.and_true, Bool.true_and, Bool.and_false, Bool.false_and, Bool.or_true, Bool.true_or, Bool.or_false, Bool.false_or, Bool.not_true, Bool.not_false, Bool.false_eq_true, decide_true, decide_false, if_true, if_false]))
    · refine x_aload0 G d_M_item_20 ?_
      refine m_getr G d_M_item_21 fl_M_28 rfl (by decide) rfl ?_
      refine x_iload1 G d_M_item_24 ?_
      refine m_iald s G d_M_item_25 rfl rfl ⟨hs5, by first | decide | omega⟩ ?_
      rw [show σ 120 s = tH s by rw [m0]]
      refine x_if_ne G d_M_item_26 (fun c26 => ?_) (fun c26 => ?_)
      · refine x_ldc G d_M_item_35 kc_M_144 ?_
        exact m_iret E G d_M_item_37 hx rfl rfl (pi_of (by simp only [fItem, c4, ts, c17, c26, Bool.and_true, Bool.true_and, Bool.and_false, Bool.false_and, Bool.or_true, Bool.true_or, Bool.or_false, Bool.false_or, Bool.not_true, Bool.not_false, Bool.false_eq_true, decide_true, decide_false, if_true, if_false]))
      · refine x_ldcw G d_M_item_29 kc_M_317 ?_
        refine x_goto G d_M_item_32 ?_
        exact m_iret E G d_M_item_37 hx rfl rfl (pi_of (by simp only [fItem, c4, ts, c17, eq_true c26, Bool.and_true, Bool.true_and, Bool.and_false, Bool.false_and, Bool.or_true, Bool.true_or, Bool.or_false, Bool.false_or, Bool.not_true, Bool.not_false, Bool.false_eq_true, decide_true, decide_false, if_true, if_false]))
  · replace c4 := bI_0.mp c4
    refine x_ldc G d_M_item_7 kc_M_98 ?_
    exact m_iret E G d_M_item_9 hx rfl rfl (pi_of (by simp only [fItem, c4, Bool.and_true, Bool.true_and, Bool.and_false, Bool.false_and, Bool.or_true, Bool.true_or, Bool.or_false, Bool.false_or, Bool.not_true, Bool.not_false, Bool.false_eq_true, decide_true, decide_false, if_true, if_false]))
theorem p_M_rest (g : CX) (d : Nat) (hd : 2 ≤ d) (σ : Sg) (tH tK tW tG tR : Nat → Int32) (m0 : σ 120 = tH) (m1 : σ 121 = tK) (m2 : σ 122 = tW) (m3 : σ 123 = tG) (m4 : σ 124 = tR) (hT : TLO tH tK tG) (sl n : Int32) : RunM g d M_rest [.ref 113, .int sl, .int n] σ (PI (fRest tH tK sl n) σ) := by
  refine RunM.of 0 (by decide +kernel) rfl ?_
  intro κ hg hx hk0 G E
  subst hg
  have hk : 3 ≤ kn κ := Nat.le_of_eq hk0.symm
  show X κ NC 0 [some (.ref 113), some (.int sl), some (.int n)] [] (hv σ)
  refine x_iload1 G d_M_rest_0 ?_
  refine m_callS_pi (p_M_isSlo (kg κ) (d - 1) (by omega) _ _) G d_M_rest_1 lk_M_323 (by omega) rfl (Nat.le_of_ble_eq_true rfl) hx ?_
  refine x_if_ne G d_M_rest_4 (fun c4 => ?_) (fun c4 => ?_)
  · replace c4 := bI_n0.mp c4
    obtain ⟨s, hs4, ts, rfl⟩ := upB_ex (by decide) c4
    have hs5 : s < 5 := by omega
    obtain ⟨hh3, hh1, hh2⟩ := hT s hs5
    refine x_aload0 G d_M_rest_10 ?_
    refine m_getr G d_M_rest_11 fl_M_28 rfl (by decide) rfl ?_
    refine x_iload1 G d_M_rest_14 ?_
    refine m_iald s G d_M_rest_15 rfl rfl ⟨hs5, by first | decide | omega⟩ ?_
    rw [show σ 120 s = tH s by rw [m0]]
    refine x_iconst (v := nI 3) G d_M_rest_16 rfl ?_
    refine x_icmp_eq G d_M_rest_17 (fun c17 => ?_) (fun c17 => ?_)
    · have g17 : ¬ tH s = 0 := by rw [c17]; decide
      refine x_iload2 G d_M_rest_38 ?_
      refine x_if_ne G d_M_rest_39 (fun c39 => ?_) (fun c39 => ?_)
      · refine x_aload0 G d_M_rest_48 ?_
        refine m_getr G d_M_rest_49 fl_M_31 rfl (by decide) rfl ?_
        refine x_iload1 G d_M_rest_52 ?_
        refine m_iald s G d_M_rest_53 rfl rfl ⟨hs5, by first | decide | omega⟩ ?_
        rw [show σ 121 s = tK s by rw [m1]]
        refine x_iload2 G d_M_rest_54 ?_
        refine x_irem G d_M_rest_55 c39 ?_
        rw [show tK s - tK s / n * n = irm (tK s) n from rfl]
        exact m_iret E G d_M_rest_56 hx rfl rfl (pi_of (by simp only [fRest, c4, ts, g17, eq_true c17, c39, Bool.and_true, Bool.true_and, Bool.and_false, Bool.false_and, Bool.or_true, Bool.true_or, Bool.or_false, Bool.false_or, Bool.not_true, Bool.not_false, Bool.false_eq_true, decide_true, decide_false, if_true, if_false]))
      · refine x_ldcw G d_M_rest_42 kc_M_326 ?_
        refine x_goto G d_M_rest_45 ?_
        exact m_iret E G d_M_rest_56 hx rfl rfl (pi_of (by simp only [fRest, c4, ts, g17, eq_true c17, eq_true c39, Bool.and_true, Bool.true_and, Bool.and_false, Bool.false_and, Bool.or_true, Bool.true_or, Bool.or_false, Bool.false_or, Bool.not_true, Bool.not_false, Bool.false_eq_true, decide_true, decide_false, if_true, if_false]))
    · refine x_aload0 G d_M_rest_20 ?_
      refine m_getr G d_M_rest_21 fl_M_28 rfl (by decide) rfl ?_
      refine x_iload1 G d_M_rest_24 ?_
      refine m_iald s G d_M_rest_25 rfl rfl ⟨hs5, by first | decide | omega⟩ ?_
      rw [show σ 120 s = tH s by rw [m0]]
      refine x_if_ne G d_M_rest_26 (fun c26 => ?_) (fun c26 => ?_)
      · refine x_ldc G d_M_rest_35 kc_M_144 ?_
        exact m_iret E G d_M_rest_37 hx rfl rfl (pi_of (by simp only [fRest, c4, ts, c17, c26, Bool.and_true, Bool.true_and, Bool.and_false, Bool.false_and, Bool.or_true, Bool.true_or, Bool.or_false, Bool.false_or, Bool.not_true, Bool.not_false, Bool.false_eq_true, decide_true, decide_false, if_true, if_false]))
      · refine x_ldcw G d_M_rest_29 kc_M_317 ?_
        refine x_goto G d_M_rest_32 ?_
        exact m_iret E G d_M_rest_37 hx rfl rfl (pi_of (by simp only [fRest, c4, ts, c17, eq_true c26, Bool.and_true, Bool.true_and, Bool.and_false, Bool.false_and, Bool.or_true, Bool.true_or, Bool.or_false, Bool.false_or, Bool.not_true, Bool.not_false, Bool.false_eq_true, decide_true, decide_false, if_true, if_false]))
  · replace c4 := bI_0.mp c4
    refine x_ldc G d_M_rest_7 kc_M_98 ?_
    exact m_iret E G d_M_rest_9 hx rfl rfl (pi_of (by simp only [fRest, c4, Bool.and_true, Bool.true_and, Bool.and_false, Bool.false_and, Bool.or_true, Bool.true_or, Bool.or_false, Bool.false_or, Bool.not_true, Bool.not_false, Bool.false_eq_true, decide_true, decide_false, if_true, if_false]))
theorem p_M_lay (g : CX) (d : Nat) (hd : 4 ≤ d) (σ : Sg) (S : Rw) (hO : MO S σ) (tS tZ tN : Nat → Int32) (h7 : σ 117 = tS) (h8 : σ 118 = tZ) (h10 : σ 119 = tN) (hTS : TO tS tZ) (tH : Nat → Int32) (m0 : σ 120 = tH) (sl th x : Int32) : RunM g d M_lay [.ref 113, .int sl, .int th, .int x] σ (PR (PLM S tS tZ tN sl th x (fLay S tS tH sl th x) σ)) := by
  refine RunM.of 3 (by decide +kernel) rfl ?_
  intro κ hg hx hk0 G E
  subst hg
  have hk : 7 ≤ kn κ := Nat.le_of_eq hk0.symm
  show X κ NC 0 [some (.ref 113), some (.int sl), some (.int th), some (.int x), none, none, none] [] (hv σ)
  obtain ⟨hS, hI, hJ, h9, hab⟩ := hO
  have hn8 := hI.n
  refine x_iload2 G d_M_lay_0 ?_
  refine x_if_eq G d_M_lay_1 (fun c1 => ?_) (fun c1 => ?_)
  · subst c1
    refine x_iconst (v := nI 1) G d_M_lay_34 rfl ?_
    refine x_goto G d_M_lay_35 ?_
    refine x_istore4 G d_M_lay_39 rfl hk ?_
    refine x_iload1 G d_M_lay_41 ?_
    refine m_callS_pi (p_M_isSlo (kg κ) (d - 1) (by omega) _ _) G d_M_lay_42 lk_M_323 (by omega) rfl (Nat.le_of_ble_eq_true rfl) hx ?_
    refine x_if_eq G d_M_lay_45 (fun c45 => ?_) (fun c45 => ?_)
    · replace c45 := bI_0.mp c45
      refine x_ldc G d_M_lay_53 kc_M_98 ?_
      exact m_iret E G d_M_lay_55 hx rfl rfl ⟨_, rfl, PLM.no (by simp only [fLay, show upB ((0 : Int32)) (nI 3) = true from rfl, eq_false (show ¬ (0 : Int32) = nI 1 by decide), eq_false (show ¬ (0 : Int32) = nI 2 by decide), c45, Bool.and_true, Bool.true_and, Bool.and_false, Bool.false_and, Bool.or_true, Bool.true_or, Bool.or_false, Bool.false_or, Bool.not_true, Bool.not_false, Bool.false_eq_true, decide_true, decide_false, if_true, if_false])⟩
    · replace c45 := bI_n0.mp c45
      obtain ⟨s, hs4, ts, rfl⟩ := upB_ex (by decide) c45
      have hs5 : s < 5 := by omega
      refine x_iload4 G d_M_lay_48 ?_
      refine x_if_ne G d_M_lay_50 (fun c50 => ?_) (fun c50 => absurd c50 (by decide))
      refine x_iload2 G d_M_lay_56 ?_
      refine x_iconst (v := nI 2) G d_M_lay_57 rfl ?_
      refine x_icmp_ne G d_M_lay_58 (fun c58 => ?_) (fun c58 => absurd c58 (by decide))
      refine x_aload0 G d_M_lay_74 ?_
      refine m_getr G d_M_lay_75 fl_M_28 rfl (by decide) rfl ?_
      refine x_iload1 G d_M_lay_78 ?_
      refine m_iald s G d_M_lay_79 rfl rfl ⟨hs5, by first | decide | omega⟩ ?_
      rw [show σ 120 s = tH s by rw [m0]]
      refine x_istore5 G d_M_lay_80 rfl hk ?_
      refine x_aload0 G d_M_lay_82 ?_
      refine m_getr G d_M_lay_83 fl_M_28 rfl (by decide) rfl ?_
      refine x_iload1 G d_M_lay_86 ?_
      refine x_iload2 G d_M_lay_87 ?_
      refine m_iast_n s G d_M_lay_88 rfl rfl ⟨hs5, by first | decide | omega⟩ (fun σ1 e1 => ?_)
      refine x_aload0 G d_M_lay_89 ?_
      refine m_getr G d_M_lay_90 fl_M_31 rfl (by decide) rfl ?_
      refine x_iload1 G d_M_lay_93 ?_
      refine x_iload2 G d_M_lay_94 ?_
      refine x_iconst (v := nI 1) G d_M_lay_95 rfl ?_
      refine x_icmp_ne G d_M_lay_96 (fun c96 => ?_) (fun c96 => absurd c96 (by decide))
      refine x_iload3 G d_M_lay_108 ?_
      refine m_iast_n s G d_M_lay_109 rfl rfl ⟨hs5, by first | decide | omega⟩ (fun σ2 e2 => ?_)
      refine x_aload0 G d_M_lay_110 ?_
      refine m_getr G d_M_lay_111 fl_M_34 rfl (by decide) rfl ?_
      refine x_iload1 G d_M_lay_114 ?_
      refine x_iload2 G d_M_lay_115 ?_
      refine x_iconst (v := nI 1) G d_M_lay_116 rfl ?_
      refine x_icmp_ne G d_M_lay_117 (fun c117 => ?_) (fun c117 => absurd c117 (by decide))
      refine x_iconst (v := nI 0) G d_M_lay_128 rfl ?_
      refine m_iast_n s G d_M_lay_129 rfl rfl ⟨hs5, by first | decide | omega⟩ (fun σ3 e3 => ?_)
      refine x_iload2 G d_M_lay_130 ?_
      refine x_iconst (v := nI 2) G d_M_lay_131 rfl ?_
      refine x_icmp_ne G d_M_lay_132 (fun c132 => ?_) (fun c132 => absurd c132 (by decide))
      refine x_iload5 G d_M_lay_187 ?_
      exact m_iret E G d_M_lay_189 hx rfl rfl ⟨_, rfl, PLM.yes (by simp only [fLay, show upB ((0 : Int32)) (nI 3) = true from rfl, eq_false (show ¬ (0 : Int32) = nI 1 by decide), eq_false (show ¬ (0 : Int32) = nI 2 by decide), c45, ts, Bool.and_true, Bool.true_and, Bool.and_false, Bool.false_and, Bool.or_true, Bool.true_or, Bool.or_false, Bool.false_or, Bool.not_true, Bool.not_false, Bool.false_eq_true, decide_true, decide_false, if_true, if_false]) ⟨s, hs5, rfl, (upB_In (by decide)).mp rfl, (by rw [e3, updS_nk (by decide), e2, updS_nk (by decide), e1, updS_row]), (fun z => absurd z (by decide)), (fun z => absurd z (by decide)), (fun z => absurd z (by decide)), (fun s' hs' => ⟨by rw [e3, updS_nk (by decide), e2, updS_ne (by omega), e1, updS_nk (by decide)], by rw [e3, updS_ne (by omega), e2, updS_nk (by decide), e1, updS_nk (by decide)], by rw [e3, updS_nk (by decide), e2, updS_nk (by decide), e1, updS_nk (by decide)]⟩), (fun j hj => by rw [e3, updS_nk (by decide), e2, updS_nk (by decide), e1, updS_nk (by decide)]), (fun c a b d e f => by rw [e3, updS_nk d, e2, updS_nk b, e1, updS_nk a])⟩⟩
  · refine x_iload2 G d_M_lay_4 ?_
    refine x_iconst (v := nI 3) G d_M_lay_5 rfl ?_
    refine x_icmp_eq G d_M_lay_6 (fun c6 => ?_) (fun c6 => ?_)
    · subst c6
      refine x_iconst (v := nI 1) G d_M_lay_34 rfl ?_
      refine x_goto G d_M_lay_35 ?_
      refine x_istore4 G d_M_lay_39 rfl hk ?_
      refine x_iload1 G d_M_lay_41 ?_
      refine m_callS_pi (p_M_isSlo (kg κ) (d - 1) (by omega) _ _) G d_M_lay_42 lk_M_323 (by omega) rfl (Nat.le_of_ble_eq_true rfl) hx ?_
      refine x_if_eq G d_M_lay_45 (fun c45 => ?_) (fun c45 => ?_)
      · replace c45 := bI_0.mp c45
        refine x_ldc G d_M_lay_53 kc_M_98 ?_
        exact m_iret E G d_M_lay_55 hx rfl rfl ⟨_, rfl, PLM.no (by simp only [fLay, c1, show upB (nI 3) (nI 3) = true from rfl, eq_false (show ¬ nI 3 = nI 1 by decide), eq_false (show ¬ nI 3 = nI 2 by decide), c45, Bool.and_true, Bool.true_and, Bool.and_false, Bool.false_and, Bool.or_true, Bool.true_or, Bool.or_false, Bool.false_or, Bool.not_true, Bool.not_false, Bool.false_eq_true, decide_true, decide_false, if_true, if_false])⟩
      · replace c45 := bI_n0.mp c45
        obtain ⟨s, hs4, ts, rfl⟩ := upB_ex (by decide) c45
        have hs5 : s < 5 := by omega
        refine x_iload4 G d_M_lay_48 ?_
        refine x_if_ne G d_M_lay_50 (fun c50 => ?_) (fun c50 => absurd c50 (by decide))
        refine x_iload2 G d_M_lay_56 ?_
        refine x_iconst (v := nI 2) G d_M_lay_57 rfl ?_
        refine x_icmp_ne G d_M_lay_58 (fun c58 => ?_) (fun c58 => absurd c58 (by decide))
        refine x_aload0 G d_M_lay_74 ?_
        refine m_getr G d_M_lay_75 fl_M_28 rfl (by decide) rfl ?_
        refine x_iload1 G d_M_lay_78 ?_
        refine m_iald s G d_M_lay_79 rfl rfl ⟨hs5, by first | decide | omega⟩ ?_
        rw [show σ 120 s = tH s by rw [m0]]
        refine x_istore5 G d_M_lay_80 rfl hk ?_
        refine x_aload0 G d_M_lay_82 ?_
        refine m_getr G d_M_lay_83 fl_M_28 rfl (by decide) rfl ?_
        refine x_iload1 G d_M_lay_86 ?_
        refine x_iload2 G d_M_lay_87 ?_
        refine m_iast_n s G d_M_lay_88 rfl rfl ⟨hs5, by first | decide | omega⟩ (fun σ1 e1 => ?_)
        refine x_aload0 G d_M_lay_89 ?_
        refine m_getr G d_M_lay_90 fl_M_31 rfl (by decide) rfl ?_
        refine x_iload1 G d_M_lay_93 ?_
        refine x_iload2 G d_M_lay_94 ?_
        refine x_iconst (v := nI 1) G d_M_lay_95 rfl ?_
        refine x_icmp_ne G d_M_lay_96 (fun c96 => ?_) (fun c96 => absurd c96 (by decide))
        refine x_iload3 G d_M_lay_108 ?_
        refine m_iast_n s G d_M_lay_109 rfl rfl ⟨hs5, by first | decide | omega⟩ (fun σ2 e2 => ?_)
        refine x_aload0 G d_M_lay_110 ?_
        refine m_getr G d_M_lay_111 fl_M_34 rfl (by decide) rfl ?_
        refine x_iload1 G d_M_lay_114 ?_
        refine x_iload2 G d_M_lay_115 ?_
        refine x_iconst (v := nI 1) G d_M_lay_116 rfl ?_
        refine x_icmp_ne G d_M_lay_117 (fun c117 => ?_) (fun c117 => absurd c117 (by decide))
        refine x_iconst (v := nI 0) G d_M_lay_128 rfl ?_
        refine m_iast_n s G d_M_lay_129 rfl rfl ⟨hs5, by first | decide | omega⟩ (fun σ3 e3 => ?_)
        refine x_iload2 G d_M_lay_130 ?_
        refine x_iconst (v := nI 2) G d_M_lay_131 rfl ?_
        refine x_icmp_ne G d_M_lay_132 (fun c132 => ?_) (fun c132 => absurd c132 (by decide))
        refine x_iload5 G d_M_lay_187 ?_
        exact m_iret E G d_M_lay_189 hx rfl rfl ⟨_, rfl, PLM.yes (by simp only [fLay, c1, show upB (nI 3) (nI 3) = true from rfl, eq_false (show ¬ nI 3 = nI 1 by decide), eq_false (show ¬ nI 3 = nI 2 by decide), c45, ts, Bool.and_true, Bool.true_and, Bool.and_false, Bool.false_and, Bool.or_true, Bool.true_or, Bool.or_false, Bool.false_or, Bool.not_true, Bool.not_false, Bool.false_eq_true, decide_true, decide_false, if_true, if_false]) ⟨s, hs5, rfl, (upB_In (by decide)).mp rfl, (by rw [e3, updS_nk (by decide), e2, updS_nk (by decide), e1, updS_row]), (fun z => absurd z (by decide)), (fun z => absurd z (by decide)), (fun _ => by rw [e3, updS_nk (by decide), e2, updS_at]), (fun s' hs' => ⟨by rw [e3, updS_nk (by decide), e2, updS_ne (by omega), e1, updS_nk (by decide)], by rw [e3, updS_ne (by omega), e2, updS_nk (by decide), e1, updS_nk (by decide)], by rw [e3, updS_nk (by decide), e2, updS_nk (by decide), e1, updS_nk (by decide)]⟩), (fun j hj => by rw [e3, updS_nk (by decide), e2, updS_nk (by decide), e1, updS_nk (by decide)]), (fun c a b d e f => by rw [e3, updS_nk d, e2, updS_nk b, e1, updS_nk a])⟩⟩
    · refine x_iload2 G d_M_lay_9 ?_
      refine x_iconst (v := nI 1) G d_M_lay_10 rfl ?_
      refine x_icmp_ne G d_M_lay_11 (fun c11 => ?_) (fun c11 => ?_)
      · refine x_iload2 G d_M_lay_22 ?_
        refine x_iconst (v := nI 2) G d_M_lay_23 rfl ?_
        refine x_icmp_ne G d_M_lay_24 (fun c24 => ?_) (fun c24 => ?_)
        · have hno := th_no c1 c11 c24 c6
          refine x_iconst (v := nI 0) G d_M_lay_38 rfl ?_
          refine x_istore4 G d_M_lay_39 rfl hk ?_
          refine x_iload1 G d_M_lay_41 ?_
          refine m_callS_pi (p_M_isSlo (kg κ) (d - 1) (by omega) _ _) G d_M_lay_42 lk_M_323 (by omega) rfl (Nat.le_of_ble_eq_true rfl) hx ?_
          refine x_if_eq G d_M_lay_45 (fun c45 => ?_) (fun c45 => ?_)
          · replace c45 := bI_0.mp c45
            refine x_ldc G d_M_lay_53 kc_M_98 ?_
            exact m_iret E G d_M_lay_55 hx rfl rfl ⟨_, rfl, PLM.no (by simp only [fLay, c1, c6, c11, hno, c45, Bool.and_true, Bool.true_and, Bool.and_false, Bool.false_and, Bool.or_true, Bool.true_or, Bool.or_false, Bool.false_or, Bool.not_true, Bool.not_false, Bool.false_eq_true, decide_true, decide_false, if_true, if_false])⟩
          · replace c45 := bI_n0.mp c45
            obtain ⟨s, hs4, ts, rfl⟩ := upB_ex (by decide) c45
            have hs5 : s < 5 := by omega
            refine x_iload4 G d_M_lay_48 ?_
            refine x_if_ne G d_M_lay_50 (fun c50 => absurd (rfl) c50) (fun c50 => ?_)
            refine x_ldc G d_M_lay_53 kc_M_98 ?_
            exact m_iret E G d_M_lay_55 hx rfl rfl ⟨_, rfl, PLM.no (by simp only [fLay, c1, c6, c11, hno, c45, ts, Bool.and_true, Bool.true_and, Bool.and_false, Bool.false_and, Bool.or_true, Bool.true_or, Bool.or_false, Bool.false_or, Bool.not_true, Bool.not_false, Bool.false_eq_true, decide_true, decide_false, if_true, if_false])⟩
        · subst c24
          refine x_iload3 G d_M_lay_27 ?_
          refine m_callS_pi (p_M_isShe (kg κ) (d - 1) (by omega) _ _) G d_M_lay_28 lk_M_311 (by omega) rfl (Nat.le_of_ble_eq_true rfl) hx ?_
          refine x_if_eq G d_M_lay_31 (fun c31 => ?_) (fun c31 => ?_)
          · replace c31 := bI_0.mp c31
            refine x_iconst (v := nI 0) G d_M_lay_38 rfl ?_
            refine x_istore4 G d_M_lay_39 rfl hk ?_
            refine x_iload1 G d_M_lay_41 ?_
            refine m_callS_pi (p_M_isSlo (kg κ) (d - 1) (by omega) _ _) G d_M_lay_42 lk_M_323 (by omega) rfl (Nat.le_of_ble_eq_true rfl) hx ?_
            refine x_if_eq G d_M_lay_45 (fun c45 => ?_) (fun c45 => ?_)
            · replace c45 := bI_0.mp c45
              refine x_ldc G d_M_lay_53 kc_M_98 ?_
              exact m_iret E G d_M_lay_55 hx rfl rfl ⟨_, rfl, PLM.no (by simp only [fLay, c1, c6, c11, show upB (nI 2) (nI 3) = true from rfl, eq_false (show ¬ nI 2 = nI 1 by decide), eq_true (rfl : nI 2 = nI 2), c31, c45, Bool.and_true, Bool.true_and, Bool.and_false, Bool.false_and, Bool.or_true, Bool.true_or, Bool.or_false, Bool.false_or, Bool.not_true, Bool.not_false, Bool.false_eq_true, decide_true, decide_false, if_true, if_false])⟩
            · replace c45 := bI_n0.mp c45
              obtain ⟨s, hs4, ts, rfl⟩ := upB_ex (by decide) c45
              have hs5 : s < 5 := by omega
              refine x_iload4 G d_M_lay_48 ?_
              refine x_if_ne G d_M_lay_50 (fun c50 => absurd (rfl) c50) (fun c50 => ?_)
              refine x_ldc G d_M_lay_53 kc_M_98 ?_
              exact m_iret E G d_M_lay_55 hx rfl rfl ⟨_, rfl, PLM.no (by simp only [fLay, c1, c6, c11, show upB (nI 2) (nI 3) = true from rfl, eq_false (show ¬ nI 2 = nI 1 by decide), eq_true (rfl : nI 2 = nI 2), c31, c45, ts, Bool.and_true, Bool.true_and, Bool.and_false, Bool.false_and, Bool.or_true, Bool.true_or, Bool.or_false, Bool.false_or, Bool.not_true, Bool.not_false, Bool.false_eq_true, decide_true, decide_false, if_true, if_false])⟩
          · replace c31 := bI_n0.mp c31
            obtain ⟨k, hk3, tk, rfl⟩ := upB_ex (by decide) c31
            obtain ⟨hso, hsi⟩ := hTS k (by omega)
            have hsn : tS k < 0 ↔ tS k = -1 := by rcases hso with z | z | z <;> rw [z] <;> decide
            refine x_iconst (v := nI 1) G d_M_lay_34 rfl ?_
            refine x_goto G d_M_lay_35 ?_
            refine x_istore4 G d_M_lay_39 rfl hk ?_
            refine x_iload1 G d_M_lay_41 ?_
            refine m_callS_pi (p_M_isSlo (kg κ) (d - 1) (by omega) _ _) G d_M_lay_42 lk_M_323 (by omega) rfl (Nat.le_of_ble_eq_true rfl) hx ?_
            refine x_if_eq G d_M_lay_45 (fun c45 => ?_) (fun c45 => ?_)
            · replace c45 := bI_0.mp c45
              refine x_ldc G d_M_lay_53 kc_M_98 ?_
              exact m_iret E G d_M_lay_55 hx rfl rfl ⟨_, rfl, PLM.no (by simp only [fLay, c1, c6, c11, show upB (nI 2) (nI 3) = true from rfl, eq_false (show ¬ nI 2 = nI 1 by decide), eq_true (rfl : nI 2 = nI 2), c31, tk, c45, Bool.and_true, Bool.true_and, Bool.and_false, Bool.false_and, Bool.or_true, Bool.true_or, Bool.or_false, Bool.false_or, Bool.not_true, Bool.not_false, Bool.false_eq_true, decide_true, decide_false, if_true, if_false])⟩
            · replace c45 := bI_n0.mp c45
              obtain ⟨s, hs4, ts, rfl⟩ := upB_ex (by decide) c45
              have hs5 : s < 5 := by omega
              refine x_iload4 G d_M_lay_48 ?_
              refine x_if_ne G d_M_lay_50 (fun c50 => ?_) (fun c50 => absurd c50 (by decide))
              refine x_iload2 G d_M_lay_56 ?_
              refine x_iconst (v := nI 2) G d_M_lay_57 rfl ?_
              refine x_icmp_ne G d_M_lay_58 (fun c58 => absurd (rfl) c58) (fun c58 => ?_)
              refine x_aload0 G d_M_lay_61 ?_
              refine m_getr G d_M_lay_62 fl_M_19 rfl (by decide) rfl ?_
              refine x_iload3 G d_M_lay_65 ?_
              refine m_iald k G d_M_lay_66 rfl rfl ⟨by omega, by first | decide | omega⟩ ?_
              rw [show σ 117 k = tS k by rw [h7]]
              refine x_if_ge G d_M_lay_67 (fun c67 => ?_) (fun c67 => ?_)
              · have g67 : ¬ tS k = -1 := fun z => absurd (hsn.mpr z) (Int32.not_lt.mpr c67)
                refine x_aload0 G d_M_lay_74 ?_
                refine m_getr G d_M_lay_75 fl_M_28 rfl (by decide) rfl ?_
                refine x_iload1 G d_M_lay_78 ?_
                refine m_iald s G d_M_lay_79 rfl rfl ⟨hs5, by first | decide | omega⟩ ?_
                rw [show σ 120 s = tH s by rw [m0]]
                refine x_istore5 G d_M_lay_80 rfl hk ?_
                refine x_aload0 G d_M_lay_82 ?_
                refine m_getr G d_M_lay_83 fl_M_28 rfl (by decide) rfl ?_
                refine x_iload1 G d_M_lay_86 ?_
                refine x_iload2 G d_M_lay_87 ?_
                refine m_iast_n s G d_M_lay_88 rfl rfl ⟨hs5, by first | decide | omega⟩ (fun σ1 e1 => ?_)
                refine x_aload0 G d_M_lay_89 ?_
                refine m_getr G d_M_lay_90 fl_M_31 rfl (by decide) rfl ?_
                refine x_iload1 G d_M_lay_93 ?_
                refine x_iload2 G d_M_lay_94 ?_
                refine x_iconst (v := nI 1) G d_M_lay_95 rfl ?_
                refine x_icmp_ne G d_M_lay_96 (fun c96 => ?_) (fun c96 => absurd c96 (by decide))
                refine x_iload3 G d_M_lay_108 ?_
                refine m_iast_n s G d_M_lay_109 rfl rfl ⟨hs5, by first | decide | omega⟩ (fun σ2 e2 => ?_)
                refine x_aload0 G d_M_lay_110 ?_
                refine m_getr G d_M_lay_111 fl_M_34 rfl (by decide) rfl ?_
                refine x_iload1 G d_M_lay_114 ?_
                refine x_iload2 G d_M_lay_115 ?_
                refine x_iconst (v := nI 1) G d_M_lay_116 rfl ?_
                refine x_icmp_ne G d_M_lay_117 (fun c117 => ?_) (fun c117 => absurd c117 (by decide))
                refine x_iconst (v := nI 0) G d_M_lay_128 rfl ?_
                refine m_iast_n s G d_M_lay_129 rfl rfl ⟨hs5, by first | decide | omega⟩ (fun σ3 e3 => ?_)
                refine x_iload2 G d_M_lay_130 ?_
                refine x_iconst (v := nI 2) G d_M_lay_131 rfl ?_
                refine x_icmp_ne G d_M_lay_132 (fun c132 => absurd (rfl) c132) (fun c132 => ?_)
                refine x_aload0 G d_M_lay_135 ?_
                refine m_getr G d_M_lay_136 fl_M_37 rfl (by decide) rfl ?_
                refine x_iload1 G d_M_lay_139 ?_
                refine x_aload0 G d_M_lay_140 ?_
                refine m_getr G d_M_lay_141 fl_M_22 rfl (by decide) rfl ?_
                refine x_iload3 G d_M_lay_144 ?_
                refine m_iald k G d_M_lay_145 rfl rfl ⟨by omega, by first | decide | omega⟩ ?_
                rw [show σ3 118 k = tZ k by rw [e3, updS_nk (by decide), e2, updS_nk (by decide), e1, updS_nk (by decide), h8]]
                refine m_iast_n s G d_M_lay_146 rfl rfl ⟨hs5, by first | decide | omega⟩ (fun σ5 e5 => ?_)
                refine x_iconst (v := nI 0) G d_M_lay_147 rfl ?_
                refine x_istore6 G d_M_lay_148 rfl hk ?_
                have hloop : ∀ (z i : Nat) (σ6 : Sg), i ≤ 24 → 24 < i + z → σ6 123 s = tZ k → (∀ q, q < i → σ6 124 (24 * s + q) = shV tN k q) → (∀ j, (j < 24 * s ∨ 24 * s + 24 ≤ j) → σ6 124 j = σ 124 j) → (∀ c, c ≠ 123 → c ≠ 124 → σ6 c = σ3 c) → (∀ s', s' ≠ s → σ6 123 s' = σ 123 s') → X κ NC 150 [some (.ref 113), some (.int (nI s)), some (.int (nI 2)), some (.int (nI k)), some (.int (nI 1)), some (.int (tH s)), some (.int (nI i))] [] (hv σ6) := by
                  intro z
                  induction z with
                  | zero => intro i σ6 h1 h2; omega
                  | succ z ih =>
                    intro i σ4 hi1 hi2 q1 q2 q3 q4 q5
                    refine x_iload6 G d_M_lay_150 ?_
                    refine x_bipush (v := nI 24) G d_M_lay_152 rfl ?_
                    refine x_icmp_ge G d_M_lay_154 (fun c154 => ?_) (fun c154 => ?_)
                    · have hi24 : i = 24 := by rw [nle (by omega) (by omega)] at c154; omega
                      refine x_iload5 G d_M_lay_187 ?_
                      exact m_iret E G d_M_lay_189 hx rfl rfl ⟨_, rfl, PLM.yes (by simp only [fLay, c1, c6, c11, show upB (nI 2) (nI 3) = true from rfl, eq_false (show ¬ nI 2 = nI 1 by decide), eq_true (rfl : nI 2 = nI 2), c31, tk, c45, ts, g67, Bool.and_true, Bool.true_and, Bool.and_false, Bool.false_and, Bool.or_true, Bool.true_or, Bool.or_false, Bool.false_or, Bool.not_true, Bool.not_false, Bool.false_eq_true, decide_true, decide_false, if_true, if_false]) ⟨s, hs5, rfl, (upB_In (by decide)).mp rfl, (by rw [q4 120 (by decide) (by decide), e3, updS_nk (by decide), e2, updS_nk (by decide), e1, updS_row]), (fun z => absurd z (by decide)), (fun _ => ⟨k, by omega, rfl, q1, fun i hi => q2 i (by omega)⟩), (fun z => absurd z (by decide)), (fun s' hs' => ⟨by rw [q4 121 (by decide) (by decide), e3, updS_nk (by decide), e2, updS_ne (by omega), e1, updS_nk (by decide)], by rw [q4 122 (by decide) (by decide), e3, updS_ne (by omega), e2, updS_nk (by decide), e1, updS_nk (by decide)], q5 s' hs'⟩), (fun j hj => q3 j hj), (fun c a b d e f => by rw [q4 c e f, e3, updS_nk d, e2, updS_nk b, e1, updS_nk a])⟩⟩
                    · have hi24 : i < 24 := by rw [nle (by omega) (by omega)] at c154; omega
                      refine x_aload0 G d_M_lay_157 ?_
                      refine m_getr G d_M_lay_158 fl_M_40 rfl (by decide) rfl ?_
                      refine x_bipush (v := nI 24) G d_M_lay_161 rfl ?_
                      refine x_iload1 G d_M_lay_163 ?_
                      refine x_imul G d_M_lay_164 ?_
                      refine x_iload6 G d_M_lay_165 ?_
                      refine x_iadd G d_M_lay_167 ?_
                      refine x_aload0 G d_M_lay_168 ?_
                      refine m_getr G d_M_lay_169 fl_M_25 rfl (by decide) rfl ?_
                      refine x_bipush (v := nI 24) G d_M_lay_172 rfl ?_
                      refine x_iload3 G d_M_lay_174 ?_
                      refine x_imul G d_M_lay_175 ?_
                      refine x_iload6 G d_M_lay_176 ?_
                      refine x_iadd G d_M_lay_178 ?_
                      refine m_iald (24 * k + i) G d_M_lay_179 rfl (by simp only [pk_mul, nI_add]) ⟨by omega, by first | decide | omega⟩ ?_
                      rw [show σ4 119 (24 * k + i) = shV tN k i by rw [q4 119 (by decide) (by decide), e3, updS_nk (by decide), e2, updS_nk (by decide), e1, updS_nk (by decide), h10]; rfl]
                      refine m_iast_n (24 * s + i) G d_M_lay_180 rfl (by simp only [pk_mul, nI_add]) ⟨by omega, by first | decide | omega⟩ (fun σ7 e7 => ?_)
                      refine x_iinc6 (v := nI (i + 1)) G d_M_lay_181 rfl hk (nI_1 _) ?_
                      refine x_goto G d_M_lay_184 ?_
                      exact ih (i + 1) σ7 (by omega) (by omega) (by rw [e7, updS_nk (by decide)]; exact q1) (fun q hq => if e : q = i then (by rw [e, e7, updS_at]) else (by rw [e7, updS_ne (by omega)]; exact q2 q (by omega))) (fun j hj => by rw [e7, updS_ne (by omega)]; exact q3 j hj) (fun c a b => by rw [e7, updS_nk b]; exact q4 c a b) (fun s' hs' => by rw [e7, updS_nk (by decide)]; exact q5 s' hs')
                exact hloop 25 0 σ5 (by decide) (by decide) (by rw [e5, updS_at]) (fun q hq => absurd hq (Nat.not_lt_zero q)) (fun j _ => by rw [e5, updS_nk (by decide), e3, updS_nk (by decide), e2, updS_nk (by decide), e1, updS_nk (by decide)]) (fun c a _ => by rw [e5, updS_nk a]) (fun s' hs' => by rw [e5, updS_ne (by omega), e3, updS_nk (by decide), e2, updS_nk (by decide), e1, updS_nk (by decide)])
              · have g67 : tS k = -1 := hsn.mp (Int32.not_le.mp c67)
                refine x_ldcw G d_M_lay_70 kc_M_317 ?_
                exact m_iret E G d_M_lay_73 hx rfl rfl ⟨_, rfl, PLM.no (by simp only [fLay, c1, c6, c11, show upB (nI 2) (nI 3) = true from rfl, eq_false (show ¬ nI 2 = nI 1 by decide), eq_true (rfl : nI 2 = nI 2), c31, tk, c45, ts, eq_true g67, Bool.and_true, Bool.true_and, Bool.and_false, Bool.false_and, Bool.or_true, Bool.true_or, Bool.or_false, Bool.false_or, Bool.not_true, Bool.not_false, Bool.false_eq_true, decide_true, decide_false, if_true, if_false])⟩
      · subst c11
        refine x_aload0 G d_M_lay_14 ?_
        refine x_iload3 G d_M_lay_15 ?_
        refine m_callV_pi (p_M_isOn (kg κ) (d - 1) (by omega) _ S hS hI _) G d_M_lay_16 lk_M_126 rfl ⟨by decide, rfl⟩ (by decide) (by omega) rfl (Nat.le_of_ble_eq_true rfl) hx ?_
        refine x_if_ne G d_M_lay_19 (fun c19 => ?_) (fun c19 => ?_)
        · replace c19 := bI_n0.mp c19
          obtain ⟨p, hp, hpn, tp, rfl⟩ := one_ex hI c19
          refine x_iconst (v := nI 1) G d_M_lay_34 rfl ?_
          refine x_goto G d_M_lay_35 ?_
          refine x_istore4 G d_M_lay_39 rfl hk ?_
          refine x_iload1 G d_M_lay_41 ?_
          refine m_callS_pi (p_M_isSlo (kg κ) (d - 1) (by omega) _ _) G d_M_lay_42 lk_M_323 (by omega) rfl (Nat.le_of_ble_eq_true rfl) hx ?_
          refine x_if_eq G d_M_lay_45 (fun c45 => ?_) (fun c45 => ?_)
          · replace c45 := bI_0.mp c45
            refine x_ldc G d_M_lay_53 kc_M_98 ?_
            exact m_iret E G d_M_lay_55 hx rfl rfl ⟨_, rfl, PLM.no (by simp only [fLay, c1, c6, show upB (nI 1) (nI 3) = true from rfl, eq_true (rfl : nI 1 = nI 1), eq_false (show ¬ nI 1 = nI 2 by decide), c19, tp, c45, Bool.and_true, Bool.true_and, Bool.and_false, Bool.false_and, Bool.or_true, Bool.true_or, Bool.or_false, Bool.false_or, Bool.not_true, Bool.not_false, Bool.false_eq_true, decide_true, decide_false, if_true, if_false])⟩
          · replace c45 := bI_n0.mp c45
            obtain ⟨s, hs4, ts, rfl⟩ := upB_ex (by decide) c45
            have hs5 : s < 5 := by omega
            refine x_iload4 G d_M_lay_48 ?_
            refine x_if_ne G d_M_lay_50 (fun c50 => ?_) (fun c50 => absurd c50 (by decide))
            refine x_iload2 G d_M_lay_56 ?_
            refine x_iconst (v := nI 2) G d_M_lay_57 rfl ?_
            refine x_icmp_ne G d_M_lay_58 (fun c58 => ?_) (fun c58 => absurd c58 (by decide))
            refine x_aload0 G d_M_lay_74 ?_
            refine m_getr G d_M_lay_75 fl_M_28 rfl (by decide) rfl ?_
            refine x_iload1 G d_M_lay_78 ?_
            refine m_iald s G d_M_lay_79 rfl rfl ⟨hs5, by first | decide | omega⟩ ?_
            rw [show σ 120 s = tH s by rw [m0]]
            refine x_istore5 G d_M_lay_80 rfl hk ?_
            refine x_aload0 G d_M_lay_82 ?_
            refine m_getr G d_M_lay_83 fl_M_28 rfl (by decide) rfl ?_
            refine x_iload1 G d_M_lay_86 ?_
            refine x_iload2 G d_M_lay_87 ?_
            refine m_iast_n s G d_M_lay_88 rfl rfl ⟨hs5, by first | decide | omega⟩ (fun σ1 e1 => ?_)
            refine x_aload0 G d_M_lay_89 ?_
            refine m_getr G d_M_lay_90 fl_M_31 rfl (by decide) rfl ?_
            refine x_iload1 G d_M_lay_93 ?_
            refine x_iload2 G d_M_lay_94 ?_
            refine x_iconst (v := nI 1) G d_M_lay_95 rfl ?_
            refine x_icmp_ne G d_M_lay_96 (fun c96 => absurd (rfl) c96) (fun c96 => ?_)
            refine x_aload0 G d_M_lay_99 ?_
            refine x_iload3 G d_M_lay_100 ?_
            refine x_iconst (v := nI 0) G d_M_lay_101 rfl ?_
            refine m_callV_pi (p_M_ofS (kg κ) (d - 1) σ1 S (by rw [e1, updS_nk (by decide)]; exact hS) _ _ (by omega) (by decide)) G d_M_lay_102 lk_M_107 rfl ⟨by decide, rfl⟩ (by decide) (by omega) rfl (Nat.le_of_ble_eq_true rfl) hx ?_
            refine x_goto G d_M_lay_105 ?_
            refine m_iast_n s G d_M_lay_109 rfl rfl ⟨hs5, by first | decide | omega⟩ (fun σ2 e2 => ?_)
            refine x_aload0 G d_M_lay_110 ?_
            refine m_getr G d_M_lay_111 fl_M_34 rfl (by decide) rfl ?_
            refine x_iload1 G d_M_lay_114 ?_
            refine x_iload2 G d_M_lay_115 ?_
            refine x_iconst (v := nI 1) G d_M_lay_116 rfl ?_
            refine x_icmp_ne G d_M_lay_117 (fun c117 => absurd (rfl) c117) (fun c117 => ?_)
            refine x_aload0 G d_M_lay_120 ?_
            refine x_iload3 G d_M_lay_121 ?_
            refine m_callV_pi (p_M_worth (kg κ) (d - 1) (by omega) σ2 S (by rw [e2, updS_nk (by decide), e1, updS_nk (by decide)]; exact hS) hI p (by omega)) G d_M_lay_122 lk_M_131 rfl ⟨by decide, rfl⟩ (by decide) (by omega) rfl (Nat.le_of_ble_eq_true rfl) hx ?_
            refine x_goto G d_M_lay_125 ?_
            refine m_iast_n s G d_M_lay_129 rfl rfl ⟨hs5, by first | decide | omega⟩ (fun σ3 e3 => ?_)
            refine x_iload2 G d_M_lay_130 ?_
            refine x_iconst (v := nI 2) G d_M_lay_131 rfl ?_
            refine x_icmp_ne G d_M_lay_132 (fun c132 => ?_) (fun c132 => absurd c132 (by decide))
            refine x_iload5 G d_M_lay_187 ?_
            exact m_iret E G d_M_lay_189 hx rfl rfl ⟨_, rfl, PLM.yes (by simp only [fLay, c1, c6, show upB (nI 1) (nI 3) = true from rfl, eq_true (rfl : nI 1 = nI 1), eq_false (show ¬ nI 1 = nI 2 by decide), c19, tp, c45, ts, Bool.and_true, Bool.true_and, Bool.and_false, Bool.false_and, Bool.or_true, Bool.true_or, Bool.or_false, Bool.false_or, Bool.not_true, Bool.not_false, Bool.false_eq_true, decide_true, decide_false, if_true, if_false]) ⟨s, hs5, rfl, (upB_In (by decide)).mp rfl, (by rw [e3, updS_nk (by decide), e2, updS_nk (by decide), e1, updS_row]), (fun _ => ⟨p, hp, rfl, by rw [e3, updS_nk (by decide), e2, updS_at], by rw [e3, updS_at]⟩), (fun z => absurd z (by decide)), (fun z => absurd z (by decide)), (fun s' hs' => ⟨by rw [e3, updS_nk (by decide), e2, updS_ne (by omega), e1, updS_nk (by decide)], by rw [e3, updS_ne (by omega), e2, updS_nk (by decide), e1, updS_nk (by decide)], by rw [e3, updS_nk (by decide), e2, updS_nk (by decide), e1, updS_nk (by decide)]⟩), (fun j hj => by rw [e3, updS_nk (by decide), e2, updS_nk (by decide), e1, updS_nk (by decide)]), (fun c a b d e f => by rw [e3, updS_nk d, e2, updS_nk b, e1, updS_nk a])⟩⟩
        · replace c19 := bI_0.mp c19
          refine x_iload2 G d_M_lay_22 ?_
          refine x_iconst (v := nI 2) G d_M_lay_23 rfl ?_
          refine x_icmp_ne G d_M_lay_24 (fun c24 => ?_) (fun c24 => absurd c24 (by decide))
          refine x_iconst (v := nI 0) G d_M_lay_38 rfl ?_
          refine x_istore4 G d_M_lay_39 rfl hk ?_
          refine x_iload1 G d_M_lay_41 ?_
          refine m_callS_pi (p_M_isSlo (kg κ) (d - 1) (by omega) _ _) G d_M_lay_42 lk_M_323 (by omega) rfl (Nat.le_of_ble_eq_true rfl) hx ?_
          refine x_if_eq G d_M_lay_45 (fun c45 => ?_) (fun c45 => ?_)
          · replace c45 := bI_0.mp c45
            refine x_ldc G d_M_lay_53 kc_M_98 ?_
            exact m_iret E G d_M_lay_55 hx rfl rfl ⟨_, rfl, PLM.no (by simp only [fLay, c1, c6, show upB (nI 1) (nI 3) = true from rfl, eq_true (rfl : nI 1 = nI 1), eq_false (show ¬ nI 1 = nI 2 by decide), c19, c45, Bool.and_true, Bool.true_and, Bool.and_false, Bool.false_and, Bool.or_true, Bool.true_or, Bool.or_false, Bool.false_or, Bool.not_true, Bool.not_false, Bool.false_eq_true, decide_true, decide_false, if_true, if_false])⟩
          · replace c45 := bI_n0.mp c45
            obtain ⟨s, hs4, ts, rfl⟩ := upB_ex (by decide) c45
            have hs5 : s < 5 := by omega
            refine x_iload4 G d_M_lay_48 ?_
            refine x_if_ne G d_M_lay_50 (fun c50 => absurd (rfl) c50) (fun c50 => ?_)
            refine x_ldc G d_M_lay_53 kc_M_98 ?_
            exact m_iret E G d_M_lay_55 hx rfl rfl ⟨_, rfl, PLM.no (by simp only [fLay, c1, c6, show upB (nI 1) (nI 3) = true from rfl, eq_true (rfl : nI 1 = nI 1), eq_false (show ¬ nI 1 = nI 2 by decide), c19, c45, ts, Bool.and_true, Bool.true_and, Bool.and_false, Bool.false_and, Bool.or_true, Bool.true_or, Bool.or_false, Bool.false_or, Bool.not_true, Bool.not_false, Bool.false_eq_true, decide_true, decide_false, if_true, if_false])⟩
