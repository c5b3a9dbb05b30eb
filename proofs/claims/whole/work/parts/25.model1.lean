/-! calls about people and fields: the model's side -/
/-- what a call of the model may write: its row, where all stand, and what lies beside for a while -/
def OutN (σ σ' : Sg) : Prop := ∀ k, k ≠ 114 → k ≠ 116 → k ≠ 125 → k ≠ 126 → k ≠ 127 → k ≠ 128 → k ≠ 130 → k ≠ 131 → k ≠ 132 → k ≠ 134 → σ' k = σ k
theorem OutN.refl {σ : Sg} : OutN σ σ := fun _ _ _ _ _ _ _ _ _ _ _ => rfl
theorem OutN.trans {σ σ' σ'' : Sg} (h : OutN σ σ') (h2 : OutN σ' σ'') : OutN σ σ'' := fun k a b c d e f g i j l => (h2 k a b c d e f g i j l).trans (h k a b c d e f g i j l)
theorem OutN.of {σ σ' : Sg} (h : OutM σ σ') : OutN σ σ' := fun k a _ c _ _ _ g i _ _ => h k a c g i
theorem OutN.of2 {σ σ' : Sg} (h : OutW2 σ σ') : OutN σ σ' := fun k a _ c _ _ _ g i _ _ => h k g i
theorem OutN.upd {σ σ' : Sg} (h : OutN σ σ') {k j : Nat} {x : Int32} (hk : k = 114 ∨ k = 116 ∨ k = 125 ∨ k = 126 ∨ k = 127 ∨ k = 128 ∨ k = 130 ∨ k = 131 ∨ k = 132 ∨ k = 134) : OutN σ (updS σ' k j x) := fun a _ _ _ _ _ _ _ _ _ _ => by
  rw [updS_nk (by omega)]; apply h <;> assumption
/-- a call of the model about the row -/
def MC (f : Int32 × Rw) (σ : Sg) : Int32 → Sg → Prop := fun v σ1 => v = f.1 ∧ σ1 114 = f.2 ∧ OutN σ σ1
def MO (S : Rw) (σ : Sg) : Prop := σ 114 = S ∧ Inv S ∧ Inv2 S ∧ In (S 2) 9999 ∧ σ 113 13 = -1
theorem MC.same {S : Rw} {f : Int32 × Rw} {σ : Sg} {v : Int32} (hS : σ 114 = S) (h : f = (v, S)) : MC f σ v σ := by rw [h]; exact ⟨rfl, hS, OutN.refl⟩
theorem MC.mk' {S1 : Rw} {f : Int32 × Rw} {σ σ1 : Sg} {v v1 : Int32} (h : f = (v1, S1)) (hv1 : v = v1) (hR : σ1 114 = S1) (hO : OutN σ σ1) : MC f σ v σ1 := by rw [h]; exact ⟨hv1, hR, hO⟩
theorem p_M_isUp (g : CX) (d : Nat) (σ : Sg) (x : Int32) (m : Nat) (a b c : Int64) (ha : a = x.toInt64) (hb : b = (0 : Int32).toInt64) (hc : c = (nI m).toInt64) : RunM g d M_isIn [.long a, .long b, .long c] σ (PI (bI (upB x (nI m))) σ) := by
  rw [upB_in]; exact p_M_isIn g d (Nat.zero_le _) σ x 0 (nI m) a b c ha hb hc
theorem p_M_isFi (g : CX) (d : Nat) (σ : Sg) (x : Int32) : RunM g d M_isField [.int x] σ (PI (bI (upB x (nI 8))) σ) := by
  rw [upB_O (by decide)]; exact p_M_isField g d (Nat.zero_le _) σ x
theorem p_M_isOn (g : CX) (d : Nat) (hd : 1 ≤ d) (σ : Sg) (S : Rw) (hS : σ 114 = S) (hI : Inv S) (x : Int32) : RunM g d M_isOne [.ref 113, .int x] σ (PI (bI (isO (S 0) x)) σ) := by
  have h := hI.n
  rw [h.1]; exact p_M_isOne g d hd σ _ (by rw [hS]; exact h.1) h.2 x
theorem p_M_ofS (g : CX) (d : Nat) (σ : Sg) (S : Rw) (hS : σ 114 = S) (p k : Nat) (hp : p < 8) (hk7 : k < 7) : RunM g d M_of [.ref 113, .int (nI p), .int (nI k)] σ (PI (S (ixP p k)) σ) := by
  subst hS; exact p_M_of g d (Nat.zero_le _) σ p k hp hk7
theorem p_M_inS (g : CX) (d : Nat) (σ : Sg) (S : Rw) (hS : σ 114 = S) (f k : Nat) (hf : f < 9) (hk3 : k < 3) : RunM g d M_in [.ref 113, .int (nI f), .int (nI k)] σ (PI (S (ixF f k)) σ) := by
  subst hS; exact p_M_in g d (Nat.zero_le _) σ f k hf hk3
theorem p_M_becomesE (g : CX) (d : Nat) (σ : Sg) (S : Rw) (hS : σ 114 = S) (i : Int32) (j : Nat) (hi : i = nI j) (hj : j < 3090) (v : Int32) : RunM g d M_becomes [.ref 113, .int i, .int v] σ (PI (S j) (updS σ 114 j v)) := by
  subst hS; subst hi; exact p_M_becomes g d (Nat.zero_le _) σ j hj v
theorem sumN_zero {f : Nat → Int32} {n : Nat} : ∀ m, (∀ i, n ≤ i → i < n + m → f i = 0) → sumN f (n + m) = sumN f n
  | 0, _ => rfl
  | m + 1, h => by
    show sumN f (n + m) + f (n + m) = _
    rw [sumN_zero m (fun i a b => h i a (by omega)), h (n + m) (by omega) (by omega)]
    exact Int32.add_zero _
theorem sumN_n8 {f : Nat → Int32} {n : Nat} (hn : n ≤ 8) (h : ∀ i, n ≤ i → i < 8 → f i = 0) : sumN f n = sumN f 8 := by
  have := sumN_zero (f := f) (n := n) (8 - n) (fun i a b => h i a (by omega))
  rw [show n + (8 - n) = 8 by omega] at this
  exact this.symm
theorem row_set {σ : Sg} {S : Rw} (hS : σ 114 = S) (j : Nat) (x : Int32) : updS σ 114 j x 114 = upd S j x := by rw [updS_row, hS]
theorem p_M_comes (g : CX) (d : Nat) (hd : 1 ≤ d) (σ : Sg) (S : Rw) (hS : σ 114 = S) (hI : Inv S) (hJ : Inv2 S) (hlt : tn (S 0) < 8) (k h i0 : Int32) : RunM g d M_comes [.ref 113, .int k, .int h, .int i0] σ (PV (fun σ1 => σ1 114 = (fCome S k h i0).2 ∧ OutN σ σ1)) := by
  refine RunM.of 2 (by decide +kernel) rfl ?_
  intro κ hg hx hk0 G E
  subst hg
  have hk : 6 ≤ kn κ := Nat.le_of_eq hk0.symm
  show X κ NC 0 [some (.ref 113), some (.int k), some (.int h), some (.int i0), none, none] [] (hv σ)
  have hn8 := hI.n
  refine x_aload0 G d_M_comes_0 ?_
  refine m_getr G d_M_comes_1 fl_M_7 rfl (by decide) rfl ?_
  refine x_iconst (v := nI 0) G d_M_comes_4 rfl ?_
  refine m_iald 0 G d_M_comes_5 rfl rfl ⟨by omega, by first | decide | omega⟩ ?_
  rw [show σ 114 0 = nI (tn (S 0)) by rw [hS]; exact hn8.1]
  refine x_istore4 G d_M_comes_6 rfl hk ?_
  refine x_aload0 G d_M_comes_8 ?_
  refine m_getr G d_M_comes_9 fl_M_7 rfl (by decide) rfl ?_
  refine x_iconst (v := nI 0) G d_M_comes_12 rfl ?_
  refine x_dup2 G d_M_comes_13 rfl rfl ?_
  refine m_iald 0 G d_M_comes_14 rfl rfl ⟨by omega, by first | decide | omega⟩ ?_
  rw [show σ 114 0 = nI (tn (S 0)) by rw [hS]; exact hn8.1]
  refine x_iconst (v := nI 1) G d_M_comes_15 rfl ?_
  refine x_iadd G d_M_comes_16 ?_
  refine m_iast_n 0 G d_M_comes_17 rfl rfl ⟨by omega, by first | decide | omega⟩ (fun σ2 e2 => ?_)
  replace e2 : σ2 = updS σ 114 0 (nI (tn (S 0) + 1)) := by rw [e2, ← nI_1 (tn (S 0))]; rfl
  refine x_aload0 G d_M_comes_18 ?_
  refine x_iload4 G d_M_comes_19 ?_
  refine x_iconst (v := nI 0) G d_M_comes_21 rfl ?_
  refine x_iload1 G d_M_comes_22 ?_
  refine m_callV_pv (p_M_sets (kg κ) (d - 1) (by omega) σ2 (tn (S 0)) 0 (by omega) (by decide) _) G d_M_comes_23 lk_M_87 rfl ⟨by decide, rfl⟩ (by decide) (by omega) rfl (Nat.le_of_ble_eq_true rfl) hx (fun σ3 e3 => ?_)
  refine x_aload0 G d_M_comes_26 ?_
  refine x_iload4 G d_M_comes_27 ?_
  refine x_iconst (v := nI 1) G d_M_comes_29 rfl ?_
  refine x_iload2 G d_M_comes_30 ?_
  refine m_callV_pv (p_M_sets (kg κ) (d - 1) (by omega) σ3 (tn (S 0)) 1 (by omega) (by decide) _) G d_M_comes_31 lk_M_87 rfl ⟨by decide, rfl⟩ (by decide) (by omega) rfl (Nat.le_of_ble_eq_true rfl) hx (fun σ4 e4 => ?_)
  refine x_aload0 G d_M_comes_34 ?_
  refine x_iload4 G d_M_comes_35 ?_
  refine x_iconst (v := nI 2) G d_M_comes_37 rfl ?_
  refine x_iload3 G d_M_comes_38 ?_
  refine m_callV_pv (p_M_sets (kg κ) (d - 1) (by omega) σ4 (tn (S 0)) 2 (by omega) (by decide) _) G d_M_comes_39 lk_M_87 rfl ⟨by decide, rfl⟩ (by decide) (by omega) rfl (Nat.le_of_ble_eq_true rfl) hx (fun σ5 e5 => ?_)
  refine x_iconst (v := nI 3) G d_M_comes_42 rfl ?_
  refine x_istore5 G d_M_comes_43 rfl hk ?_
  have hloop : ∀ (m i : Nat) (σ1 : Sg), i ≤ 7 → 3 ≤ i → 7 < i + m → σ1 114 = (fCome S k h i0).2 → OutN σ σ1 → X κ NC 45 [some (.ref 113), some (.int k), some (.int h), some (.int i0), some (.int (nI (tn (S 0)))), some (.int (nI i))] [] (hv σ1) := by
    intro m
    induction m with
    | zero => intro i σ1 h1 h2; omega
    | succ m ih =>
      intro i σ1 hi1 hi3 hi2 hR1 hO1
      refine x_iload5 G d_M_comes_45 ?_
      refine x_bipush (v := nI 6) G d_M_comes_47 rfl ?_
      refine x_icmp_gt G d_M_comes_49 (fun c49 => ?_) (fun c49 => ?_)
      · have hi7 : i = 7 := by have c := Int32.lt_iff_toInt_lt.mp c49; rw [nI_toInt (by decide), nI_toInt (by omega)] at c; omega
        exact m_vret E G d_M_comes_67 hx rfl ⟨rfl, hR1, hO1⟩
      · have hi7 : i < 7 := by rcases Nat.lt_or_ge i 7 with q | q; exact q; exact absurd ((nlt (by decide) (by omega)).mpr (show 6 < i by omega)) c49
        refine x_aload0 G d_M_comes_52 ?_
        refine x_iload4 G d_M_comes_53 ?_
        refine x_iload5 G d_M_comes_55 ?_
        refine x_iconst (v := nI 0) G d_M_comes_57 rfl ?_
        refine m_callV_pv (p_M_sets (kg κ) (d - 1) (by omega) σ1 (tn (S 0)) i (by omega) (by omega) _) G d_M_comes_58 lk_M_87 rfl ⟨by decide, rfl⟩ (by decide) (by omega) rfl (Nat.le_of_ble_eq_true rfl) hx (fun σ2 e2 => ?_)
        have hR2 : σ2 114 = (fCome S k h i0).2 := by
          rw [e2, updS_row, hR1]
          apply upd_self
          unfold fCome
          rw [if_pos hlt]
          dsimp only
          rw [pk_un (by unfold ixP; omega), pk_un (by unfold ixP; omega), pk_un (by unfold ixP; omega), pk_un (by unfold ixP; omega)]
          have hz := hJ.2.2 (tn (S 0)) (Nat.le_refl _) hlt
          have : i = 3 ∨ i = 4 ∨ i = 5 ∨ i = 6 := by omega
          rcases this with rfl | rfl | rfl | rfl
          · exact hz.1
          · exact hz.2.1
          · exact hz.2.2.1
          · exact hz.2.2.2
        have hO2 : OutN σ σ2 := by rw [e2]; exact hO1.upd (by omega)
        refine x_iinc5 (v := nI (i + 1)) G d_M_comes_61 rfl hk (nI_1 _) ?_
        refine x_goto G d_M_comes_64 ?_
        exact ih (i + 1) _ (by omega) (by omega) (by omega) hR2 hO2
  refine hloop 10 3 σ5 (by decide) (by decide) (by decide) ?_ (by rw [e5, e4, e3, e2]; exact (((OutN.refl.upd (by omega)).upd (by omega)).upd (by omega)).upd (by omega))
  rw [e5, updS_row, e4, updS_row, e3, updS_row, e2, updS_row, hS]
  unfold fCome
  rw [if_pos hlt]
  funext q
  by_cases q0 : q = 0
  · rw [q0, pk_un (by unfold ixP; omega), pk_un (by unfold ixP; omega), pk_un (by unfold ixP; omega), pk_us]
    dsimp only
    rw [pk_us]
  · simp only [upd, q0, if_false]
theorem p_M_person (g : CX) (d : Nat) (hd : 2 ≤ d) (σ : Sg) (S : Rw) (hO : MO S σ) (k h i : Int32) : RunM g d M_person [.ref 113, .int k, .int h, .int i] σ (PR (MC (fPerson S k h i) σ)) := by
  refine RunM.of 0 (by decide +kernel) rfl ?_
  intro κ hg hx hk0 G E
  subst hg
  have hk : 4 ≤ kn κ := Nat.le_of_eq hk0.symm
  show X κ NC 0 [some (.ref 113), some (.int k), some (.int h), some (.int i)] [] (hv σ)
  obtain ⟨hS, hI, hJ, h9, hab⟩ := hO
  have hn8 := hI.n
  refine x_iload1 G d_M_person_0 ?_
  refine x_i2l G d_M_person_1 ?_
  refine x_lconst (v := 0) G d_M_person_2 rfl ?_
  refine x_ldc2 G d_M_person_3 kc_M_90 ?_
  refine m_callS_pi (p_M_isUp (kg κ) (d - 1) _ _ 5 _ _ _ rfl (by decide +kernel) (by decide +kernel)) G d_M_person_6 lk_M_82 (by omega) rfl (Nat.le_of_ble_eq_true rfl) hx ?_
  refine x_if_eq G d_M_person_9 (fun c9 => ?_) (fun c9 => ?_)
  · replace c9 := bI_0.mp c9
    refine x_ldc G d_M_person_31 kc_M_98 ?_
    exact m_iret E G d_M_person_33 hx rfl rfl ⟨_, rfl, MC.same hS (by simp only [fPerson, c9, Bool.and_true, Bool.true_and, Bool.and_false, Bool.false_and, Bool.or_true, Bool.true_or, Bool.or_false, Bool.false_or, Bool.not_true, Bool.not_false, Bool.false_eq_true, decide_true, decide_false, if_true, if_false])⟩
  · replace c9 := bI_n0.mp c9
    refine x_iload2 G d_M_person_12 ?_
    refine m_callS_pi (p_M_isFi (kg κ) (d - 1) _ _) G d_M_person_13 lk_M_92 (by omega) rfl (Nat.le_of_ble_eq_true rfl) hx ?_
    refine x_if_eq G d_M_person_16 (fun c16 => ?_) (fun c16 => ?_)
    · replace c16 := bI_0.mp c16
      refine x_ldc G d_M_person_31 kc_M_98 ?_
      exact m_iret E G d_M_person_33 hx rfl rfl ⟨_, rfl, MC.same hS (by simp only [fPerson, c9, c16, Bool.and_true, Bool.true_and, Bool.and_false, Bool.false_and, Bool.or_true, Bool.true_or, Bool.or_false, Bool.false_or, Bool.not_true, Bool.not_false, Bool.false_eq_true, decide_true, decide_false, if_true, if_false])⟩
    · replace c16 := bI_n0.mp c16
      refine x_iload3 G d_M_person_19 ?_
      refine x_i2l G d_M_person_20 ?_
      refine x_lconst (v := 0) G d_M_person_21 rfl ?_
      refine x_ldc2 G d_M_person_22 kc_M_96 ?_
      refine m_callS_pi (p_M_isUp (kg κ) (d - 1) _ _ 99 _ _ _ rfl (by decide +kernel) (by decide +kernel)) G d_M_person_25 lk_M_82 (by omega) rfl (Nat.le_of_ble_eq_true rfl) hx ?_
      refine x_if_ne G d_M_person_28 (fun c28 => ?_) (fun c28 => ?_)
      · replace c28 := bI_n0.mp c28
        refine x_aload0 G d_M_person_34 ?_
        refine m_getr G d_M_person_35 fl_M_7 rfl (by decide) rfl ?_
        refine x_iconst (v := nI 0) G d_M_person_38 rfl ?_
        refine m_iald 0 G d_M_person_39 rfl rfl ⟨by omega, by first | decide | omega⟩ ?_
        rw [hS, hn8.1]
        refine x_bipush (v := nI 8) G d_M_person_40 rfl ?_
        refine x_icmp_ne G d_M_person_42 (fun c42 => ?_) (fun c42 => ?_)
        · have hn : tn (S 0) < 8 := by have : tn (S 0) ≠ 8 := fun q => c42 (by rw [q]); omega
          refine x_aload0 G d_M_person_48 ?_
          refine x_iload1 G d_M_person_49 ?_
          refine x_iload2 G d_M_person_50 ?_
          refine x_iload3 G d_M_person_51 ?_
          refine m_callV_pv (p_M_comes (kg κ) (d - 1) (by omega) σ S hS hI hJ hn _ _ _) G d_M_person_52 lk_M_100 rfl ⟨by decide, rfl⟩ (by decide) (by omega) rfl (Nat.le_of_ble_eq_true rfl) hx (fun σ1 ⟨g1, g2⟩ => ?_)
          refine x_aload0 G d_M_person_55 ?_
          refine m_getr G d_M_person_56 fl_M_7 rfl (by decide) rfl ?_
          refine x_iconst (v := nI 0) G d_M_person_59 rfl ?_
          refine m_iald 0 G d_M_person_60 rfl rfl ⟨by omega, by first | decide | omega⟩ ?_
          rw [show σ1 114 0 = nI (tn (S 0) + 1) by rw [g1]; unfold fCome; rw [if_pos hn]; dsimp only; exact pk_us]
          refine x_iconst (v := nI 1) G d_M_person_61 rfl ?_
          refine x_isub G d_M_person_62 ?_
          rw [show nI (tn (S 0) + 1) - nI 1 = nI (tn (S 0)) from pk_sub (by omega)]
          exact m_iret E G d_M_person_63 hx rfl rfl ⟨_, rfl, MC.mk' (S1 := (fCome S k h i).2) (v1 := nI (tn (S 0))) (by simp only [fPerson, fCome, c9, c16, c28, hn, Bool.and_true, Bool.true_and, Bool.and_false, Bool.false_and, Bool.or_true, Bool.true_or, Bool.or_false, Bool.false_or, Bool.not_true, Bool.not_false, Bool.false_eq_true, decide_true, decide_false, if_true, if_false]) rfl g1 g2⟩
        · have hn : ¬ tn (S 0) < 8 := by have := (neq (by omega) (by decide)).mp c42; omega
          refine x_ldc G d_M_person_45 kc_M_99 ?_
          exact m_iret E G d_M_person_47 hx rfl rfl ⟨_, rfl, MC.same hS (by simp only [fPerson, fCome, c9, c16, c28, hn, Bool.and_true, Bool.true_and, Bool.and_false, Bool.false_and, Bool.or_true, Bool.true_or, Bool.or_false, Bool.false_or, Bool.not_true, Bool.not_false, Bool.false_eq_true, decide_true, decide_false, if_true, if_false])⟩
      · replace c28 := bI_0.mp c28
        refine x_ldc G d_M_person_31 kc_M_98 ?_
        exact m_iret E G d_M_person_33 hx rfl rfl ⟨_, rfl, MC.same hS (by simp only [fPerson, c9, c16, c28, Bool.and_true, Bool.true_and, Bool.and_false, Bool.false_and, Bool.or_true, Bool.true_or, Bool.or_false, Bool.false_or, Bool.not_true, Bool.not_false, Bool.false_eq_true, decide_true, decide_false, if_true, if_false])⟩
theorem p_M_told (g : CX) (d : Nat) (hd : 3 ≤ d) (σ : Sg) (S : Rw) (hO : MO S σ) (one what : Int32) : RunM g d M_told [.ref 113, .int one, .int what] σ (PR (MC (fTold S one what) σ)) := by
  refine RunM.of 0 (by decide +kernel) rfl ?_
  intro κ hg hx hk0 G E
  subst hg
  have hk : 3 ≤ kn κ := Nat.le_of_eq hk0.symm
  show X κ NC 0 [some (.ref 113), some (.int one), some (.int what)] [] (hv σ)
  obtain ⟨hS, hI, hJ, h9, hab⟩ := hO
  have hn8 := hI.n
  refine x_aload0 G d_M_told_0 ?_
  refine x_iload1 G d_M_told_1 ?_
  refine m_callV_pi (p_M_isOn (kg κ) (d - 1) (by omega) _ S hS hI _) G d_M_told_2 lk_M_126 rfl ⟨by decide, rfl⟩ (by decide) (by omega) rfl (Nat.le_of_ble_eq_true rfl) hx ?_
  refine x_if_eq G d_M_told_5 (fun c5 => ?_) (fun c5 => ?_)
  · replace c5 := bI_0.mp c5
    refine x_ldc G d_M_told_20 kc_M_98 ?_
    exact m_iret E G d_M_told_22 hx rfl rfl ⟨_, rfl, MC.same hS (by simp only [fTold, c5, Bool.and_true, Bool.true_and, Bool.and_false, Bool.false_and, Bool.or_true, Bool.true_or, Bool.or_false, Bool.false_or, Bool.not_true, Bool.not_false, Bool.false_eq_true, decide_true, decide_false, if_true, if_false])⟩
  · replace c5 := bI_n0.mp c5
    obtain ⟨p, hp, hpn, tp, rfl⟩ := one_ex hI c5
    refine x_iload2 G d_M_told_8 ?_
    refine x_i2l G d_M_told_9 ?_
    refine x_lconst (v := 0) G d_M_told_10 rfl ?_
    refine x_ldc2 G d_M_told_11 kc_M_129 ?_
    refine m_callS_pi (p_M_isUp (kg κ) (d - 1) _ _ 6 _ _ _ rfl (by decide +kernel) (by decide +kernel)) G d_M_told_14 lk_M_82 (by omega) rfl (Nat.le_of_ble_eq_true rfl) hx ?_
    refine x_if_ne G d_M_told_17 (fun c17 => ?_) (fun c17 => ?_)
    · replace c17 := bI_n0.mp c17
      obtain ⟨q, hq, tq, rfl⟩ := upB_ex (by decide) c17
      refine x_iload2 G d_M_told_23 ?_
      refine x_bipush (v := nI 6) G d_M_told_24 rfl ?_
      refine x_icmp_ge G d_M_told_26 (fun c26 => ?_) (fun c26 => ?_)
      · replace c26 := Int32.not_lt.mpr c26
        have h26 : ¬ q < 6 := fun z => c26 ((nlt (by omega) (by decide)).mpr z)
        have g26 : q = 6 := by omega
        subst g26
        refine x_aload0 G d_M_told_38 ?_
        refine x_iload1 G d_M_told_39 ?_
        refine m_callV_pi (p_M_worth (kg κ) (d - 1) (by omega) σ S hS hI p (by omega)) G d_M_told_40 lk_M_131 rfl ⟨by decide, rfl⟩ (by decide) (by omega) rfl (Nat.le_of_ble_eq_true rfl) hx ?_
        exact m_iret E G d_M_told_43 hx rfl rfl ⟨_, rfl, MC.same hS (by simp only [fTold, c5, tp, c17, tq, eq_true (rfl : nI 6 = nI 6), Bool.and_true, Bool.true_and, Bool.and_false, Bool.false_and, Bool.or_true, Bool.true_or, Bool.or_false, Bool.false_or, Bool.not_true, Bool.not_false, Bool.false_eq_true, decide_true, decide_false, if_true, if_false])⟩
      · replace c26 := Int32.not_le.mp c26
        have h26 : q < 6 := (nlt (by omega) (by decide)).mp c26
        have g26 : ¬ nI q = nI 6 := fun z => by have := (neq (by omega) (by decide)).mp z; omega
        refine x_aload0 G d_M_told_29 ?_
        refine x_iload1 G d_M_told_30 ?_
        refine x_iload2 G d_M_told_31 ?_
        refine m_callV_pi (p_M_ofS (kg κ) (d - 1) _ S hS _ _ (by omega) (by first | decide | omega)) G d_M_told_32 lk_M_107 rfl ⟨by decide, rfl⟩ (by decide) (by omega) rfl (Nat.le_of_ble_eq_true rfl) hx ?_
        refine x_goto G d_M_told_35 ?_
        exact m_iret E G d_M_told_43 hx rfl rfl ⟨_, rfl, MC.same hS (by simp only [fTold, c5, tp, c17, tq, g26, Bool.and_true, Bool.true_and, Bool.and_false, Bool.false_and, Bool.or_true, Bool.true_or, Bool.or_false, Bool.false_or, Bool.not_true, Bool.not_false, Bool.false_eq_true, decide_true, decide_false, if_true, if_false])⟩
    · replace c17 := bI_0.mp c17
      refine x_ldc G d_M_told_20 kc_M_98 ?_
      exact m_iret E G d_M_told_22 hx rfl rfl ⟨_, rfl, MC.same hS (by simp only [fTold, c5, tp, c17, Bool.and_true, Bool.true_and, Bool.and_false, Bool.false_and, Bool.or_true, Bool.true_or, Bool.or_false, Bool.false_or, Bool.not_true, Bool.not_false, Bool.false_eq_true, decide_true, decide_false, if_true, if_false])⟩
theorem p_M_walk (g : CX) (d : Nat) (hd : 4 ≤ d) (σ : Sg) (S : Rw) (hO : MO S σ) (one fd what : Int32) : RunM g d M_walk [.ref 113, .int one, .int fd, .int what] σ (PR (MC (fWalk S one fd what) σ)) := by
  refine RunM.of 0 (by decide +kernel) rfl ?_
  intro κ hg hx hk0 G E
  subst hg
  have hk : 4 ≤ kn κ := Nat.le_of_eq hk0.symm
  show X κ NC 0 [some (.ref 113), some (.int one), some (.int fd), some (.int what)] [] (hv σ)
  obtain ⟨hS, hI, hJ, h9, hab⟩ := hO
  have hn8 := hI.n
  refine x_aload0 G d_M_walk_0 ?_
  refine x_iload1 G d_M_walk_1 ?_
  refine m_callV_pi (p_M_isOn (kg κ) (d - 1) (by omega) _ S hS hI _) G d_M_walk_2 lk_M_126 rfl ⟨by decide, rfl⟩ (by decide) (by omega) rfl (Nat.le_of_ble_eq_true rfl) hx ?_
  refine x_if_eq G d_M_walk_5 (fun c5 => ?_) (fun c5 => ?_)
  · replace c5 := bI_0.mp c5
    refine x_ldc G d_M_walk_25 kc_M_98 ?_
    exact m_iret E G d_M_walk_27 hx rfl rfl ⟨_, rfl, MC.same hS (by simp only [fWalk, c5, Bool.and_true, Bool.true_and, Bool.and_false, Bool.false_and, Bool.or_true, Bool.true_or, Bool.or_false, Bool.false_or, Bool.not_true, Bool.not_false, Bool.false_eq_true, decide_true, decide_false, if_true, if_false])⟩
  · replace c5 := bI_n0.mp c5
    obtain ⟨p, hp, hpn, tp, rfl⟩ := one_ex hI c5
    refine x_iload2 G d_M_walk_8 ?_
    refine m_callS_pi (p_M_isFi (kg κ) (d - 1) _ _) G d_M_walk_9 lk_M_92 (by omega) rfl (Nat.le_of_ble_eq_true rfl) hx ?_
    refine x_if_eq G d_M_walk_12 (fun c12 => ?_) (fun c12 => ?_)
    · replace c12 := bI_0.mp c12
      refine x_ldc G d_M_walk_25 kc_M_98 ?_
      exact m_iret E G d_M_walk_27 hx rfl rfl ⟨_, rfl, MC.same hS (by simp only [fWalk, c5, tp, c12, Bool.and_true, Bool.true_and, Bool.and_false, Bool.false_and, Bool.or_true, Bool.true_or, Bool.or_false, Bool.false_or, Bool.not_true, Bool.not_false, Bool.false_eq_true, decide_true, decide_false, if_true, if_false])⟩
    · replace c12 := bI_n0.mp c12
      obtain ⟨f, hf, tf, rfl⟩ := upB_ex (by decide) c12
      refine x_iload3 G d_M_walk_15 ?_
      refine x_i2l G d_M_walk_16 ?_
      refine x_lconst (v := 0) G d_M_walk_17 rfl ?_
      refine x_lconst (v := 1) G d_M_walk_18 rfl ?_
      refine m_callS_pi (p_M_isUp (kg κ) (d - 1) _ _ 1 _ _ _ rfl (by decide +kernel) (by decide +kernel)) G d_M_walk_19 lk_M_82 (by omega) rfl (Nat.le_of_ble_eq_true rfl) hx ?_
      refine x_if_ne G d_M_walk_22 (fun c22 => ?_) (fun c22 => ?_)
      · replace c22 := bI_n0.mp c22
        refine x_iload3 G d_M_walk_28 ?_
        refine x_if_ne G d_M_walk_29 (fun c29 => ?_) (fun c29 => ?_)
        · refine x_aload0 G d_M_walk_41 ?_
          refine x_iload1 G d_M_walk_42 ?_
          refine x_iload2 G d_M_walk_43 ?_
          refine m_callV_pi (p_M_mayStand (kg κ) (d - 1) (by omega) σ S hS hI p (by omega) f (by omega)) G d_M_walk_44 lk_M_137 rfl ⟨by decide, rfl⟩ (by decide) (by omega) rfl (Nat.le_of_ble_eq_true rfl) hx ?_
          refine x_if_eq G d_M_walk_47 (fun c47 => ?_) (fun c47 => ?_)
          · replace c47 := bI_0.mp c47
            refine x_iconst (v := nI 0) G d_M_walk_54 rfl ?_
            exact m_iret E G d_M_walk_55 hx rfl rfl ⟨_, rfl, MC.mk' (S1 := S) (v1 := bI (sMay S p f)) (by simp only [fWalk, c5, tp, c12, tf, c22, c29, Bool.and_true, Bool.true_and, Bool.and_false, Bool.false_and, Bool.or_true, Bool.true_or, Bool.or_false, Bool.false_or, Bool.not_true, Bool.not_false, Bool.false_eq_true, decide_true, decide_false, if_true, if_false]) (by rw [c47]; rfl) hS OutN.refl⟩
          · replace c47 := bI_n0.mp c47
            refine x_iconst (v := nI 1) G d_M_walk_50 rfl ?_
            refine x_goto G d_M_walk_51 ?_
            exact m_iret E G d_M_walk_55 hx rfl rfl ⟨_, rfl, MC.mk' (S1 := S) (v1 := bI (sMay S p f)) (by simp only [fWalk, c5, tp, c12, tf, c22, c29, Bool.and_true, Bool.true_and, Bool.and_false, Bool.false_and, Bool.or_true, Bool.true_or, Bool.or_false, Bool.false_or, Bool.not_true, Bool.not_false, Bool.false_eq_true, decide_true, decide_false, if_true, if_false]) (by rw [c47]; rfl) hS OutN.refl⟩
        · refine x_aload0 G d_M_walk_32 ?_
          refine x_iload1 G d_M_walk_33 ?_
          refine x_iload2 G d_M_walk_34 ?_
          refine m_callV_pr (p_M_walkOf (kg κ) (d - 1) (by omega) σ S hS hI p (by omega) f (by omega)) G d_M_walk_35 lk_M_134 rfl ⟨by decide, rfl⟩ (by decide) (by omega) rfl (Nat.le_of_ble_eq_true rfl) hx (fun v1 σ1 ⟨g1, g2⟩ => ?_)
          refine x_goto G d_M_walk_38 ?_
          exact m_iret E G d_M_walk_55 hx rfl rfl ⟨_, rfl, MC.mk' (S1 := S) (v1 := sWalk S p f) (by simp only [fWalk, c5, tp, c12, tf, c22, eq_true c29, Bool.and_true, Bool.true_and, Bool.and_false, Bool.false_and, Bool.or_true, Bool.true_or, Bool.or_false, Bool.false_or, Bool.not_true, Bool.not_false, Bool.false_eq_true, decide_true, decide_false, if_true, if_false]) g1 (by rw [g2 114 (by decide) (by decide)]; exact hS) (OutN.of2 g2)⟩
      · replace c22 := bI_0.mp c22
        refine x_ldc G d_M_walk_25 kc_M_98 ?_
        exact m_iret E G d_M_walk_27 hx rfl rfl ⟨_, rfl, MC.same hS (by simp only [fWalk, c5, tp, c12, tf, c22, Bool.and_true, Bool.true_and, Bool.and_false, Bool.false_and, Bool.or_true, Bool.true_or, Bool.or_false, Bool.false_or, Bool.not_true, Bool.not_false, Bool.false_eq_true, decide_true, decide_false, if_true, if_false])⟩
theorem p_M_as (g : CX) (d : Nat) (hd : 2 ≤ d) (σ : Sg) (S : Rw) (hO : MO S σ) (one k : Int32) : RunM g d M_as [.ref 113, .int one, .int k] σ (PR (MC (fAs S one k) σ)) := by
  refine RunM.of 0 (by decide +kernel) rfl ?_
  intro κ hg hx hk0 G E
  subst hg
  have hk : 3 ≤ kn κ := Nat.le_of_eq hk0.symm
  show X κ NC 0 [some (.ref 113), some (.int one), some (.int k)] [] (hv σ)
  obtain ⟨hS, hI, hJ, h9, hab⟩ := hO
  have hn8 := hI.n
  refine x_aload0 G d_M_as_0 ?_
  refine x_iload1 G d_M_as_1 ?_
  refine m_callV_pi (p_M_isOn (kg κ) (d - 1) (by omega) _ S hS hI _) G d_M_as_2 lk_M_126 rfl ⟨by decide, rfl⟩ (by decide) (by omega) rfl (Nat.le_of_ble_eq_true rfl) hx ?_
  refine x_if_eq G d_M_as_5 (fun c5 => ?_) (fun c5 => ?_)
  · replace c5 := bI_0.mp c5
    refine x_ldc G d_M_as_20 kc_M_98 ?_
    exact m_iret E G d_M_as_22 hx rfl rfl ⟨_, rfl, MC.same hS (by simp only [fAs, c5, Bool.and_true, Bool.true_and, Bool.and_false, Bool.false_and, Bool.or_true, Bool.true_or, Bool.or_false, Bool.false_or, Bool.not_true, Bool.not_false, Bool.false_eq_true, decide_true, decide_false, if_true, if_false])⟩
  · replace c5 := bI_n0.mp c5
    obtain ⟨p, hp, hpn, tp, rfl⟩ := one_ex hI c5
    refine x_iload2 G d_M_as_8 ?_
    refine x_i2l G d_M_as_9 ?_
    refine x_lconst (v := 0) G d_M_as_10 rfl ?_
    refine x_ldc2 G d_M_as_11 kc_M_90 ?_
    refine m_callS_pi (p_M_isUp (kg κ) (d - 1) _ _ 5 _ _ _ rfl (by decide +kernel) (by decide +kernel)) G d_M_as_14 lk_M_82 (by omega) rfl (Nat.le_of_ble_eq_true rfl) hx ?_
    refine x_if_ne G d_M_as_17 (fun c17 => ?_) (fun c17 => ?_)
    · replace c17 := bI_n0.mp c17
      obtain ⟨q, hq, tq, rfl⟩ := upB_ex (by decide) c17
      refine x_aload0 G d_M_as_23 ?_
      refine x_iload1 G d_M_as_24 ?_
      refine x_iconst (v := nI 0) G d_M_as_25 rfl ?_
      refine m_callV_pi (p_M_ofS (kg κ) (d - 1) _ S hS _ _ (by omega) (by first | decide | omega)) G d_M_as_26 lk_M_107 rfl ⟨by decide, rfl⟩ (by decide) (by omega) rfl (Nat.le_of_ble_eq_true rfl) hx ?_
      rw [(hI.kind (show p < 8 by omega)).1]
      refine x_iload2 G d_M_as_29 ?_
      refine m_callS_pi (p_M_isOf (kg κ) (d - 1) (by omega) σ (tn (S (ixP p 0))) (by have := (hI.kind (show p < 8 by omega)).2; omega) q (by omega)) G d_M_as_30 lk_M_141 (by omega) rfl (Nat.le_of_ble_eq_true rfl) hx ?_
      refine x_if_eq G d_M_as_33 (fun c33 => ?_) (fun c33 => ?_)
      · replace c33 := bI_0.mp c33
        refine x_ldc G d_M_as_45 kc_M_144 ?_
        exact m_iret E G d_M_as_47 hx rfl rfl ⟨_, rfl, MC.same hS (by simp only [fAs, c5, tp, c17, tq, c33, Bool.and_true, Bool.true_and, Bool.and_false, Bool.false_and, Bool.or_true, Bool.true_or, Bool.or_false, Bool.false_or, Bool.not_true, Bool.not_false, Bool.false_eq_true, decide_true, decide_false, if_true, if_false])⟩
      · replace c33 := bI_n0.mp c33
        refine x_aload0 G d_M_as_36 ?_
        refine x_iload1 G d_M_as_37 ?_
        refine x_iconst (v := nI 2) G d_M_as_38 rfl ?_
        refine m_callV_pi (p_M_ofS (kg κ) (d - 1) _ S hS _ _ (by omega) (by first | decide | omega)) G d_M_as_39 lk_M_107 rfl ⟨by decide, rfl⟩ (by decide) (by omega) rfl (Nat.le_of_ble_eq_true rfl) hx ?_
        refine x_goto G d_M_as_42 ?_
        exact m_iret E G d_M_as_47 hx rfl rfl ⟨_, rfl, MC.same hS (by simp only [fAs, c5, tp, c17, tq, c33, Bool.and_true, Bool.true_and, Bool.and_false, Bool.false_and, Bool.or_true, Bool.true_or, Bool.or_false, Bool.false_or, Bool.not_true, Bool.not_false, Bool.false_eq_true, decide_true, decide_false, if_true, if_false])⟩
    · replace c17 := bI_0.mp c17
      refine x_ldc G d_M_as_20 kc_M_98 ?_
      exact m_iret E G d_M_as_22 hx rfl rfl ⟨_, rfl, MC.same hS (by simp only [fAs, c5, tp, c17, Bool.and_true, Bool.true_and, Bool.and_false, Bool.false_and, Bool.or_true, Bool.true_or, Bool.or_false, Bool.false_or, Bool.not_true, Bool.not_false, Bool.false_eq_true, decide_true, decide_false, if_true, if_false])⟩
theorem p_M_turns (g : CX) (d : Nat) (hd : 2 ≤ d) (σ : Sg) (S : Rw) (hO : MO S σ) (one k : Int32) : RunM g d M_turns [.ref 113, .int one, .int k] σ (PR (MC (fTurns S one k) σ)) := by
  refine RunM.of 0 (by decide +kernel) rfl ?_
  intro κ hg hx hk0 G E
  subst hg
  have hk : 3 ≤ kn κ := Nat.le_of_eq hk0.symm
  show X κ NC 0 [some (.ref 113), some (.int one), some (.int k)] [] (hv σ)
  obtain ⟨hS, hI, hJ, h9, hab⟩ := hO
  have hn8 := hI.n
  refine x_aload0 G d_M_turns_0 ?_
  refine x_iload1 G d_M_turns_1 ?_
  refine m_callV_pi (p_M_isOn (kg κ) (d - 1) (by omega) _ S hS hI _) G d_M_turns_2 lk_M_126 rfl ⟨by decide, rfl⟩ (by decide) (by omega) rfl (Nat.le_of_ble_eq_true rfl) hx ?_
  refine x_if_eq G d_M_turns_5 (fun c5 => ?_) (fun c5 => ?_)
  · replace c5 := bI_0.mp c5
    refine x_ldc G d_M_turns_35 kc_M_98 ?_
    exact m_iret E G d_M_turns_37 hx rfl rfl ⟨_, rfl, MC.same hS (by simp only [fTurns, c5, Bool.and_true, Bool.true_and, Bool.and_false, Bool.false_and, Bool.or_true, Bool.true_or, Bool.or_false, Bool.false_or, Bool.not_true, Bool.not_false, Bool.false_eq_true, decide_true, decide_false, if_true, if_false])⟩
  · replace c5 := bI_n0.mp c5
    obtain ⟨p, hp, hpn, tp, rfl⟩ := one_ex hI c5
    refine x_iload2 G d_M_turns_8 ?_
    refine x_i2l G d_M_turns_9 ?_
    refine x_lconst (v := 0) G d_M_turns_10 rfl ?_
    refine x_ldc2 G d_M_turns_11 kc_M_90 ?_
    refine m_callS_pi (p_M_isUp (kg κ) (d - 1) _ _ 5 _ _ _ rfl (by decide +kernel) (by decide +kernel)) G d_M_turns_14 lk_M_82 (by omega) rfl (Nat.le_of_ble_eq_true rfl) hx ?_
    refine x_if_eq G d_M_turns_17 (fun c17 => ?_) (fun c17 => ?_)
    · replace c17 := bI_0.mp c17
      refine x_ldc G d_M_turns_35 kc_M_98 ?_
      exact m_iret E G d_M_turns_37 hx rfl rfl ⟨_, rfl, MC.same hS (by simp only [fTurns, c5, tp, c17, Bool.and_true, Bool.true_and, Bool.and_false, Bool.false_and, Bool.or_true, Bool.true_or, Bool.or_false, Bool.false_or, Bool.not_true, Bool.not_false, Bool.false_eq_true, decide_true, decide_false, if_true, if_false])⟩
    · replace c17 := bI_n0.mp c17
      refine x_aload0 G d_M_turns_20 ?_
      refine x_bipush (v := nI 34) G d_M_turns_21 rfl ?_
      refine x_bipush (v := nI 7) G d_M_turns_23 rfl ?_
      refine x_iload1 G d_M_turns_25 ?_
      refine x_imul G d_M_turns_26 ?_
      refine x_iadd G d_M_turns_27 ?_
      refine x_iload2 G d_M_turns_28 ?_
      refine m_callV_pi (p_M_becomesE (kg κ) (d - 1) _ S hS _ (ixP p 0) (by simp only [pk_mul, nI_add]; exact congrArg nI (by unfold ixP; omega)) (by first | decide | (unfold ixP; omega) | (unfold ixF; omega)) _) G d_M_turns_29 lk_M_145 rfl ⟨by decide, rfl⟩ (by decide) (by omega) rfl (Nat.le_of_ble_eq_true rfl) hx ?_
      refine x_goto G d_M_turns_32 ?_
      exact m_iret E G d_M_turns_37 hx rfl rfl ⟨_, rfl, MC.mk' (S1 := upd S (ixP p 0) k) (v1 := S (ixP p 0)) (by simp only [fTurns, c5, tp, c17, Bool.and_true, Bool.true_and, Bool.and_false, Bool.false_and, Bool.or_true, Bool.true_or, Bool.or_false, Bool.false_or, Bool.not_true, Bool.not_false, Bool.false_eq_true, decide_true, decide_false, if_true, if_false]) rfl (row_set hS _ _) (OutN.refl.upd (by omega))⟩
theorem p_M_set (g : CX) (d : Nat) (hd : 2 ≤ d) (σ : Sg) (S : Rw) (hO : MO S σ) (one what v : Int32) : RunM g d M_set [.ref 113, .int one, .int what, .int v] σ (PR (MC (fSet S one what v) σ)) := by
  refine RunM.of 0 (by decide +kernel) rfl ?_
  intro κ hg hx hk0 G E
  subst hg
  have hk : 4 ≤ kn κ := Nat.le_of_eq hk0.symm
  show X κ NC 0 [some (.ref 113), some (.int one), some (.int what), some (.int v)] [] (hv σ)
  obtain ⟨hS, hI, hJ, h9, hab⟩ := hO
  have hn8 := hI.n
  refine x_aload0 G d_M_set_0 ?_
  refine x_iload1 G d_M_set_1 ?_
  refine m_callV_pi (p_M_isOn (kg κ) (d - 1) (by omega) _ S hS hI _) G d_M_set_2 lk_M_126 rfl ⟨by decide, rfl⟩ (by decide) (by omega) rfl (Nat.le_of_ble_eq_true rfl) hx ?_
  refine x_if_eq G d_M_set_5 (fun c5 => ?_) (fun c5 => ?_)
  · replace c5 := bI_0.mp c5
    refine x_ldc G d_M_set_43 kc_M_98 ?_
    exact m_iret E G d_M_set_45 hx rfl rfl ⟨_, rfl, MC.same hS (by simp only [fSet, c5, Bool.and_true, Bool.true_and, Bool.and_false, Bool.false_and, Bool.or_true, Bool.true_or, Bool.or_false, Bool.false_or, Bool.not_true, Bool.not_false, Bool.false_eq_true, decide_true, decide_false, if_true, if_false])⟩
  · replace c5 := bI_n0.mp c5
    obtain ⟨p, hp, hpn, tp, rfl⟩ := one_ex hI c5
    refine x_iload2 G d_M_set_8 ?_
    refine x_i2l G d_M_set_9 ?_
    refine x_lconst (v := 1) G d_M_set_10 rfl ?_
    refine x_ldc2 G d_M_set_11 kc_M_148 ?_
    refine m_callS_pi (p_M_isIn (kg κ) (d - 1) (Nat.zero_le _) _ _ (nI 1) (nI 2) _ _ _ rfl (by decide +kernel) (by decide +kernel)) G d_M_set_14 lk_M_82 (by omega) rfl (Nat.le_of_ble_eq_true rfl) hx ?_
    refine x_if_eq G d_M_set_17 (fun c17 => ?_) (fun c17 => ?_)
    · replace c17 := bI_0.mp c17
      have h17 : ¬ what = nI 1 ∧ ¬ what = nI 2 := by constructor <;> (rintro rfl; revert c17; decide +kernel)
      refine x_ldc G d_M_set_43 kc_M_98 ?_
      exact m_iret E G d_M_set_45 hx rfl rfl ⟨_, rfl, MC.same hS (by simp only [fSet, c5, tp, h17.1, h17.2, Bool.and_true, Bool.true_and, Bool.and_false, Bool.false_and, Bool.or_true, Bool.true_or, Bool.or_false, Bool.false_or, Bool.not_true, Bool.not_false, Bool.false_eq_true, decide_true, decide_false, if_true, if_false])⟩
    · replace c17 := bI_n0.mp c17
      have h17 : what = nI 1 ∨ what = nI 2 := by
        obtain ⟨j, j1, j2, tj, rfl⟩ := inB_1 (by decide) c17
        have : j = 1 ∨ j = 2 := by omega
        rcases this with rfl | rfl
        · exact Or.inl rfl
        · exact Or.inr rfl
      refine x_iload3 G d_M_set_20 ?_
      refine x_i2l G d_M_set_21 ?_
      refine x_lconst (v := 0) G d_M_set_22 rfl ?_
      refine x_iload2 G d_M_set_23 ?_
      refine x_iconst (v := nI 1) G d_M_set_24 rfl ?_
      refine x_icmp_ne G d_M_set_25 (fun c25 => ?_) (fun c25 => ?_)
      · replace h17 := h17.resolve_left c25
        subst h17
        refine x_ldc2 G d_M_set_34 kc_M_96 ?_
        refine m_callS_pi (p_M_isUp (kg κ) (d - 1) _ _ 99 _ _ _ rfl (by decide +kernel) (by decide +kernel)) G d_M_set_37 lk_M_82 (by omega) rfl (Nat.le_of_ble_eq_true rfl) hx ?_
        refine x_if_ne G d_M_set_40 (fun c40 => ?_) (fun c40 => ?_)
        · replace c40 := bI_n0.mp c40
          refine x_aload0 G d_M_set_46 ?_
          refine x_bipush (v := nI 34) G d_M_set_47 rfl ?_
          refine x_bipush (v := nI 7) G d_M_set_49 rfl ?_
          refine x_iload1 G d_M_set_51 ?_
          refine x_imul G d_M_set_52 ?_
          refine x_iadd G d_M_set_53 ?_
          refine x_iload2 G d_M_set_54 ?_
          refine x_iadd G d_M_set_55 ?_
          refine x_iload3 G d_M_set_56 ?_
          refine m_callV_pi (p_M_becomesE (kg κ) (d - 1) _ S hS _ (ixP p 2) (by simp only [pk_mul, nI_add]; exact congrArg nI (by unfold ixP; omega)) (by first | decide | (unfold ixP; omega) | (unfold ixF; omega)) _) G d_M_set_57 lk_M_145 rfl ⟨by decide, rfl⟩ (by decide) (by omega) rfl (Nat.le_of_ble_eq_true rfl) hx ?_
          exact m_iret E G d_M_set_60 hx rfl rfl ⟨_, rfl, MC.mk' (S1 := upd S (ixP p 2) v) (v1 := S (ixP p 2)) (by simp only [fSet, show tn (nI 2) = 2 from rfl, c5, tp, eq_true (rfl : nI 2 = nI 2), eq_false (show ¬ nI 2 = nI 1 by decide), c40, Bool.and_true, Bool.true_and, Bool.and_false, Bool.false_and, Bool.or_true, Bool.true_or, Bool.or_false, Bool.false_or, Bool.not_true, Bool.not_false, Bool.false_eq_true, decide_true, decide_false, if_true, if_false]) rfl (row_set hS _ _) (OutN.refl.upd (by omega))⟩
        · replace c40 := bI_0.mp c40
          refine x_ldc G d_M_set_43 kc_M_98 ?_
          exact m_iret E G d_M_set_45 hx rfl rfl ⟨_, rfl, MC.same hS (by simp only [fSet, c5, tp, eq_true (rfl : nI 2 = nI 2), eq_false (show ¬ nI 2 = nI 1 by decide), c40, Bool.and_true, Bool.true_and, Bool.and_false, Bool.false_and, Bool.or_true, Bool.true_or, Bool.or_false, Bool.false_or, Bool.not_true, Bool.not_false, Bool.false_eq_true, decide_true, decide_false, if_true, if_false])⟩
      · subst c25
        refine x_ldc2 G d_M_set_28 kc_M_150 ?_
        refine x_goto G d_M_set_31 ?_
        refine m_callS_pi (p_M_isUp (kg κ) (d - 1) _ _ 8 _ _ _ rfl (by decide +kernel) (by decide +kernel)) G d_M_set_37 lk_M_82 (by omega) rfl (Nat.le_of_ble_eq_true rfl) hx ?_
        refine x_if_ne G d_M_set_40 (fun c40 => ?_) (fun c40 => ?_)
        · replace c40 := bI_n0.mp c40
          refine x_aload0 G d_M_set_46 ?_
          refine x_bipush (v := nI 34) G d_M_set_47 rfl ?_
          refine x_bipush (v := nI 7) G d_M_set_49 rfl ?_
          refine x_iload1 G d_M_set_51 ?_
          refine x_imul G d_M_set_52 ?_
          refine x_iadd G d_M_set_53 ?_
          refine x_iload2 G d_M_set_54 ?_
          refine x_iadd G d_M_set_55 ?_
          refine x_iload3 G d_M_set_56 ?_
          refine m_callV_pi (p_M_becomesE (kg κ) (d - 1) _ S hS _ (ixP p 1) (by simp only [pk_mul, nI_add]; exact congrArg nI (by unfold ixP; omega)) (by first | decide | (unfold ixP; omega) | (unfold ixF; omega)) _) G d_M_set_57 lk_M_145 rfl ⟨by decide, rfl⟩ (by decide) (by omega) rfl (Nat.le_of_ble_eq_true rfl) hx ?_
          exact m_iret E G d_M_set_60 hx rfl rfl ⟨_, rfl, MC.mk' (S1 := upd S (ixP p 1) v) (v1 := S (ixP p 1)) (by simp only [fSet, show tn (nI 1) = 1 from rfl, c5, tp, eq_true (rfl : nI 1 = nI 1), eq_false (show ¬ nI 1 = nI 2 by decide), c40, Bool.and_true, Bool.true_and, Bool.and_false, Bool.false_and, Bool.or_true, Bool.true_or, Bool.or_false, Bool.false_or, Bool.not_true, Bool.not_false, Bool.false_eq_true, decide_true, decide_false, if_true, if_false]) rfl (row_set hS _ _) (OutN.refl.upd (by omega))⟩
        · replace c40 := bI_0.mp c40
          refine x_ldc G d_M_set_43 kc_M_98 ?_
          exact m_iret E G d_M_set_45 hx rfl rfl ⟨_, rfl, MC.same hS (by simp only [fSet, c5, tp, eq_true (rfl : nI 1 = nI 1), eq_false (show ¬ nI 1 = nI 2 by decide), c40, Bool.and_true, Bool.true_and, Bool.and_false, Bool.false_and, Bool.or_true, Bool.true_or, Bool.or_false, Bool.false_or, Bool.not_true, Bool.not_false, Bool.false_eq_true, decide_true, decide_false, if_true, if_false])⟩
theorem p_M_talk (g : CX) (d : Nat) (hd : 2 ≤ d) (σ : Sg) (S : Rw) (hO : MO S σ) (one other v : Int32) : RunM g d M_talk [.ref 113, .int one, .int other, .int v] σ (PR (MC (fTalk S one other v) σ)) := by
  refine RunM.of 1 (by decide +kernel) rfl ?_
  intro κ hg hx hk0 G E
  subst hg
  have hk : 5 ≤ kn κ := Nat.le_of_eq hk0.symm
  show X κ NC 0 [some (.ref 113), some (.int one), some (.int other), some (.int v), none] [] (hv σ)
  obtain ⟨hS, hI, hJ, h9, hab⟩ := hO
  have hn8 := hI.n
  refine x_aload0 G d_M_talk_0 ?_
  refine x_iload1 G d_M_talk_1 ?_
  refine m_callV_pi (p_M_isOn (kg κ) (d - 1) (by omega) _ S hS hI _) G d_M_talk_2 lk_M_126 rfl ⟨by decide, rfl⟩ (by decide) (by omega) rfl (Nat.le_of_ble_eq_true rfl) hx ?_
  refine x_if_eq G d_M_talk_5 (fun c5 => ?_) (fun c5 => ?_)
  · replace c5 := bI_0.mp c5
    refine x_ldc G d_M_talk_31 kc_M_98 ?_
    exact m_iret E G d_M_talk_33 hx rfl rfl ⟨_, rfl, MC.same hS (by simp only [fTalk, c5, Bool.and_true, Bool.true_and, Bool.and_false, Bool.false_and, Bool.or_true, Bool.true_or, Bool.or_false, Bool.false_or, Bool.not_true, Bool.not_false, Bool.false_eq_true, decide_true, decide_false, if_true, if_false])⟩
  · replace c5 := bI_n0.mp c5
    obtain ⟨p, hp, hpn, tp, rfl⟩ := one_ex hI c5
    refine x_aload0 G d_M_talk_8 ?_
    refine x_iload2 G d_M_talk_9 ?_
    refine m_callV_pi (p_M_isOn (kg κ) (d - 1) (by omega) _ S hS hI _) G d_M_talk_10 lk_M_126 rfl ⟨by decide, rfl⟩ (by decide) (by omega) rfl (Nat.le_of_ble_eq_true rfl) hx ?_
    refine x_if_eq G d_M_talk_13 (fun c13 => ?_) (fun c13 => ?_)
    · replace c13 := bI_0.mp c13
      refine x_ldc G d_M_talk_31 kc_M_98 ?_
      exact m_iret E G d_M_talk_33 hx rfl rfl ⟨_, rfl, MC.same hS (by simp only [fTalk, c5, tp, c13, Bool.and_true, Bool.true_and, Bool.and_false, Bool.false_and, Bool.or_true, Bool.true_or, Bool.or_false, Bool.false_or, Bool.not_true, Bool.not_false, Bool.false_eq_true, decide_true, decide_false, if_true, if_false])⟩
    · replace c13 := bI_n0.mp c13
      obtain ⟨o, ho, hon, to, rfl⟩ := one_ex hI c13
      refine x_iload1 G d_M_talk_16 ?_
      refine x_iload2 G d_M_talk_17 ?_
      refine x_icmp_eq G d_M_talk_18 (fun c18 => ?_) (fun c18 => ?_)
      · refine x_ldc G d_M_talk_31 kc_M_98 ?_
        exact m_iret E G d_M_talk_33 hx rfl rfl ⟨_, rfl, MC.same hS (by simp only [fTalk, c5, tp, c13, to, eq_true c18, Bool.and_true, Bool.true_and, Bool.and_false, Bool.false_and, Bool.or_true, Bool.true_or, Bool.or_false, Bool.false_or, Bool.not_true, Bool.not_false, Bool.false_eq_true, decide_true, decide_false, if_true, if_false])⟩
      · have hpo : p ≠ o := fun z => c18 (by rw [z])
        refine x_iload3 G d_M_talk_21 ?_
        refine x_i2l G d_M_talk_22 ?_
        refine x_lconst (v := 0) G d_M_talk_23 rfl ?_
        refine x_lconst (v := 1) G d_M_talk_24 rfl ?_
        refine m_callS_pi (p_M_isUp (kg κ) (d - 1) _ _ 1 _ _ _ rfl (by decide +kernel) (by decide +kernel)) G d_M_talk_25 lk_M_82 (by omega) rfl (Nat.le_of_ble_eq_true rfl) hx ?_
        refine x_if_ne G d_M_talk_28 (fun c28 => ?_) (fun c28 => ?_)
        · replace c28 := bI_n0.mp c28
          refine x_aload0 G d_M_talk_34 ?_
          refine x_iload1 G d_M_talk_35 ?_
          refine x_iload2 G d_M_talk_36 ?_
          refine m_callV_pi (p_M_areTalked (kg κ) (d - 1) (by omega) σ S hS p o (by omega)) G d_M_talk_37 lk_M_152 rfl ⟨by decide, rfl⟩ (by decide) (by omega) rfl (Nat.le_of_ble_eq_true rfl) hx ?_
          refine x_if_eq G d_M_talk_40 (fun c40 => ?_) (fun c40 => ?_)
          · replace c40 := bI_0.mp c40
            refine x_iconst (v := nI 0) G d_M_talk_47 rfl ?_
            refine x_istore4 G d_M_talk_48 rfl hk ?_
            refine x_aload0 G d_M_talk_50 ?_
            refine x_iload1 G d_M_talk_51 ?_
            refine x_bipush (v := nI 6) G d_M_talk_52 rfl ?_
            refine x_aload0 G d_M_talk_54 ?_
            refine x_iload1 G d_M_talk_55 ?_
            refine x_bipush (v := nI 6) G d_M_talk_56 rfl ?_
            refine m_callV_pi (p_M_ofS (kg κ) (d - 1) _ S hS _ _ (by omega) (by first | decide | omega)) G d_M_talk_58 lk_M_107 rfl ⟨by decide, rfl⟩ (by decide) (by omega) rfl (Nat.le_of_ble_eq_true rfl) hx ?_
            refine x_iconst (v := nI 1) G d_M_talk_61 rfl ?_
            refine x_iload2 G d_M_talk_62 ?_
            refine x_ishl G d_M_talk_63 ?_
            refine x_iconst (v := (-1)) G d_M_talk_64 rfl ?_
            refine x_ixor G d_M_talk_65 ?_
            refine x_iand G d_M_talk_66 ?_
            refine x_iload3 G d_M_talk_67 ?_
            refine x_iload2 G d_M_talk_68 ?_
            refine x_ishl G d_M_talk_69 ?_
            refine x_ior G d_M_talk_70 ?_
            refine m_callV_pv (p_M_sets (kg κ) (d - 1) (by omega) σ p 6 (by omega) (by decide) _) G d_M_talk_71 lk_M_87 rfl ⟨by decide, rfl⟩ (by decide) (by omega) rfl (Nat.le_of_ble_eq_true rfl) hx (fun σ2 e2 => ?_)
            refine x_aload0 G d_M_talk_74 ?_
            refine x_iload2 G d_M_talk_75 ?_
            refine x_bipush (v := nI 6) G d_M_talk_76 rfl ?_
            refine x_aload0 G d_M_talk_78 ?_
            refine x_iload2 G d_M_talk_79 ?_
            refine x_bipush (v := nI 6) G d_M_talk_80 rfl ?_
            refine m_callV_pi (p_M_ofS (kg κ) (d - 1) σ2 (upd S (ixP p 6) (tkV (S (ixP p 6)) v o)) (by rw [e2, updS_row, hS]; rfl) _ _ (by omega) (by decide)) G d_M_talk_82 lk_M_107 rfl ⟨by decide, rfl⟩ (by decide) (by omega) rfl (Nat.le_of_ble_eq_true rfl) hx ?_
            rw [pk_un (show ixP o 6 ≠ ixP p 6 by unfold ixP; omega)]
            refine x_iconst (v := nI 1) G d_M_talk_85 rfl ?_
            refine x_iload1 G d_M_talk_86 ?_
            refine x_ishl G d_M_talk_87 ?_
            refine x_iconst (v := (-1)) G d_M_talk_88 rfl ?_
            refine x_ixor G d_M_talk_89 ?_
            refine x_iand G d_M_talk_90 ?_
            refine x_iload3 G d_M_talk_91 ?_
            refine x_iload1 G d_M_talk_92 ?_
            refine x_ishl G d_M_talk_93 ?_
            refine x_ior G d_M_talk_94 ?_
            refine m_callV_pv (p_M_sets (kg κ) (d - 1) (by omega) σ2 o 6 (by omega) (by decide) _) G d_M_talk_95 lk_M_87 rfl ⟨by decide, rfl⟩ (by decide) (by omega) rfl (Nat.le_of_ble_eq_true rfl) hx (fun σ3 e3 => ?_)
            refine x_iload4 G d_M_talk_98 ?_
            exact m_iret E G d_M_talk_100 hx rfl rfl ⟨_, rfl, MC.mk' (S1 := upd (upd S (ixP p 6) (tkV (S (ixP p 6)) v o)) (ixP o 6) (tkV (S (ixP o 6)) v p)) (v1 := bI (sTalk S p o)) (by simp only [fTalk, to, c5, tp, c13, c18, c28, Bool.and_true, Bool.true_and, Bool.and_false, Bool.false_and, Bool.or_true, Bool.true_or, Bool.or_false, Bool.false_or, Bool.not_true, Bool.not_false, Bool.false_eq_true, decide_true, decide_false, if_true, if_false]) (by rw [c40]; rfl) (by rw [e3, updS_row, e2, updS_row, hS]; rfl) (by rw [e3, e2]; exact (OutN.refl.upd (by omega)).upd (by omega))⟩
          · replace c40 := bI_n0.mp c40
            refine x_iconst (v := nI 1) G d_M_talk_43 rfl ?_
            refine x_goto G d_M_talk_44 ?_
            refine x_istore4 G d_M_talk_48 rfl hk ?_
            refine x_aload0 G d_M_talk_50 ?_
            refine x_iload1 G d_M_talk_51 ?_
            refine x_bipush (v := nI 6) G d_M_talk_52 rfl ?_
            refine x_aload0 G d_M_talk_54 ?_
            refine x_iload1 G d_M_talk_55 ?_
            refine x_bipush (v := nI 6) G d_M_talk_56 rfl ?_
            refine m_callV_pi (p_M_ofS (kg κ) (d - 1) _ S hS _ _ (by omega) (by first | decide | omega)) G d_M_talk_58 lk_M_107 rfl ⟨by decide, rfl⟩ (by decide) (by omega) rfl (Nat.le_of_ble_eq_true rfl) hx ?_
            refine x_iconst (v := nI 1) G d_M_talk_61 rfl ?_
            refine x_iload2 G d_M_talk_62 ?_
            refine x_ishl G d_M_talk_63 ?_
            refine x_iconst (v := (-1)) G d_M_talk_64 rfl ?_
            refine x_ixor G d_M_talk_65 ?_
            refine x_iand G d_M_talk_66 ?_
            refine x_iload3 G d_M_talk_67 ?_
            refine x_iload2 G d_M_talk_68 ?_
            refine x_ishl G d_M_talk_69 ?_
            refine x_ior G d_M_talk_70 ?_
            refine m_callV_pv (p_M_sets (kg κ) (d - 1) (by omega) σ p 6 (by omega) (by decide) _) G d_M_talk_71 lk_M_87 rfl ⟨by decide, rfl⟩ (by decide) (by omega) rfl (Nat.le_of_ble_eq_true rfl) hx (fun σ2 e2 => ?_)
            refine x_aload0 G d_M_talk_74 ?_
            refine x_iload2 G d_M_talk_75 ?_
            refine x_bipush (v := nI 6) G d_M_talk_76 rfl ?_
            refine x_aload0 G d_M_talk_78 ?_
            refine x_iload2 G d_M_talk_79 ?_
            refine x_bipush (v := nI 6) G d_M_talk_80 rfl ?_
            refine m_callV_pi (p_M_ofS (kg κ) (d - 1) σ2 (upd S (ixP p 6) (tkV (S (ixP p 6)) v o)) (by rw [e2, updS_row, hS]; rfl) _ _ (by omega) (by decide)) G d_M_talk_82 lk_M_107 rfl ⟨by decide, rfl⟩ (by decide) (by omega) rfl (Nat.le_of_ble_eq_true rfl) hx ?_
            rw [pk_un (show ixP o 6 ≠ ixP p 6 by unfold ixP; omega)]
            refine x_iconst (v := nI 1) G d_M_talk_85 rfl ?_
            refine x_iload1 G d_M_talk_86 ?_
            refine x_ishl G d_M_talk_87 ?_
            refine x_iconst (v := (-1)) G d_M_talk_88 rfl ?_
            refine x_ixor G d_M_talk_89 ?_
            refine x_iand G d_M_talk_90 ?_
            refine x_iload3 G d_M_talk_91 ?_
            refine x_iload1 G d_M_talk_92 ?_
            refine x_ishl G d_M_talk_93 ?_
            refine x_ior G d_M_talk_94 ?_
            refine m_callV_pv (p_M_sets (kg κ) (d - 1) (by omega) σ2 o 6 (by omega) (by decide) _) G d_M_talk_95 lk_M_87 rfl ⟨by decide, rfl⟩ (by decide) (by omega) rfl (Nat.le_of_ble_eq_true rfl) hx (fun σ3 e3 => ?_)
            refine x_iload4 G d_M_talk_98 ?_
            exact m_iret E G d_M_talk_100 hx rfl rfl ⟨_, rfl, MC.mk' (S1 := upd (upd S (ixP p 6) (tkV (S (ixP p 6)) v o)) (ixP o 6) (tkV (S (ixP o 6)) v p)) (v1 := bI (sTalk S p o)) (by simp only [fTalk, to, c5, tp, c13, c18, c28, Bool.and_true, Bool.true_and, Bool.and_false, Bool.false_and, Bool.or_true, Bool.true_or, Bool.or_false, Bool.false_or, Bool.not_true, Bool.not_false, Bool.false_eq_true, decide_true, decide_false, if_true, if_false]) (by rw [c40]; rfl) (by rw [e3, updS_row, e2, updS_row, hS]; rfl) (by rw [e3, e2]; exact (OutN.refl.upd (by omega)).upd (by omega))⟩
        · replace c28 := bI_0.mp c28
          refine x_ldc G d_M_talk_31 kc_M_98 ?_
          exact m_iret E G d_M_talk_33 hx rfl rfl ⟨_, rfl, MC.same hS (by simp only [fTalk, c5, tp, c13, to, c18, c28, Bool.and_true, Bool.true_and, Bool.and_false, Bool.false_and, Bool.or_true, Bool.true_or, Bool.or_false, Bool.false_or, Bool.not_true, Bool.not_false, Bool.false_eq_true, decide_true, decide_false, if_true, if_false])⟩
theorem p_M_field (g : CX) (d : Nat) (hd : 2 ≤ d) (σ : Sg) (S : Rw) (hO : MO S σ) (fd what : Int32) : RunM g d M_field [.ref 113, .int fd, .int what] σ (PR (MC (fField S fd what) σ)) := by
  refine RunM.of 0 (by decide +kernel) rfl ?_
  intro κ hg hx hk0 G E
  subst hg
  have hk : 3 ≤ kn κ := Nat.le_of_eq hk0.symm
  show X κ NC 0 [some (.ref 113), some (.int fd), some (.int what)] [] (hv σ)
  obtain ⟨hS, hI, hJ, h9, hab⟩ := hO
  have hn8 := hI.n
  refine x_iload1 G d_M_field_0 ?_
  refine m_callS_pi (p_M_isFi (kg κ) (d - 1) _ _) G d_M_field_1 lk_M_92 (by omega) rfl (Nat.le_of_ble_eq_true rfl) hx ?_
  refine x_if_eq G d_M_field_4 (fun c4 => ?_) (fun c4 => ?_)
  · replace c4 := bI_0.mp c4
    refine x_ldc G d_M_field_28 kc_M_98 ?_
    exact m_iret E G d_M_field_30 hx rfl rfl ⟨_, rfl, MC.same hS (by simp only [fField, c4, Bool.and_true, Bool.true_and, Bool.and_false, Bool.false_and, Bool.or_true, Bool.true_or, Bool.or_false, Bool.false_or, Bool.not_true, Bool.not_false, Bool.false_eq_true, decide_true, decide_false, if_true, if_false])⟩
  · replace c4 := bI_n0.mp c4
    obtain ⟨f, hf, tf, rfl⟩ := upB_ex (by decide) c4
    refine x_iload2 G d_M_field_7 ?_
    refine x_i2l G d_M_field_8 ?_
    refine x_lconst (v := 0) G d_M_field_9 rfl ?_
    refine x_ldc2 G d_M_field_10 kc_M_148 ?_
    refine m_callS_pi (p_M_isUp (kg κ) (d - 1) _ _ 2 _ _ _ rfl (by decide +kernel) (by decide +kernel)) G d_M_field_13 lk_M_82 (by omega) rfl (Nat.le_of_ble_eq_true rfl) hx ?_
    refine x_if_eq G d_M_field_16 (fun c16 => ?_) (fun c16 => ?_)
    · replace c16 := bI_0.mp c16
      refine x_ldc G d_M_field_28 kc_M_98 ?_
      exact m_iret E G d_M_field_30 hx rfl rfl ⟨_, rfl, MC.same hS (by simp only [fField, c4, tf, c16, Bool.and_true, Bool.true_and, Bool.and_false, Bool.false_and, Bool.or_true, Bool.true_or, Bool.or_false, Bool.false_or, Bool.not_true, Bool.not_false, Bool.false_eq_true, decide_true, decide_false, if_true, if_false])⟩
    · replace c16 := bI_n0.mp c16
      obtain ⟨q, hq, tq, rfl⟩ := upB_ex (by decide) c16
      refine x_aload0 G d_M_field_19 ?_
      refine x_iload1 G d_M_field_20 ?_
      refine x_iload2 G d_M_field_21 ?_
      refine m_callV_pi (p_M_inS (kg κ) (d - 1) _ S hS _ _ (by omega) (by first | decide | omega)) G d_M_field_22 lk_M_113 rfl ⟨by decide, rfl⟩ (by decide) (by omega) rfl (Nat.le_of_ble_eq_true rfl) hx ?_
      refine x_goto G d_M_field_25 ?_
      exact m_iret E G d_M_field_30 hx rfl rfl ⟨_, rfl, MC.same hS (by simp only [fField, c4, tf, c16, tq, Bool.and_true, Bool.true_and, Bool.and_false, Bool.false_and, Bool.or_true, Bool.true_or, Bool.or_false, Bool.false_or, Bool.not_true, Bool.not_false, Bool.false_eq_true, decide_true, decide_false, if_true, if_false])⟩
theorem p_M_lays (g : CX) (d : Nat) (hd : 2 ≤ d) (σ : Sg) (S : Rw) (hO : MO S σ) (fd what v : Int32) : RunM g d M_lays [.ref 113, .int fd, .int what, .int v] σ (PR (MC (fLays S fd what v) σ)) := by
  refine RunM.of 0 (by decide +kernel) rfl ?_
  intro κ hg hx hk0 G E
  subst hg
  have hk : 4 ≤ kn κ := Nat.le_of_eq hk0.symm
  show X κ NC 0 [some (.ref 113), some (.int fd), some (.int what), some (.int v)] [] (hv σ)
  obtain ⟨hS, hI, hJ, h9, hab⟩ := hO
  have hn8 := hI.n
  refine x_iload1 G d_M_lays_0 ?_
  refine m_callS_pi (p_M_isFi (kg κ) (d - 1) _ _) G d_M_lays_1 lk_M_92 (by omega) rfl (Nat.le_of_ble_eq_true rfl) hx ?_
  refine x_if_eq G d_M_lays_4 (fun c4 => ?_) (fun c4 => ?_)
  · replace c4 := bI_0.mp c4
    refine x_ldc G d_M_lays_52 kc_M_98 ?_
    exact m_iret E G d_M_lays_54 hx rfl rfl ⟨_, rfl, MC.same hS (by simp only [fLays, c4, Bool.and_true, Bool.true_and, Bool.and_false, Bool.false_and, Bool.or_true, Bool.true_or, Bool.or_false, Bool.false_or, Bool.not_true, Bool.not_false, Bool.false_eq_true, decide_true, decide_false, if_true, if_false])⟩
  · replace c4 := bI_n0.mp c4
    obtain ⟨f, hf, tf, rfl⟩ := upB_ex (by decide) c4
    refine x_iload2 G d_M_lays_7 ?_
    refine x_i2l G d_M_lays_8 ?_
    refine x_lconst (v := 0) G d_M_lays_9 rfl ?_
    refine x_ldc2 G d_M_lays_10 kc_M_148 ?_
    refine m_callS_pi (p_M_isUp (kg κ) (d - 1) _ _ 2 _ _ _ rfl (by decide +kernel) (by decide +kernel)) G d_M_lays_13 lk_M_82 (by omega) rfl (Nat.le_of_ble_eq_true rfl) hx ?_
    refine x_if_eq G d_M_lays_16 (fun c16 => ?_) (fun c16 => ?_)
    · replace c16 := bI_0.mp c16
      refine x_ldc G d_M_lays_52 kc_M_98 ?_
      exact m_iret E G d_M_lays_54 hx rfl rfl ⟨_, rfl, MC.same hS (by simp only [fLays, c4, tf, c16, Bool.and_true, Bool.true_and, Bool.and_false, Bool.false_and, Bool.or_true, Bool.true_or, Bool.or_false, Bool.false_or, Bool.not_true, Bool.not_false, Bool.false_eq_true, decide_true, decide_false, if_true, if_false])⟩
    · replace c16 := bI_n0.mp c16
      obtain ⟨q, hq, tq, rfl⟩ := upB_ex (by decide) c16
      refine x_iload3 G d_M_lays_19 ?_
      refine x_i2l G d_M_lays_20 ?_
      refine x_lconst (v := 0) G d_M_lays_21 rfl ?_
      refine x_iload2 G d_M_lays_22 ?_
      refine x_if_ne G d_M_lays_23 (fun c23 => ?_) (fun c23 => ?_)
      · refine x_iload2 G d_M_lays_32 ?_
        refine x_iconst (v := nI 1) G d_M_lays_33 rfl ?_
        refine x_icmp_ne G d_M_lays_34 (fun c34 => ?_) (fun c34 => ?_)
        · refine x_ldc2 G d_M_lays_43 kc_M_155 ?_
          refine m_callS_pi (p_M_isUp (kg κ) (d - 1) _ _ 4 _ _ _ rfl (by decide +kernel) (by decide +kernel)) G d_M_lays_46 lk_M_82 (by omega) rfl (Nat.le_of_ble_eq_true rfl) hx ?_
          refine x_if_ne G d_M_lays_49 (fun c49 => ?_) (fun c49 => ?_)
          · replace c49 := bI_n0.mp c49
            refine x_aload0 G d_M_lays_55 ?_
            refine x_bipush (v := nI 7) G d_M_lays_56 rfl ?_
            refine x_iconst (v := nI 3) G d_M_lays_58 rfl ?_
            refine x_iload1 G d_M_lays_59 ?_
            refine x_imul G d_M_lays_60 ?_
            refine x_iadd G d_M_lays_61 ?_
            refine x_iload2 G d_M_lays_62 ?_
            refine x_iadd G d_M_lays_63 ?_
            refine x_iload3 G d_M_lays_64 ?_
            refine m_callV_pi (p_M_becomesE (kg κ) (d - 1) _ S hS _ (ixF f q) (by simp only [pk_mul, nI_add]; exact congrArg nI (by unfold ixF; omega)) (by first | decide | (unfold ixP; omega) | (unfold ixF; omega)) _) G d_M_lays_65 lk_M_145 rfl ⟨by decide, rfl⟩ (by decide) (by omega) rfl (Nat.le_of_ble_eq_true rfl) hx ?_
            exact m_iret E G d_M_lays_68 hx rfl rfl ⟨_, rfl, MC.mk' (S1 := upd S (ixF f q) v) (v1 := S (ixF f q)) (by simp only [fLays, c4, tf, c16, tq, c23, c34, c49, Bool.and_true, Bool.true_and, Bool.and_false, Bool.false_and, Bool.or_true, Bool.true_or, Bool.or_false, Bool.false_or, Bool.not_true, Bool.not_false, Bool.false_eq_true, decide_true, decide_false, if_true, if_false]) rfl (row_set hS _ _) (OutN.refl.upd (by omega))⟩
          · replace c49 := bI_0.mp c49
            refine x_ldc G d_M_lays_52 kc_M_98 ?_
            exact m_iret E G d_M_lays_54 hx rfl rfl ⟨_, rfl, MC.same hS (by simp only [fLays, c4, tf, c16, tq, c23, c34, c49, Bool.and_true, Bool.true_and, Bool.and_false, Bool.false_and, Bool.or_true, Bool.true_or, Bool.or_false, Bool.false_or, Bool.not_true, Bool.not_false, Bool.false_eq_true, decide_true, decide_false, if_true, if_false])⟩
        · refine x_ldc2 G d_M_lays_37 kc_M_96 ?_
          refine x_goto G d_M_lays_40 ?_
          refine m_callS_pi (p_M_isUp (kg κ) (d - 1) _ _ 99 _ _ _ rfl (by decide +kernel) (by decide +kernel)) G d_M_lays_46 lk_M_82 (by omega) rfl (Nat.le_of_ble_eq_true rfl) hx ?_
          refine x_if_ne G d_M_lays_49 (fun c49 => ?_) (fun c49 => ?_)
          · replace c49 := bI_n0.mp c49
            refine x_aload0 G d_M_lays_55 ?_
            refine x_bipush (v := nI 7) G d_M_lays_56 rfl ?_
            refine x_iconst (v := nI 3) G d_M_lays_58 rfl ?_
            refine x_iload1 G d_M_lays_59 ?_
            refine x_imul G d_M_lays_60 ?_
            refine x_iadd G d_M_lays_61 ?_
            refine x_iload2 G d_M_lays_62 ?_
            refine x_iadd G d_M_lays_63 ?_
            refine x_iload3 G d_M_lays_64 ?_
            refine m_callV_pi (p_M_becomesE (kg κ) (d - 1) _ S hS _ (ixF f q) (by simp only [pk_mul, nI_add]; exact congrArg nI (by unfold ixF; omega)) (by first | decide | (unfold ixP; omega) | (unfold ixF; omega)) _) G d_M_lays_65 lk_M_145 rfl ⟨by decide, rfl⟩ (by decide) (by omega) rfl (Nat.le_of_ble_eq_true rfl) hx ?_
            exact m_iret E G d_M_lays_68 hx rfl rfl ⟨_, rfl, MC.mk' (S1 := upd S (ixF f q) v) (v1 := S (ixF f q)) (by simp only [fLays, c4, tf, c16, tq, c23, eq_true c34, c49, Bool.and_true, Bool.true_and, Bool.and_false, Bool.false_and, Bool.or_true, Bool.true_or, Bool.or_false, Bool.false_or, Bool.not_true, Bool.not_false, Bool.false_eq_true, decide_true, decide_false, if_true, if_false]) rfl (row_set hS _ _) (OutN.refl.upd (by omega))⟩
          · replace c49 := bI_0.mp c49
            refine x_ldc G d_M_lays_52 kc_M_98 ?_
            exact m_iret E G d_M_lays_54 hx rfl rfl ⟨_, rfl, MC.same hS (by simp only [fLays, c4, tf, c16, tq, c23, eq_true c34, c49, Bool.and_true, Bool.true_and, Bool.and_false, Bool.false_and, Bool.or_true, Bool.true_or, Bool.or_false, Bool.false_or, Bool.not_true, Bool.not_false, Bool.false_eq_true, decide_true, decide_false, if_true, if_false])⟩
      · refine x_ldc2 G d_M_lays_26 kc_M_150 ?_
        refine x_goto G d_M_lays_29 ?_
        refine m_callS_pi (p_M_isUp (kg κ) (d - 1) _ _ 8 _ _ _ rfl (by decide +kernel) (by decide +kernel)) G d_M_lays_46 lk_M_82 (by omega) rfl (Nat.le_of_ble_eq_true rfl) hx ?_
        refine x_if_ne G d_M_lays_49 (fun c49 => ?_) (fun c49 => ?_)
        · replace c49 := bI_n0.mp c49
          refine x_aload0 G d_M_lays_55 ?_
          refine x_bipush (v := nI 7) G d_M_lays_56 rfl ?_
          refine x_iconst (v := nI 3) G d_M_lays_58 rfl ?_
          refine x_iload1 G d_M_lays_59 ?_
          refine x_imul G d_M_lays_60 ?_
          refine x_iadd G d_M_lays_61 ?_
          refine x_iload2 G d_M_lays_62 ?_
          refine x_iadd G d_M_lays_63 ?_
          refine x_iload3 G d_M_lays_64 ?_
          refine m_callV_pi (p_M_becomesE (kg κ) (d - 1) _ S hS _ (ixF f q) (by simp only [pk_mul, nI_add]; exact congrArg nI (by unfold ixF; omega)) (by first | decide | (unfold ixP; omega) | (unfold ixF; omega)) _) G d_M_lays_65 lk_M_145 rfl ⟨by decide, rfl⟩ (by decide) (by omega) rfl (Nat.le_of_ble_eq_true rfl) hx ?_
          exact m_iret E G d_M_lays_68 hx rfl rfl ⟨_, rfl, MC.mk' (S1 := upd S (ixF f q) v) (v1 := S (ixF f q)) (by simp only [fLays, c4, tf, c16, tq, eq_true c23, c49, Bool.and_true, Bool.true_and, Bool.and_false, Bool.false_and, Bool.or_true, Bool.true_or, Bool.or_false, Bool.false_or, Bool.not_true, Bool.not_false, Bool.false_eq_true, decide_true, decide_false, if_true, if_false]) rfl (row_set hS _ _) (OutN.refl.upd (by omega))⟩
        · replace c49 := bI_0.mp c49
          refine x_ldc G d_M_lays_52 kc_M_98 ?_
          exact m_iret E G d_M_lays_54 hx rfl rfl ⟨_, rfl, MC.same hS (by simp only [fLays, c4, tf, c16, tq, eq_true c23, c49, Bool.and_true, Bool.true_and, Bool.and_false, Bool.false_and, Bool.or_true, Bool.true_or, Bool.or_false, Bool.false_or, Bool.not_true, Bool.not_false, Bool.false_eq_true, decide_true, decide_false, if_true, if_false])⟩
theorem p_M_far (g : CX) (d : Nat) (hd : 2 ≤ d) (σ : Sg) (S : Rw) (hO : MO S σ) (a b : Int32) : RunM g d M_far [.ref 113, .int a, .int b] σ (PR (MC (fFar S a b) σ)) := by
  refine RunM.of 0 (by decide +kernel) rfl ?_
  intro κ hg hx hk0 G E
  subst hg
  have hk : 3 ≤ kn κ := Nat.le_of_eq hk0.symm
  show X κ NC 0 [some (.ref 113), some (.int a), some (.int b)] [] (hv σ)
  obtain ⟨hS, hI, hJ, h9, hab⟩ := hO
  have hn8 := hI.n
  refine x_iload1 G d_M_far_0 ?_
  refine m_callS_pi (p_M_isFi (kg κ) (d - 1) _ _) G d_M_far_1 lk_M_92 (by omega) rfl (Nat.le_of_ble_eq_true rfl) hx ?_
  refine x_if_eq G d_M_far_4 (fun c4 => ?_) (fun c4 => ?_)
  · replace c4 := bI_0.mp c4
    refine x_ldc G d_M_far_22 kc_M_98 ?_
    exact m_iret E G d_M_far_24 hx rfl rfl ⟨_, rfl, MC.same hS (by simp only [fFar, c4, Bool.and_true, Bool.true_and, Bool.and_false, Bool.false_and, Bool.or_true, Bool.true_or, Bool.or_false, Bool.false_or, Bool.not_true, Bool.not_false, Bool.false_eq_true, decide_true, decide_false, if_true, if_false])⟩
  · replace c4 := bI_n0.mp c4
    obtain ⟨f, hf, tf, rfl⟩ := upB_ex (by decide) c4
    refine x_iload2 G d_M_far_7 ?_
    refine m_callS_pi (p_M_isFi (kg κ) (d - 1) _ _) G d_M_far_8 lk_M_92 (by omega) rfl (Nat.le_of_ble_eq_true rfl) hx ?_
    refine x_if_eq G d_M_far_11 (fun c11 => ?_) (fun c11 => ?_)
    · replace c11 := bI_0.mp c11
      refine x_ldc G d_M_far_22 kc_M_98 ?_
      exact m_iret E G d_M_far_24 hx rfl rfl ⟨_, rfl, MC.same hS (by simp only [fFar, c4, tf, c11, Bool.and_true, Bool.true_and, Bool.and_false, Bool.false_and, Bool.or_true, Bool.true_or, Bool.or_false, Bool.false_or, Bool.not_true, Bool.not_false, Bool.false_eq_true, decide_true, decide_false, if_true, if_false])⟩
    · replace c11 := bI_n0.mp c11
      obtain ⟨q, hq, tq, rfl⟩ := upB_ex (by decide) c11
      refine x_iload1 G d_M_far_14 ?_
      refine x_iload2 G d_M_far_15 ?_
      refine m_callS_pi (p_M_farOf (kg κ) (d - 1) (by omega) σ f q (by omega) (by omega)) G d_M_far_16 lk_M_110 (by omega) rfl (Nat.le_of_ble_eq_true rfl) hx ?_
      refine x_goto G d_M_far_19 ?_
      exact m_iret E G d_M_far_24 hx rfl rfl ⟨_, rfl, MC.same hS (by simp only [fFar, c4, tf, c11, tq, Bool.and_true, Bool.true_and, Bool.and_false, Bool.false_and, Bool.or_true, Bool.true_or, Bool.or_false, Bool.false_or, Bool.not_true, Bool.not_false, Bool.false_eq_true, decide_true, decide_false, if_true, if_false])⟩
theorem p_M_late (g : CX) (d : Nat) (hd : 2 ≤ d) (σ : Sg) (S : Rw) (hO : MO S σ) (v : Int32) : RunM g d M_late [.ref 113, .int v] σ (PR (MC (fLate S v) σ)) := by
  refine RunM.of 0 (by decide +kernel) rfl ?_
  intro κ hg hx hk0 G E
  subst hg
  have hk : 2 ≤ kn κ := Nat.le_of_eq hk0.symm
  show X κ NC 0 [some (.ref 113), some (.int v)] [] (hv σ)
  obtain ⟨hS, hI, hJ, h9, hab⟩ := hO
  have hn8 := hI.n
  refine x_iload1 G d_M_late_0 ?_
  refine x_i2l G d_M_late_1 ?_
  refine x_lconst (v := 0) G d_M_late_2 rfl ?_
  refine x_ldc2 G d_M_late_3 kc_M_157 ?_
  refine m_callS_pi (p_M_isUp (kg κ) (d - 1) _ _ 100 _ _ _ rfl (by decide +kernel) (by decide +kernel)) G d_M_late_6 lk_M_82 (by omega) rfl (Nat.le_of_ble_eq_true rfl) hx ?_
  refine x_if_eq G d_M_late_9 (fun c9 => ?_) (fun c9 => ?_)
  · replace c9 := bI_0.mp c9
    refine x_ldc G d_M_late_21 kc_M_98 ?_
    exact m_iret E G d_M_late_23 hx rfl rfl ⟨_, rfl, MC.same hS (by simp only [fLate, c9, Bool.and_true, Bool.true_and, Bool.and_false, Bool.false_and, Bool.or_true, Bool.true_or, Bool.or_false, Bool.false_or, Bool.not_true, Bool.not_false, Bool.false_eq_true, decide_true, decide_false, if_true, if_false])⟩
  · replace c9 := bI_n0.mp c9
    refine x_aload0 G d_M_late_12 ?_
    refine x_iconst (v := nI 5) G d_M_late_13 rfl ?_
    refine x_iload1 G d_M_late_14 ?_
    refine m_callV_pi (p_M_becomesE (kg κ) (d - 1) _ S hS _ (5) rfl (by first | decide | (unfold ixP; omega) | (unfold ixF; omega)) _) G d_M_late_15 lk_M_145 rfl ⟨by decide, rfl⟩ (by decide) (by omega) rfl (Nat.le_of_ble_eq_true rfl) hx ?_
    refine x_goto G d_M_late_18 ?_
    exact m_iret E G d_M_late_23 hx rfl rfl ⟨_, rfl, MC.mk' (S1 := upd S 5 v) (v1 := S 5) (by simp only [fLate, c9, Bool.and_true, Bool.true_and, Bool.and_false, Bool.false_and, Bool.or_true, Bool.true_or, Bool.or_false, Bool.false_or, Bool.not_true, Bool.not_false, Bool.false_eq_true, decide_true, decide_false, if_true, if_false]) rfl (row_set hS _ _) (OutN.refl.upd (by omega))⟩
theorem p_M_seed (g : CX) (d : Nat) (hd : 2 ≤ d) (σ : Sg) (S : Rw) (hO : MO S σ) (v : Int32) : RunM g d M_seed [.ref 113, .int v] σ (PR (MC (fSeed S v) σ)) := by
  refine RunM.of 0 (by decide +kernel) rfl ?_
  intro κ hg hx hk0 G E
  subst hg
  have hk : 2 ≤ kn κ := Nat.le_of_eq hk0.symm
  show X κ NC 0 [some (.ref 113), some (.int v)] [] (hv σ)
  obtain ⟨hS, hI, hJ, h9, hab⟩ := hO
  have hn8 := hI.n
  refine x_aload0 G d_M_seed_0 ?_
  refine x_bipush (v := nI 6) G d_M_seed_1 rfl ?_
  refine x_iload1 G d_M_seed_3 ?_
  refine m_callV_pi (p_M_becomesE (kg κ) (d - 1) _ S hS _ (6) rfl (by first | decide | (unfold ixP; omega) | (unfold ixF; omega)) _) G d_M_seed_4 lk_M_145 rfl ⟨by decide, rfl⟩ (by decide) (by omega) rfl (Nat.le_of_ble_eq_true rfl) hx ?_
  exact m_iret E G d_M_seed_7 hx rfl rfl ⟨_, rfl, MC.mk' (S1 := upd S 6 v) (v1 := S 6) (by simp only [fSeed, Bool.and_true, Bool.true_and, Bool.and_false, Bool.false_and, Bool.or_true, Bool.true_or, Bool.or_false, Bool.false_or, Bool.not_true, Bool.not_false, Bool.false_eq_true, decide_true, decide_false, if_true, if_false]) rfl (row_set hS _ _) (OutN.refl.upd (by omega))⟩
