/-! SHEETS: the class's -/
abbrev NONEi : Int32 := -1000000005
/-- the Sheet at q holds the sort, how many places, and the numbers v (NONEi: none) -/
def SHC (q : Nat) (so si : Int32) (v : Nat → Int32) (σ : Sg) : Prop := σ q 2 = so ∧ σ q 3 = si ∧ ∀ i, i < 24 → (v i = NONEi ∧ σ (q + 2) i = 1) ∨ (v i ≠ NONEi ∧ σ (q + 2) i = 0 ∧ σ (q + 1) i = v i)
theorem SHC.frame {q : Nat} {so si : Int32} {v : Nat → Int32} {σ σ' : Sg} (h : SHC q so si v σ) (h0 : σ' q = σ q) (h1 : σ' (q + 1) = σ (q + 1)) (h2 : σ' (q + 2) = σ (q + 2)) : SHC q so si v σ' := by
  unfold SHC; rw [h0, h1, h2]; exact h
theorem SHC.z {q : Nat} {so si : Int32} {v : Nat → Int32} {σ : Sg} (h : SHC q so si v σ) {i : Nat} (hi : i < 24) : σ (q + 2) i = bI (decide (v i = NONEi)) := by
  rcases h.2.2 i hi with ⟨a, b⟩ | ⟨a, b, _⟩
  · rw [b, decide_eq_true a]; rfl
  · rw [b, decide_eq_false a]; rfl
theorem SHC.v {q : Nat} {so si : Int32} {v : Nat → Int32} {σ : Sg} (h : SHC q so si v σ) {i : Nat} (hi : i < 24) (hn : v i ≠ NONEi) : σ (q + 1) i = v i := by
  rcases h.2.2 i hi with ⟨a, b⟩ | ⟨a, b, c⟩
  · exact absurd a hn
  · exact c
theorem NONE_0 : (0 : Int32) ≠ NONEi := by decide
theorem short_NONE (x : Int32) : x.toInt16.toInt32 ≠ NONEi := by
  intro h
  have := congrArg Int32.toInt h
  rw [Int16.toInt_toInt32] at this
  have h2 := x.toInt16.le_toInt
  have e : (NONEi : Int32).toInt = -1000000005 := by decide
  have e2 : Int16.minValue.toInt = -32768 := by decide
  omega
def numB (si : Int32) (v : Nat → Int32) (x : Int32) : Bool := isO si x && !(decide (v (tn x) = NONEi))
def hpB (si p n : Int32) : Bool := !(decide (p < 0)) && !(decide (si < p)) && !(decide (n < 0)) && !(decide (si - p < n))
def abI (x : Int32) : Int32 := if 0 ≤ x then x else 0 - x
def dfN (v c : Nat → Int32) : Nat → Int32
  | 0 => nI 0
  | k + 1 => if v k = NONEi then dfN v c k else dfN v c k + abI (v k - (if k < 9 then c k else nI 0))
theorem p_Sh_isMissing (g : CX) (d : Nat) (hd : 0 ≤ d) (σ : Sg) (q : Nat) (hw : isS q) : RunM g d Sh_isMissing [.ref q] σ (PI (bI (decide (σ q 2 = -1))) σ) := by
  refine RunM.of 0 (by decide +kernel) rfl ?_
  intro κ hg hx hk0 G E
  subst hg
  have hk : 1 ≤ kn κ := Nat.le_of_eq hk0.symm
  show X κ NC 0 [some (.ref q)] [] (hv σ)
  refine x_aload0 G d_Sh_isMissing_0 ?_
  refine m_geti G d_Sh_isMissing_1 fl_Sh_19 (S_o hw) (S_l hw) (S_ij hw 2 (by decide) (by decide)) ?_
  refine x_iconst (v := (-1)) G d_Sh_isMissing_4 rfl ?_
  refine x_icmp_ne G d_Sh_isMissing_5 (fun c5 => ?_) (fun c5 => ?_)
  · refine x_iconst (v := nI 0) G d_Sh_isMissing_12 rfl ?_
    exact m_iret E G d_Sh_isMissing_13 hx rfl rfl (pi_of (by simp [bI, nI_0, nI1, *]))
  · refine x_iconst (v := nI 1) G d_Sh_isMissing_8 rfl ?_
    refine x_goto G d_Sh_isMissing_9 ?_
    exact m_iret E G d_Sh_isMissing_13 hx rfl rfl (pi_of (by simp [bI, nI_0, nI1, *]))
theorem p_Sh_hasPlace (g : CX) (d : Nat) (hd : 0 ≤ d) (σ : Sg) (q : Nat) (hw : isS q) (x : Int32) : RunM g d Sh_hasPlace [.ref q, .int x] σ (PI (bI (isO (σ q 3) x)) σ) := by
  refine RunM.of 0 (by decide +kernel) rfl ?_
  intro κ hg hx hk0 G E
  subst hg
  have hk : 2 ≤ kn κ := Nat.le_of_eq hk0.symm
  show X κ NC 0 [some (.ref q), some (.int x)] [] (hv σ)
  refine x_iload1 G d_Sh_hasPlace_0 ?_
  refine x_if_lt G d_Sh_hasPlace_1 (fun c1 => ?_) (fun c1 => ?_)
  · refine x_iconst (v := nI 0) G d_Sh_hasPlace_16 rfl ?_
    exact m_iret E G d_Sh_hasPlace_17 hx rfl rfl (pi_of (by simp [bI, isO, nI_0, nI1, *]))
  · refine x_iload1 G d_Sh_hasPlace_4 ?_
    refine x_aload0 G d_Sh_hasPlace_5 ?_
    refine m_geti G d_Sh_hasPlace_6 fl_Sh_23 (S_o hw) (S_l hw) (S_ij hw 3 (by decide) (by decide)) ?_
    refine x_icmp_ge G d_Sh_hasPlace_9 (fun c9 => ?_) (fun c9 => ?_)
    · refine x_iconst (v := nI 0) G d_Sh_hasPlace_16 rfl ?_
      exact m_iret E G d_Sh_hasPlace_17 hx rfl rfl (pi_of (by simp [bI, isO, nI_0, nI1, *]))
    · refine x_iconst (v := nI 1) G d_Sh_hasPlace_12 rfl ?_
      refine x_goto G d_Sh_hasPlace_13 ?_
      exact m_iret E G d_Sh_hasPlace_17 hx rfl rfl (pi_of (by simp [bI, isO, nI_0, nI1, *]))
theorem p_Sh_hasPlaces (g : CX) (d : Nat) (hd : 0 ≤ d) (σ : Sg) (q : Nat) (hw : isS q) (x y : Int32) : RunM g d Sh_hasPlaces [.ref q, .int x, .int y] σ (PI (bI (hpB (σ q 3) x y)) σ) := by
  refine RunM.of 0 (by decide +kernel) rfl ?_
  intro κ hg hx hk0 G E
  subst hg
  have hk : 3 ≤ kn κ := Nat.le_of_eq hk0.symm
  show X κ NC 0 [some (.ref q), some (.int x), some (.int y)] [] (hv σ)
  refine x_iload1 G d_Sh_hasPlaces_0 ?_
  refine x_if_lt G d_Sh_hasPlaces_1 (fun c1 => ?_) (fun c1 => ?_)
  · refine x_iconst (v := nI 0) G d_Sh_hasPlaces_30 rfl ?_
    exact m_iret E G d_Sh_hasPlaces_31 hx rfl rfl (pi_of (by simp [bI, hpB, nI_0, nI1, *]))
  · refine x_iload1 G d_Sh_hasPlaces_4 ?_
    refine x_aload0 G d_Sh_hasPlaces_5 ?_
    refine m_geti G d_Sh_hasPlaces_6 fl_Sh_23 (S_o hw) (S_l hw) (S_ij hw 3 (by decide) (by decide)) ?_
    refine x_icmp_gt G d_Sh_hasPlaces_9 (fun c9 => ?_) (fun c9 => ?_)
    · refine x_iconst (v := nI 0) G d_Sh_hasPlaces_30 rfl ?_
      exact m_iret E G d_Sh_hasPlaces_31 hx rfl rfl (pi_of (by simp [bI, hpB, nI_0, nI1, *]))
    · refine x_iload2 G d_Sh_hasPlaces_12 ?_
      refine x_if_lt G d_Sh_hasPlaces_13 (fun c13 => ?_) (fun c13 => ?_)
      · refine x_iconst (v := nI 0) G d_Sh_hasPlaces_30 rfl ?_
        exact m_iret E G d_Sh_hasPlaces_31 hx rfl rfl (pi_of (by simp [bI, hpB, nI_0, nI1, *]))
      · refine x_iload2 G d_Sh_hasPlaces_16 ?_
        refine x_aload0 G d_Sh_hasPlaces_17 ?_
        refine m_geti G d_Sh_hasPlaces_18 fl_Sh_23 (S_o hw) (S_l hw) (S_ij hw 3 (by decide) (by decide)) ?_
        refine x_iload1 G d_Sh_hasPlaces_21 ?_
        refine x_isub G d_Sh_hasPlaces_22 ?_
        refine x_icmp_gt G d_Sh_hasPlaces_23 (fun c23 => ?_) (fun c23 => ?_)
        · refine x_iconst (v := nI 0) G d_Sh_hasPlaces_30 rfl ?_
          exact m_iret E G d_Sh_hasPlaces_31 hx rfl rfl (pi_of (by simp [bI, hpB, nI_0, nI1, *]))
        · refine x_iconst (v := nI 1) G d_Sh_hasPlaces_26 rfl ?_
          refine x_goto G d_Sh_hasPlaces_27 ?_
          exact m_iret E G d_Sh_hasPlaces_31 hx rfl rfl (pi_of (by simp [bI, hpB, nI_0, nI1, *]))
theorem p_Sh_isNumber (g : CX) (d : Nat) (hd : 1 ≤ d) (σ : Sg) (q : Nat) (hw : isS q) (so : Int32) (m : Nat) (hm : m ≤ 24) (v : Nat → Int32) (hH : SHC q so (nI m) v σ) (x : Int32) : RunM g d Sh_isNumber [.ref q, .int x] σ (PI (bI (numB (nI m) v x)) σ) := by
  refine RunM.of 0 (by decide +kernel) rfl ?_
  intro κ hg hx hk0 G E
  subst hg
  have hk : 2 ≤ kn κ := Nat.le_of_eq hk0.symm
  show X κ NC 0 [some (.ref q), some (.int x)] [] (hv σ)
  refine x_aload0 G d_Sh_isNumber_0 ?_
  refine x_iload1 G d_Sh_isNumber_1 ?_
  refine m_callV_pi (p_Sh_hasPlace (kg κ) (d - 1) (Nat.zero_le _) σ q hw x) G d_Sh_isNumber_2 lk_Sh_26 (S_o hw) ⟨by decide, rfl⟩ (S_l hw) (by omega) rfl (Nat.le_of_ble_eq_true rfl) hx ?_
  rw [hH.2.1]
  refine x_if_eq G d_Sh_isNumber_5 (fun c5 => ?_) (fun c5 => ?_)
  · replace c5 := bI_0.mp c5
    refine x_iconst (v := nI 0) G d_Sh_isNumber_21 rfl ?_
    exact m_iret E G d_Sh_isNumber_22 hx rfl rfl (pi_of (by unfold numB; rw [c5]; rfl))
  · replace c5 := bI_n0.mp c5
    obtain ⟨j, hj, tj, rfl⟩ := isO_ex (by omega) c5
    refine x_aload0 G d_Sh_isNumber_8 ?_
    refine m_getr G d_Sh_isNumber_9 fl_Sh_15 (S_o hw) (S_l hw) (S_r1 hw) ?_
    refine x_iload1 G d_Sh_isNumber_12 ?_
    refine m_zald j G d_Sh_isNumber_13 (S_s2 hw) rfl ⟨by omega, by first | decide | omega⟩ ?_
    rw [hH.z (show j < 24 by omega)]
    refine x_if_ne G d_Sh_isNumber_14 (fun c14 => ?_) (fun c14 => ?_)
    · replace c14 := bI_n0.mp c14
      refine x_iconst (v := nI 0) G d_Sh_isNumber_21 rfl ?_
      exact m_iret E G d_Sh_isNumber_22 hx rfl rfl (pi_of (by unfold numB; rw [c5, tj, c14]; rfl))
    · replace c14 := bI_0.mp c14
      refine x_iconst (v := nI 1) G d_Sh_isNumber_17 rfl ?_
      refine x_goto G d_Sh_isNumber_18 ?_
      exact m_iret E G d_Sh_isNumber_22 hx rfl rfl (pi_of (by unfold numB; rw [c5, tj, c14]; rfl))
theorem p_Sh_clear (g : CX) (d : Nat) (hd : 0 ≤ d) (σ : Sg) (q : Nat) (hw : isS q) (so si : Int32) : RunM g d Sh_clear [.ref q, .int so, .int si] σ (PV (fun σ1 => SHC q so si (fun _ => 0) σ1 ∧ ∀ c, c ≠ q → c ≠ q + 1 → c ≠ q + 2 → σ1 c = σ c)) := by
  refine RunM.of 1 (by decide +kernel) rfl ?_
  intro κ hg hx hk0 G E
  subst hg
  have hk : 4 ≤ kn κ := Nat.le_of_eq hk0.symm
  show X κ NC 0 [some (.ref q), some (.int so), some (.int si), none] [] (hv σ)
  refine x_aload0 G d_Sh_clear_0 ?_
  refine x_iload1 G d_Sh_clear_1 ?_
  refine m_puti_n G d_Sh_clear_2 fl_Sh_19 (S_o hw) (S_l hw) (S_ij hw 2 (by decide) (by decide)) rfl rfl (fun σ0 e0 => ?_)
  refine x_aload0 G d_Sh_clear_5 ?_
  refine x_iload2 G d_Sh_clear_6 ?_
  refine m_puti_n G d_Sh_clear_7 fl_Sh_23 (S_o hw) (S_l hw) (S_ij hw 3 (by decide) (by decide)) rfl rfl (fun σ1 e1 => ?_)
  refine x_iconst (v := nI 0) G d_Sh_clear_10 rfl ?_
  refine x_istore3 G d_Sh_clear_11 rfl hk ?_
  have hloop : ∀ (m i : Nat) (σ2 : Sg), i ≤ 24 → 24 < i + m → (∀ k, k < i → σ2 (q + 1) k = 0 ∧ σ2 (q + 2) k = 0) → σ2 q 2 = so → σ2 q 3 = si → (∀ c, c ≠ q → c ≠ q + 1 → c ≠ q + 2 → σ2 c = σ c) → X κ NC 12 [some (.ref q), some (.int so), some (.int si), some (.int (nI i))] [] (hv σ2) := by
    intro m
    induction m with
    | zero => intro i σ2 h1 h2; omega
    | succ m ih =>
      intro i σ2 hi1 hi2 hz h2 h3 hF
      refine x_iload3 G d_Sh_clear_12 ?_
      refine x_bipush (v := nI 24) G d_Sh_clear_13 rfl ?_
      refine x_icmp_ge G d_Sh_clear_15 (fun c15 => ?_) (fun c15 => ?_)
      · have hi24 : i = 24 := by rw [nle (by omega) (by omega)] at c15; omega
        exact m_vret E G d_Sh_clear_38 hx rfl ⟨rfl, ⟨h2, h3, fun k hk => Or.inr ⟨NONE_0, (hz k (by omega)).2, (hz k (by omega)).1⟩⟩, hF⟩
      · have hi24 : i < 24 := by rw [nle (by omega) (by omega)] at c15; omega
        refine x_aload0 G d_Sh_clear_18 ?_
        refine m_getr G d_Sh_clear_19 fl_Sh_9 (S_o hw) (S_l hw) (S_r0 hw) ?_
        refine x_iload3 G d_Sh_clear_22 ?_
        refine x_iconst (v := nI 0) G d_Sh_clear_23 rfl ?_
        refine m_iast_n i G d_Sh_clear_24 (S_s1 hw) rfl ⟨by omega, by first | decide | omega⟩ (fun σ3 e3 => ?_)
        refine x_aload0 G d_Sh_clear_25 ?_
        refine m_getr G d_Sh_clear_26 fl_Sh_15 (S_o hw) (S_l hw) (S_r1 hw) ?_
        refine x_iload3 G d_Sh_clear_29 ?_
        refine x_iconst (v := nI 0) G d_Sh_clear_30 rfl ?_
        refine m_zast_n i G d_Sh_clear_31 (S_s2 hw) rfl ⟨by omega, by first | decide | omega⟩ (by first | exact Or.inl rfl | exact Or.inr rfl) (fun σ4 e4 => ?_)
        refine x_iinc3 (v := nI (i + 1)) G d_Sh_clear_32 rfl hk (nI_1 _) ?_
        refine x_goto G d_Sh_clear_35 ?_
        exact ih (i + 1) σ4 (by omega) (by omega) (fun k hk => if e : k = i then (by rw [e, e4, updS_at, updS_ne (by omega), e3, updS_at]; exact ⟨rfl, rfl⟩) else (by rw [e4, updS_nk (by omega), updS_ne (by omega), e3, updS_ne (by omega), updS_nk (by omega)]; exact hz k (by omega))) (by rw [e4, updS_nk (by omega), e3, updS_nk (by omega)]; exact h2) (by rw [e4, updS_nk (by omega), e3, updS_nk (by omega)]; exact h3) (fun c a b d => by rw [e4, updS_nk d, e3, updS_nk b]; exact hF c a b d)
  exact hloop 25 0 σ1 (by decide) (by decide) (fun k hk => absurd hk (Nat.not_lt_zero k)) (by rw [e1, updS_ne (by omega), e0, updS_at]) (by rw [e1, updS_at]) (fun c a b d => by rw [e1, updS_nk a, e0, updS_nk a])
theorem p_Sh_put (g : CX) (d : Nat) (hd : 0 ≤ d) (σ : Sg) (q : Nat) (hw : isS q) (so si : Int32) (v : Nat → Int32) (hH : SHC q so si v σ) (p : Nat) (hp : p < 24) (x : Int32) (hsn : so = 0 → x ≠ NONEi) : RunM g d Sh_put [.ref q, .int (nI p), .int x] σ (PV (fun σ1 => SHC q so si (upd v p (if so = 0 then x.toInt16.toInt32 else x)) σ1 ∧ ∀ c, c ≠ q → c ≠ q + 1 → c ≠ q + 2 → σ1 c = σ c)) := by
  refine RunM.of 0 (by decide +kernel) rfl ?_
  intro κ hg hx hk0 G E
  subst hg
  have hk : 3 ≤ kn κ := Nat.le_of_eq hk0.symm
  show X κ NC 0 [some (.ref q), some (.int (nI p)), some (.int x)] [] (hv σ)
  refine x_aload0 G d_Sh_put_0 ?_
  refine m_getr G d_Sh_put_1 fl_Sh_15 (S_o hw) (S_l hw) (S_r1 hw) ?_
  refine x_iload1 G d_Sh_put_4 ?_
  refine x_iload2 G d_Sh_put_5 ?_
  refine x_ldc G d_Sh_put_6 kc_Sh_30 ?_
  refine x_icmp_ne G d_Sh_put_8 (fun c8 => ?_) (fun c8 => ?_)
  · refine x_iconst (v := nI 0) G d_Sh_put_15 rfl ?_
    refine m_zast_n p G d_Sh_put_16 (S_s2 hw) rfl ⟨hp, by first | decide | omega⟩ (by first | exact Or.inl rfl | exact Or.inr rfl) (fun σ2 e2 => ?_)
    refine x_aload0 G d_Sh_put_17 ?_
    refine m_getr G d_Sh_put_18 fl_Sh_9 (S_o hw) (S_l hw) (S_r0 hw) ?_
    refine x_iload1 G d_Sh_put_21 ?_
    refine x_aload0 G d_Sh_put_22 ?_
    refine m_geti G d_Sh_put_23 fl_Sh_19 (S_o hw) (S_l hw) (S_ij hw 2 (by decide) (by decide)) ?_
    rw [show σ2 q 2 = so by rw [e2, updS_nk (by omega)]; exact hH.1]
    refine x_if_ne G d_Sh_put_26 (fun c26 => ?_) (fun c26 => ?_)
    · refine x_iload2 G d_Sh_put_34 ?_
      refine m_iast_n p G d_Sh_put_35 (S_s1 hw) rfl ⟨hp, by first | decide | omega⟩ (fun σ3 e3 => ?_)
      exact m_vret E G d_Sh_put_36 hx rfl ⟨rfl, ⟨by rw [e3, updS_nk (by omega), e2, updS_nk (by omega)]; exact hH.1, by rw [e3, updS_nk (by omega), e2, updS_nk (by omega)]; exact hH.2.1, fun k hk => if e : k = p then (by rw [e]; exact Or.inr ⟨by rw [pk_us, if_neg c26]; exact c8, by rw [e3, updS_nk (by omega), e2, updS_at]; rfl, by rw [pk_us, e3, updS_at, if_neg c26]⟩) else (by rw [pk_un e, e3, updS_nk (show q + 2 ≠ q + 1 by omega), updS_ne (show ¬ (q + 1 = q + 1 ∧ k = p) by omega), e2, updS_nk (show q + 1 ≠ q + 2 by omega), updS_ne (show ¬ (q + 2 = q + 2 ∧ k = p) by omega)]; exact hH.2.2 k hk)⟩, (fun c a b d => by rw [e3, updS_nk b, e2, updS_nk d])⟩
    · refine x_iload2 G d_Sh_put_29 ?_
      refine x_i2s G d_Sh_put_30 ?_
      refine x_goto G d_Sh_put_31 ?_
      refine m_iast_n p G d_Sh_put_35 (S_s1 hw) rfl ⟨hp, by first | decide | omega⟩ (fun σ3 e3 => ?_)
      exact m_vret E G d_Sh_put_36 hx rfl ⟨rfl, ⟨by rw [e3, updS_nk (by omega), e2, updS_nk (by omega)]; exact hH.1, by rw [e3, updS_nk (by omega), e2, updS_nk (by omega)]; exact hH.2.1, fun k hk => if e : k = p then (by rw [e]; exact Or.inr ⟨by rw [pk_us, if_pos c26]; exact short_NONE x, by rw [e3, updS_nk (by omega), e2, updS_at]; rfl, by rw [pk_us, e3, updS_at, if_pos c26]⟩) else (by rw [pk_un e, e3, updS_nk (show q + 2 ≠ q + 1 by omega), updS_ne (show ¬ (q + 1 = q + 1 ∧ k = p) by omega), e2, updS_nk (show q + 1 ≠ q + 2 by omega), updS_ne (show ¬ (q + 2 = q + 2 ∧ k = p) by omega)]; exact hH.2.2 k hk)⟩, (fun c a b d => by rw [e3, updS_nk b, e2, updS_nk d])⟩
  · refine x_iconst (v := nI 1) G d_Sh_put_11 rfl ?_
    refine x_goto G d_Sh_put_12 ?_
    refine m_zast_n p G d_Sh_put_16 (S_s2 hw) rfl ⟨hp, by first | decide | omega⟩ (by first | exact Or.inl rfl | exact Or.inr rfl) (fun σ2 e2 => ?_)
    refine x_aload0 G d_Sh_put_17 ?_
    refine m_getr G d_Sh_put_18 fl_Sh_9 (S_o hw) (S_l hw) (S_r0 hw) ?_
    refine x_iload1 G d_Sh_put_21 ?_
    refine x_aload0 G d_Sh_put_22 ?_
    refine m_geti G d_Sh_put_23 fl_Sh_19 (S_o hw) (S_l hw) (S_ij hw 2 (by decide) (by decide)) ?_
    rw [show σ2 q 2 = so by rw [e2, updS_nk (by omega)]; exact hH.1]
    refine x_if_ne G d_Sh_put_26 (fun c26 => ?_) (fun c26 => ?_)
    · refine x_iload2 G d_Sh_put_34 ?_
      refine m_iast_n p G d_Sh_put_35 (S_s1 hw) rfl ⟨hp, by first | decide | omega⟩ (fun σ3 e3 => ?_)
      exact m_vret E G d_Sh_put_36 hx rfl ⟨rfl, ⟨by rw [e3, updS_nk (by omega), e2, updS_nk (by omega)]; exact hH.1, by rw [e3, updS_nk (by omega), e2, updS_nk (by omega)]; exact hH.2.1, fun k hk => if e : k = p then (by rw [e]; exact Or.inl ⟨by rw [pk_us, if_neg c26]; exact c8, by rw [e3, updS_nk (by omega), e2, updS_at]; rfl⟩) else (by rw [pk_un e, e3, updS_nk (show q + 2 ≠ q + 1 by omega), updS_ne (show ¬ (q + 1 = q + 1 ∧ k = p) by omega), e2, updS_nk (show q + 1 ≠ q + 2 by omega), updS_ne (show ¬ (q + 2 = q + 2 ∧ k = p) by omega)]; exact hH.2.2 k hk)⟩, (fun c a b d => by rw [e3, updS_nk b, e2, updS_nk d])⟩
    · refine x_iload2 G d_Sh_put_29 ?_
      refine x_i2s G d_Sh_put_30 ?_
      refine x_goto G d_Sh_put_31 ?_
      refine m_iast_n p G d_Sh_put_35 (S_s1 hw) rfl ⟨hp, by first | decide | omega⟩ (fun σ3 e3 => ?_)
      exact m_vret E G d_Sh_put_36 hx rfl (absurd c8 (hsn c26))
theorem S_d2 {q q2 : Nat} (h : isS q) (h2 : isS q2) : q2 + 2 ≠ q + 1 := by unfold isS at h h2; omega
theorem p_Sh_take (g : CX) (d : Nat) (hd : 1 ≤ d) (σ : Sg) (q : Nat) (hw : isS q) (so si so2 si2 : Int32) (v v2 : Nat → Int32) (hH : SHC q so si v σ) (q2 : Nat) (hw2 : isS q2) (hH2 : SHC q2 so2 si2 v2 σ) (p a m : Nat) (hpm : p + m ≤ 24) (ham : a + m ≤ 24) : RunM g d Sh_take [.ref q, .ref q2, .int (nI p), .int (nI a), .int (nI m)] σ (PV (fun σ1 => SHC q so si (va_cpy v2 v p a m) σ1 ∧ ∀ c, c ≠ q + 1 → c ≠ q + 2 → σ1 c = σ c)) := by
  refine RunM.of 0 (by decide +kernel) rfl ?_
  intro κ hg hx hk0 G E
  subst hg
  have hk : 5 ≤ kn κ := Nat.le_of_eq hk0.symm
  show X κ NC 0 [some (.ref q), some (.ref q2), some (.int (nI p)), some (.int (nI a)), some (.int (nI m))] [] (hv σ)
  refine x_aload1 G d_Sh_take_0 ?_
  refine m_getr G d_Sh_take_1 fl_Sh_9 (S_o hw2) (S_l hw2) (S_r0 hw2) ?_
  refine x_iload2 G d_Sh_take_4 ?_
  refine x_aload0 G d_Sh_take_5 ?_
  refine m_getr G d_Sh_take_6 fl_Sh_9 (S_o hw) (S_l hw) (S_r0 hw) ?_
  refine x_iload3 G d_Sh_take_9 ?_
  refine x_iload4 G d_Sh_take_10 ?_
  refine m_cpy p a m lm_Sh_31 G d_Sh_take_12 (by decide) (S_s1 hw2) (S_s1 hw) (shp_lt (S_s1 hw2) (by decide)) (shp_lt (S_s1 hw) (by decide)) rfl rfl rfl ⟨by omega, by decide⟩ ⟨by omega, by decide⟩ (fun h => absurd h (by decide)) (by omega) (Nat.le_of_ble_eq_true rfl) ?_
  obtain ⟨σ2, e2⟩ : ∃ z, z = updR σ (q + 1) (va_cpy (σ (q2 + 1)) (σ (q + 1)) p a m) := ⟨_, rfl⟩
  rw [← e2]
  have hd2 : q2 + 2 ≠ q + 1 := S_d2 hw hw2
  have z2 : σ2 (q2 + 2) = σ (q2 + 2) := by rw [e2, updR_nk hd2]
  refine x_aload1 G d_Sh_take_15 ?_
  refine m_getr G d_Sh_take_16 fl_Sh_15 (S_o hw2) (S_l hw2) (S_r1 hw2) ?_
  refine x_iload2 G d_Sh_take_19 ?_
  refine x_aload0 G d_Sh_take_20 ?_
  refine m_getr G d_Sh_take_21 fl_Sh_15 (S_o hw) (S_l hw) (S_r1 hw) ?_
  refine x_iload3 G d_Sh_take_24 ?_
  refine x_iload4 G d_Sh_take_25 ?_
  refine m_cpy p a m lm_Sh_31 G d_Sh_take_27 (by decide) (S_s2 hw2) (S_s2 hw) (shp_lt (S_s2 hw2) (by decide)) (shp_lt (S_s2 hw) (by decide)) rfl rfl rfl ⟨by omega, by decide⟩ ⟨by omega, by decide⟩ (fun _ i hi => by rw [z2, hH2.z (show p + i < 24 by omega)]; exact bI_o _) (by omega) (Nat.le_of_ble_eq_true rfl) ?_
  obtain ⟨σ3, e3⟩ : ∃ z, z = updR σ2 (q + 2) (va_cpy (σ2 (q2 + 2)) (σ2 (q + 2)) p a m) := ⟨_, rfl⟩
  rw [← e3]
  exact m_vret E G d_Sh_take_30 hx rfl ⟨rfl, ⟨by rw [e3, updR_nk (by omega), e2, updR_nk (by omega)]; exact hH.1, by rw [e3, updR_nk (by omega), e2, updR_nk (by omega)]; exact hH.2.1, fun k hk => by
      rw [e3, updR_at, updR_nk (show q + 1 ≠ q + 2 by omega), z2, e2, updR_at, updR_nk (show q + 2 ≠ q + 1 by omega)]
      by_cases w : a ≤ k ∧ k < a + m
      · rw [pk_cpy_in w.1 w.2, pk_cpy_in w.1 w.2, pk_cpy_in w.1 w.2]; exact hH2.2.2 (p + (k - a)) (by omega)
      · rw [pk_cpy_out (by omega), pk_cpy_out (by omega), pk_cpy_out (by omega)]; exact hH.2.2 k hk⟩, (fun c x y => by rw [e3, updR_nk y, e2, updR_nk x])⟩
theorem p_Sh_become (g : CX) (d : Nat) (hd : 2 ≤ d) (σ : Sg) (q : Nat) (hw : isS q) (so si so2 si2 : Int32) (v v2 : Nat → Int32) (hH : SHC q so si v σ) (q2 : Nat) (hw2 : isS q2) (hH2 : SHC q2 so2 si2 v2 σ) (hne : q ≠ q2) : RunM g d Sh_become [.ref q, .ref q2] σ (PV (fun σ1 => SHC q so2 si2 v2 σ1 ∧ ∀ c, c ≠ q → c ≠ q + 1 → c ≠ q + 2 → σ1 c = σ c)) := by
  refine RunM.of 0 (by decide +kernel) rfl ?_
  intro κ hg hx hk0 G E
  subst hg
  have hk : 2 ≤ kn κ := Nat.le_of_eq hk0.symm
  show X κ NC 0 [some (.ref q), some (.ref q2)] [] (hv σ)
  refine x_aload0 G d_Sh_become_0 ?_
  refine x_aload1 G d_Sh_become_1 ?_
  refine m_geti G d_Sh_become_2 fl_Sh_19 (S_o hw2) (S_l hw2) (S_ij hw2 2 (by decide) (by decide)) ?_
  refine m_puti_n G d_Sh_become_5 fl_Sh_19 (S_o hw) (S_l hw) (S_ij hw 2 (by decide) (by decide)) rfl rfl (fun σ1 e1 => ?_)
  refine x_aload0 G d_Sh_become_8 ?_
  refine x_aload1 G d_Sh_become_9 ?_
  refine m_geti G d_Sh_become_10 fl_Sh_23 (S_o hw2) (S_l hw2) (S_ij hw2 3 (by decide) (by decide)) ?_
  refine m_puti_n G d_Sh_become_13 fl_Sh_23 (S_o hw) (S_l hw) (S_ij hw 3 (by decide) (by decide)) rfl rfl (fun σ2 e2 => ?_)
  have hnq : q2 ≠ q ∧ q2 ≠ q + 1 ∧ q2 ≠ q + 2 ∧ q2 + 1 ≠ q ∧ q2 + 2 ≠ q := by unfold isS at hw hw2; omega
  have f1 : SHC q so2 si2 v σ2 := ⟨by rw [e2, updS_ne (by omega), e1, updS_at]; exact hH2.1, by rw [e2, updS_at, e1, updS_ne (by omega)]; exact hH2.2.1, fun k hk => by rw [e2, updS_nk (by omega), updS_nk (by omega), e1, updS_nk (by omega), updS_nk (by omega)]; exact hH.2.2 k hk⟩
  have f2 : SHC q2 so2 si2 v2 σ2 := hH2.frame (by rw [e2, updS_nk hnq.1, e1, updS_nk hnq.1]) (by rw [e2, updS_nk hnq.2.2.2.1, e1, updS_nk hnq.2.2.2.1]) (by rw [e2, updS_nk hnq.2.2.2.2, e1, updS_nk hnq.2.2.2.2])
  refine x_aload0 G d_Sh_become_16 ?_
  refine x_aload1 G d_Sh_become_17 ?_
  refine x_iconst (v := nI 0) G d_Sh_become_18 rfl ?_
  refine x_iconst (v := nI 0) G d_Sh_become_19 rfl ?_
  refine x_bipush (v := nI 24) G d_Sh_become_20 rfl ?_
  refine m_callV_pv (p_Sh_take (kg κ) (d - 1) (by omega) σ2 q hw so2 si2 so2 si2 v v2 f1 q2 hw2 f2 0 0 24 (by decide) (by decide)) G d_Sh_become_22 lk_Sh_37 (S_o hw) ⟨by decide, rfl⟩ (S_l hw) (by omega) rfl (Nat.le_of_ble_eq_true rfl) hx (fun σ3 ⟨g1, g2⟩ => ?_)
  exact m_vret E G d_Sh_become_25 hx rfl ⟨rfl, ⟨g1.1, g1.2.1, fun k hk => by
      have := g1.2.2 k hk
      rw [pk_cpy_in (Nat.zero_le _) (by omega), show 0 + (k - 0) = k by omega] at this
      exact this⟩, (fun c x y z => by rw [g2 c y z, e2, updS_nk x, e1, updS_nk x])⟩
theorem p_Sh_differences (g : CX) (d : Nat) (hd : 2 ≤ d) (σ : Sg) (q : Nat) (hw : isS q) (so : Int32) (m : Nat) (hm : m ≤ 24) (v : Nat → Int32) (hH : SHC q so (nI m) v σ) (r : Nat) (hs : shp r = .inr (0, 9)) : RunM g d Sh_differences [.ref q, .ref r] σ (PI (dfN v (σ r) m) σ) := by
  refine RunM.of 2 (by decide +kernel) rfl ?_
  intro κ hg hx hk0 G E
  subst hg
  have hk : 4 ≤ kn κ := Nat.le_of_eq hk0.symm
  show X κ NC 0 [some (.ref q), some (.ref r), none, none] [] (hv σ)
  refine x_iconst (v := nI 0) G d_Sh_differences_0 rfl ?_
  refine x_istore2 G d_Sh_differences_1 rfl hk ?_
  refine x_iconst (v := nI 0) G d_Sh_differences_2 rfl ?_
  refine x_istore3 G d_Sh_differences_3 rfl hk ?_
  have hloop : ∀ (z i : Nat), i ≤ m → m < i + z → X κ NC 4 [some (.ref q), some (.ref r), some (.int (dfN v (σ r) i)), some (.int (nI i))] [] (hv σ) := by
    intro z
    induction z with
    | zero => intro i h1 h2; omega
    | succ z ih =>
      intro i hi1 hi2
      refine x_iload3 G d_Sh_differences_4 ?_
      refine x_aload0 G d_Sh_differences_5 ?_
      refine m_geti G d_Sh_differences_6 fl_Sh_23 (S_o hw) (S_l hw) (S_ij hw 3 (by decide) (by decide)) ?_
      rw [show σ q 3 = nI m from hH.2.1]
      refine x_icmp_ge G d_Sh_differences_9 (fun c9 => ?_) (fun c9 => ?_)
      · have him : i = m := by rw [nle (by omega) (by omega)] at c9; omega
        refine x_iload2 G d_Sh_differences_52 ?_
        exact m_iret E G d_Sh_differences_53 hx rfl rfl (pi_of (by rw [him]))
      · have him : i < m := by rw [nle (by omega) (by omega)] at c9; omega
        have tni : tn (nI i) = i := tn_nI (by omega)
        refine x_aload0 G d_Sh_differences_12 ?_
        refine x_iload3 G d_Sh_differences_13 ?_
        refine m_callV_pi (p_Sh_isNumber (kg κ) (d - 1) (by omega) σ q hw so m hm v hH _) G d_Sh_differences_14 lk_Sh_41 (S_o hw) ⟨by decide, rfl⟩ (S_l hw) (by omega) rfl (Nat.le_of_ble_eq_true rfl) hx ?_
        refine x_if_eq G d_Sh_differences_17 (fun c17 => ?_) (fun c17 => ?_)
        · have hN : v i = NONEi := by
            have z := bI_0.mp c17
            unfold numB at z
            rw [tni, isO_nI (by omega) (by omega), decide_eq_true him, Bool.true_and, Bool.not_eq_false', decide_eq_true_eq] at z
            exact z
          have e1 : dfN v (σ r) (i + 1) = dfN v (σ r) i := by rw [dfN, if_pos hN]
          refine x_iinc3 (v := nI (i + 1)) G d_Sh_differences_46 rfl hk (nI_1 _) ?_
          refine x_goto G d_Sh_differences_49 ?_
          rw [← e1]; exact ih (i + 1) (by omega) (by omega)
        · have hN : ¬ v i = NONEi := by
            have z := bI_n0.mp c17
            unfold numB at z
            rw [tni, isO_nI (by omega) (by omega), decide_eq_true him, Bool.true_and, Bool.not_eq_true', decide_eq_false_iff_not] at z
            exact z
          refine x_iload2 G d_Sh_differences_20 ?_
          refine x_aload0 G d_Sh_differences_21 ?_
          refine m_getr G d_Sh_differences_22 fl_Sh_9 (S_o hw) (S_l hw) (S_r0 hw) ?_
          refine x_iload3 G d_Sh_differences_25 ?_
          refine m_iald i G d_Sh_differences_26 (S_s1 hw) rfl ⟨by omega, by first | decide | omega⟩ ?_
          rw [hH.v (show i < 24 by omega) hN]
          refine x_iload3 G d_Sh_differences_27 ?_
          refine x_aload1 G d_Sh_differences_28 ?_
          refine m_alen G d_Sh_differences_29 hs (by decide) (shp_lt hs (by decide)) rfl ?_
          refine x_icmp_ge G d_Sh_differences_30 (fun c30 => ?_) (fun c30 => ?_)
          · have h9 : ¬ i < 9 := by have c : nI 9 ≤ nI i := c30; rw [nle (by decide) (by omega)] at c; omega
            have ek : (if i < 9 then σ r i else nI 0) = nI 0 := if_neg h9
            refine x_iconst (v := nI 0) G d_Sh_differences_39 rfl ?_
            refine x_isub G d_Sh_differences_40 ?_
            refine x_abs lm_Sh_44 G d_Sh_differences_41 (by omega) (Nat.le_of_ble_eq_true rfl) (Nat.le_of_eq hx.symm) ?_
            refine x_iadd G d_Sh_differences_44 ?_
            refine x_istore2 G d_Sh_differences_45 rfl hk ?_
            refine x_iinc3 (v := nI (i + 1)) G d_Sh_differences_46 rfl hk (nI_1 _) ?_
            refine x_goto G d_Sh_differences_49 ?_
            have e1 : dfN v (σ r) (i + 1) = dfN v (σ r) i + abI (v i - (if i < 9 then σ r i else nI 0)) := by rw [dfN, if_neg hN]
            rw [ek] at e1
            rw [show dfN v (σ r) i + abI (v i - nI 0) = dfN v (σ r) i + (if 0 ≤ v i - nI 0 then v i - nI 0 else 0 - (v i - nI 0)) from rfl] at e1
            rw [← e1]; exact ih (i + 1) (by omega) (by omega)
          · have h9 : i < 9 := by have c : ¬ nI 9 ≤ nI i := c30; rw [nle (by decide) (by omega)] at c; omega
            have ek : (if i < 9 then σ r i else nI 0) = σ r i := if_pos h9
            refine x_aload1 G d_Sh_differences_33 ?_
            refine x_iload3 G d_Sh_differences_34 ?_
            refine m_iald i G d_Sh_differences_35 hs rfl ⟨h9, by first | decide | omega⟩ ?_
            refine x_goto G d_Sh_differences_36 ?_
            refine x_isub G d_Sh_differences_40 ?_
            refine x_abs lm_Sh_44 G d_Sh_differences_41 (by omega) (Nat.le_of_ble_eq_true rfl) (Nat.le_of_eq hx.symm) ?_
            refine x_iadd G d_Sh_differences_44 ?_
            refine x_istore2 G d_Sh_differences_45 rfl hk ?_
            refine x_iinc3 (v := nI (i + 1)) G d_Sh_differences_46 rfl hk (nI_1 _) ?_
            refine x_goto G d_Sh_differences_49 ?_
            have e1 : dfN v (σ r) (i + 1) = dfN v (σ r) i + abI (v i - (if i < 9 then σ r i else nI 0)) := by rw [dfN, if_neg hN]
            rw [ek] at e1
            rw [show dfN v (σ r) i + abI (v i - σ r i) = dfN v (σ r) i + (if 0 ≤ v i - σ r i then v i - σ r i else 0 - (v i - σ r i)) from rfl] at e1
            rw [← e1]; exact ih (i + 1) (by omega) (by omega)
  exact hloop (m + 1) 0 (Nat.zero_le _) (by omega)
