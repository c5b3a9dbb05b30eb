/-! the kinds: what each answers, and each method's contract -/
def isOfB (j : Nat) (x : Int32) : Bool := decide (x = nI j) || decide (x = 0) || (decide (x = nI 1) && decide (j = 3)) || (decide (x = nI 2) && decide (j = 4))
def pacesB (j : Nat) (x : Int32) : Int32 := match j with
  | 1 => nI 2 * x
  | 2 => x / nI 2
  | 3 => nI 2 * x + nI 5
  | 4 => if nI 0 < x / nI 2 - nI 3 then x / nI 2 - nI 3 else nI 0
  | 5 => nI 0
  | _ => x
def mayB (j : Nat) (own : Bool) (far corn : Int32) : Bool := match j with
  | 3 => !own && !(decide (nI 2 < far))
  | 4 => !own || decide (corn = 0)
  | 5 => true
  | _ => !own
def worthB (j : Nat) (h : Int32) : Int32 := match j with
  | 1 => h + nI 4
  | 2 => nI 99 - h
  | 3 => nI 2 * (h + nI 4)
  | 4 => nI 99 - h - nI 6
  | 5 => nI 3
  | _ => h
theorem p_Nb_isOf (g : CX) (d : Nat) (hd : 0 ≤ d) (σ : Sg) (k : Nat) (x : Int32) : RunM g d Nb_isOf [.ref k, .int x] σ (PI (bI (decide (x = 0))) σ) := by
  refine RunM.of 0 (by decide +kernel) rfl ?_
  intro κ hg hx hk0 G E
  subst hg
  have hk : 2 ≤ kn κ := Nat.le_of_eq hk0.symm
  show X κ NC 0 [some (.ref k), some (.int x)] [] (hv σ)
  refine x_iload1 G d_Nb_isOf_0 ?_
  refine x_if_ne G d_Nb_isOf_1 (fun c1 => ?_) (fun c1 => ?_)
  · refine x_iconst (v := nI 0) G d_Nb_isOf_8 rfl ?_
    exact m_iret E G d_Nb_isOf_9 hx rfl rfl ⟨by simp [bI, nI_0, nI1, *], rfl⟩
  · refine x_iconst (v := nI 1) G d_Nb_isOf_4 rfl ?_
    refine x_goto G d_Nb_isOf_5 ?_
    exact m_iret E G d_Nb_isOf_9 hx rfl rfl ⟨by simp [bI, nI_0, nI1, *], rfl⟩
theorem p_La_isOf (g : CX) (d : Nat) (hd : 1 ≤ d) (σ : Sg) (k ci : Nat) (hs : shp k = .inl ci) (hci : ci < 13) (hk9 : k < 135) (x : Int32) : RunM g d La_isOf [.ref k, .int x] σ (PI (bI (decide (x = nI 1) || decide (x = 0))) σ) := by
  refine RunM.of 0 (by decide +kernel) rfl ?_
  intro κ hg hx hk0 G E
  subst hg
  have hk : 2 ≤ kn κ := Nat.le_of_eq hk0.symm
  show X κ NC 0 [some (.ref k), some (.int x)] [] (hv σ)
  refine x_iload1 G d_La_isOf_0 ?_
  refine x_iconst (v := nI 1) G d_La_isOf_1 rfl ?_
  refine x_icmp_eq G d_La_isOf_2 (fun c2 => ?_) (fun c2 => ?_)
  · refine x_iconst (v := nI 1) G d_La_isOf_13 rfl ?_
    refine x_goto G d_La_isOf_14 ?_
    exact m_iret E G d_La_isOf_18 hx rfl rfl ⟨by by_cases h1 : x = nI 1 <;> by_cases h2 : x = nI 1 <;> by_cases h3 : x = nI 2 <;> by_cases h4 : x = 0 <;> simp_all [bI, nI_0, nI1], rfl⟩
  · refine x_aload0 G d_La_isOf_5 ?_
    refine x_iload1 G d_La_isOf_6 ?_
    refine m_callSU_pi (p_Nb_isOf (kg κ) (d - 1) (by omega) σ k x) G d_La_isOf_7 ls_La_9 hs hci hk9 (by omega) rfl (Nat.le_of_ble_eq_true rfl) hx ?_
    refine x_if_eq G d_La_isOf_10 (fun c10 => ?_) (fun c10 => ?_)
    · refine x_iconst (v := nI 0) G d_La_isOf_17 rfl ?_
      exact m_iret E G d_La_isOf_18 hx rfl rfl ⟨by by_cases h1 : x = nI 1 <;> by_cases h2 : x = nI 1 <;> by_cases h3 : x = nI 2 <;> by_cases h4 : x = 0 <;> simp_all [bI, nI_0, nI1], rfl⟩
    · refine x_iconst (v := nI 1) G d_La_isOf_13 rfl ?_
      refine x_goto G d_La_isOf_14 ?_
      exact m_iret E G d_La_isOf_18 hx rfl rfl ⟨by by_cases h1 : x = nI 1 <;> by_cases h2 : x = nI 1 <;> by_cases h3 : x = nI 2 <;> by_cases h4 : x = 0 <;> simp_all [bI, nI_0, nI1], rfl⟩
theorem p_Ru_isOf (g : CX) (d : Nat) (hd : 1 ≤ d) (σ : Sg) (k ci : Nat) (hs : shp k = .inl ci) (hci : ci < 13) (hk9 : k < 135) (x : Int32) : RunM g d Ru_isOf [.ref k, .int x] σ (PI (bI (decide (x = nI 2) || decide (x = 0))) σ) := by
  refine RunM.of 0 (by decide +kernel) rfl ?_
  intro κ hg hx hk0 G E
  subst hg
  have hk : 2 ≤ kn κ := Nat.le_of_eq hk0.symm
  show X κ NC 0 [some (.ref k), some (.int x)] [] (hv σ)
  refine x_iload1 G d_Ru_isOf_0 ?_
  refine x_iconst (v := nI 2) G d_Ru_isOf_1 rfl ?_
  refine x_icmp_eq G d_Ru_isOf_2 (fun c2 => ?_) (fun c2 => ?_)
  · refine x_iconst (v := nI 1) G d_Ru_isOf_13 rfl ?_
    refine x_goto G d_Ru_isOf_14 ?_
    exact m_iret E G d_Ru_isOf_18 hx rfl rfl ⟨by by_cases h1 : x = nI 2 <;> by_cases h2 : x = nI 1 <;> by_cases h3 : x = nI 2 <;> by_cases h4 : x = 0 <;> simp_all [bI, nI_0, nI1], rfl⟩
  · refine x_aload0 G d_Ru_isOf_5 ?_
    refine x_iload1 G d_Ru_isOf_6 ?_
    refine m_callSU_pi (p_Nb_isOf (kg κ) (d - 1) (by omega) σ k x) G d_Ru_isOf_7 ls_Ru_9 hs hci hk9 (by omega) rfl (Nat.le_of_ble_eq_true rfl) hx ?_
    refine x_if_eq G d_Ru_isOf_10 (fun c10 => ?_) (fun c10 => ?_)
    · refine x_iconst (v := nI 0) G d_Ru_isOf_17 rfl ?_
      exact m_iret E G d_Ru_isOf_18 hx rfl rfl ⟨by by_cases h1 : x = nI 2 <;> by_cases h2 : x = nI 1 <;> by_cases h3 : x = nI 2 <;> by_cases h4 : x = 0 <;> simp_all [bI, nI_0, nI1], rfl⟩
    · refine x_iconst (v := nI 1) G d_Ru_isOf_13 rfl ?_
      refine x_goto G d_Ru_isOf_14 ?_
      exact m_iret E G d_Ru_isOf_18 hx rfl rfl ⟨by by_cases h1 : x = nI 2 <;> by_cases h2 : x = nI 1 <;> by_cases h3 : x = nI 2 <;> by_cases h4 : x = 0 <;> simp_all [bI, nI_0, nI1], rfl⟩
theorem p_He_isOf (g : CX) (d : Nat) (hd : 1 ≤ d) (σ : Sg) (k ci : Nat) (hs : shp k = .inl ci) (hci : ci < 13) (hk9 : k < 135) (x : Int32) : RunM g d He_isOf [.ref k, .int x] σ (PI (bI (decide (x = nI 5) || decide (x = 0))) σ) := by
  refine RunM.of 0 (by decide +kernel) rfl ?_
  intro κ hg hx hk0 G E
  subst hg
  have hk : 2 ≤ kn κ := Nat.le_of_eq hk0.symm
  show X κ NC 0 [some (.ref k), some (.int x)] [] (hv σ)
  refine x_iload1 G d_He_isOf_0 ?_
  refine x_iconst (v := nI 5) G d_He_isOf_1 rfl ?_
  refine x_icmp_eq G d_He_isOf_2 (fun c2 => ?_) (fun c2 => ?_)
  · refine x_iconst (v := nI 1) G d_He_isOf_13 rfl ?_
    refine x_goto G d_He_isOf_14 ?_
    exact m_iret E G d_He_isOf_18 hx rfl rfl ⟨by by_cases h1 : x = nI 5 <;> by_cases h2 : x = nI 1 <;> by_cases h3 : x = nI 2 <;> by_cases h4 : x = 0 <;> simp_all [bI, nI_0, nI1], rfl⟩
  · refine x_aload0 G d_He_isOf_5 ?_
    refine x_iload1 G d_He_isOf_6 ?_
    refine m_callSU_pi (p_Nb_isOf (kg κ) (d - 1) (by omega) σ k x) G d_He_isOf_7 ls_He_9 hs hci hk9 (by omega) rfl (Nat.le_of_ble_eq_true rfl) hx ?_
    refine x_if_eq G d_He_isOf_10 (fun c10 => ?_) (fun c10 => ?_)
    · refine x_iconst (v := nI 0) G d_He_isOf_17 rfl ?_
      exact m_iret E G d_He_isOf_18 hx rfl rfl ⟨by by_cases h1 : x = nI 5 <;> by_cases h2 : x = nI 1 <;> by_cases h3 : x = nI 2 <;> by_cases h4 : x = 0 <;> simp_all [bI, nI_0, nI1], rfl⟩
    · refine x_iconst (v := nI 1) G d_He_isOf_13 rfl ?_
      refine x_goto G d_He_isOf_14 ?_
      exact m_iret E G d_He_isOf_18 hx rfl rfl ⟨by by_cases h1 : x = nI 5 <;> by_cases h2 : x = nI 1 <;> by_cases h3 : x = nI 2 <;> by_cases h4 : x = 0 <;> simp_all [bI, nI_0, nI1], rfl⟩
theorem p_Ol_isOf (g : CX) (d : Nat) (hd : 2 ≤ d) (σ : Sg) (k ci : Nat) (hs : shp k = .inl ci) (hci : ci < 13) (hk9 : k < 135) (x : Int32) : RunM g d Ol_isOf [.ref k, .int x] σ (PI (bI (decide (x = nI 3) || (decide (x = nI 1) || decide (x = 0)))) σ) := by
  refine RunM.of 0 (by decide +kernel) rfl ?_
  intro κ hg hx hk0 G E
  subst hg
  have hk : 2 ≤ kn κ := Nat.le_of_eq hk0.symm
  show X κ NC 0 [some (.ref k), some (.int x)] [] (hv σ)
  refine x_iload1 G d_Ol_isOf_0 ?_
  refine x_iconst (v := nI 3) G d_Ol_isOf_1 rfl ?_
  refine x_icmp_eq G d_Ol_isOf_2 (fun c2 => ?_) (fun c2 => ?_)
  · refine x_iconst (v := nI 1) G d_Ol_isOf_13 rfl ?_
    refine x_goto G d_Ol_isOf_14 ?_
    exact m_iret E G d_Ol_isOf_18 hx rfl rfl ⟨by by_cases h1 : x = nI 3 <;> by_cases h2 : x = nI 1 <;> by_cases h3 : x = nI 2 <;> by_cases h4 : x = 0 <;> simp_all [bI, nI_0, nI1], rfl⟩
  · refine x_aload0 G d_Ol_isOf_5 ?_
    refine x_iload1 G d_Ol_isOf_6 ?_
    refine m_callSU_pi (p_La_isOf (kg κ) (d - 1) (by omega) σ k ci hs hci hk9 x) G d_Ol_isOf_7 ls_Ol_9 hs hci hk9 (by omega) rfl (Nat.le_of_ble_eq_true rfl) hx ?_
    refine x_if_eq G d_Ol_isOf_10 (fun c10 => ?_) (fun c10 => ?_)
    · refine x_iconst (v := nI 0) G d_Ol_isOf_17 rfl ?_
      exact m_iret E G d_Ol_isOf_18 hx rfl rfl ⟨by by_cases h1 : x = nI 3 <;> by_cases h2 : x = nI 1 <;> by_cases h3 : x = nI 2 <;> by_cases h4 : x = 0 <;> simp_all [bI, nI_0, nI1], rfl⟩
    · refine x_iconst (v := nI 1) G d_Ol_isOf_13 rfl ?_
      refine x_goto G d_Ol_isOf_14 ?_
      exact m_iret E G d_Ol_isOf_18 hx rfl rfl ⟨by by_cases h1 : x = nI 3 <;> by_cases h2 : x = nI 1 <;> by_cases h3 : x = nI 2 <;> by_cases h4 : x = 0 <;> simp_all [bI, nI_0, nI1], rfl⟩
theorem p_Ch_isOf (g : CX) (d : Nat) (hd : 2 ≤ d) (σ : Sg) (k ci : Nat) (hs : shp k = .inl ci) (hci : ci < 13) (hk9 : k < 135) (x : Int32) : RunM g d Ch_isOf [.ref k, .int x] σ (PI (bI (decide (x = nI 4) || (decide (x = nI 2) || decide (x = 0)))) σ) := by
  refine RunM.of 0 (by decide +kernel) rfl ?_
  intro κ hg hx hk0 G E
  subst hg
  have hk : 2 ≤ kn κ := Nat.le_of_eq hk0.symm
  show X κ NC 0 [some (.ref k), some (.int x)] [] (hv σ)
  refine x_iload1 G d_Ch_isOf_0 ?_
  refine x_iconst (v := nI 4) G d_Ch_isOf_1 rfl ?_
  refine x_icmp_eq G d_Ch_isOf_2 (fun c2 => ?_) (fun c2 => ?_)
  · refine x_iconst (v := nI 1) G d_Ch_isOf_13 rfl ?_
    refine x_goto G d_Ch_isOf_14 ?_
    exact m_iret E G d_Ch_isOf_18 hx rfl rfl ⟨by by_cases h1 : x = nI 4 <;> by_cases h2 : x = nI 1 <;> by_cases h3 : x = nI 2 <;> by_cases h4 : x = 0 <;> simp_all [bI, nI_0, nI1], rfl⟩
  · refine x_aload0 G d_Ch_isOf_5 ?_
    refine x_iload1 G d_Ch_isOf_6 ?_
    refine m_callSU_pi (p_Ru_isOf (kg κ) (d - 1) (by omega) σ k ci hs hci hk9 x) G d_Ch_isOf_7 ls_Ch_9 hs hci hk9 (by omega) rfl (Nat.le_of_ble_eq_true rfl) hx ?_
    refine x_if_eq G d_Ch_isOf_10 (fun c10 => ?_) (fun c10 => ?_)
    · refine x_iconst (v := nI 0) G d_Ch_isOf_17 rfl ?_
      exact m_iret E G d_Ch_isOf_18 hx rfl rfl ⟨by by_cases h1 : x = nI 4 <;> by_cases h2 : x = nI 1 <;> by_cases h3 : x = nI 2 <;> by_cases h4 : x = 0 <;> simp_all [bI, nI_0, nI1], rfl⟩
    · refine x_iconst (v := nI 1) G d_Ch_isOf_13 rfl ?_
      refine x_goto G d_Ch_isOf_14 ?_
      exact m_iret E G d_Ch_isOf_18 hx rfl rfl ⟨by by_cases h1 : x = nI 4 <;> by_cases h2 : x = nI 1 <;> by_cases h3 : x = nI 2 <;> by_cases h4 : x = 0 <;> simp_all [bI, nI_0, nI1], rfl⟩
theorem p_Nb_paces (g : CX) (d : Nat) (hd : 0 ≤ d) (σ : Sg) (k : Nat) (x : Int32) : RunM g d Nb_paces [.ref k, .int x] σ (PI (pacesB 0 x) σ) := by
  refine RunM.of 0 (by decide +kernel) rfl ?_
  intro κ hg hx hk0 G E
  subst hg
  have hk : 2 ≤ kn κ := Nat.le_of_eq hk0.symm
  show X κ NC 0 [some (.ref k), some (.int x)] [] (hv σ)
  refine x_iload1 G d_Nb_paces_0 ?_
  exact m_iret E G d_Nb_paces_1 hx rfl rfl ⟨rfl, rfl⟩
theorem p_La_paces (g : CX) (d : Nat) (hd : 0 ≤ d) (σ : Sg) (k : Nat) (x : Int32) : RunM g d La_paces [.ref k, .int x] σ (PI (pacesB 1 x) σ) := by
  refine RunM.of 0 (by decide +kernel) rfl ?_
  intro κ hg hx hk0 G E
  subst hg
  have hk : 2 ≤ kn κ := Nat.le_of_eq hk0.symm
  show X κ NC 0 [some (.ref k), some (.int x)] [] (hv σ)
  refine x_iconst (v := nI 2) G d_La_paces_0 rfl ?_
  refine x_iload1 G d_La_paces_1 ?_
  refine x_imul G d_La_paces_2 ?_
  exact m_iret E G d_La_paces_3 hx rfl rfl ⟨rfl, rfl⟩
theorem p_Ru_paces (g : CX) (d : Nat) (hd : 0 ≤ d) (σ : Sg) (k : Nat) (x : Int32) : RunM g d Ru_paces [.ref k, .int x] σ (PI (pacesB 2 x) σ) := by
  refine RunM.of 0 (by decide +kernel) rfl ?_
  intro κ hg hx hk0 G E
  subst hg
  have hk : 2 ≤ kn κ := Nat.le_of_eq hk0.symm
  show X κ NC 0 [some (.ref k), some (.int x)] [] (hv σ)
  refine x_iload1 G d_Ru_paces_0 ?_
  refine x_iconst (v := nI 2) G d_Ru_paces_1 rfl ?_
  refine x_idiv G d_Ru_paces_2 (by decide +kernel) ?_
  exact m_iret E G d_Ru_paces_3 hx rfl rfl ⟨rfl, rfl⟩
theorem p_He_paces (g : CX) (d : Nat) (hd : 0 ≤ d) (σ : Sg) (k : Nat) (x : Int32) : RunM g d He_paces [.ref k, .int x] σ (PI (pacesB 5 x) σ) := by
  refine RunM.of 0 (by decide +kernel) rfl ?_
  intro κ hg hx hk0 G E
  subst hg
  have hk : 2 ≤ kn κ := Nat.le_of_eq hk0.symm
  show X κ NC 0 [some (.ref k), some (.int x)] [] (hv σ)
  refine x_iconst (v := nI 0) G d_He_paces_0 rfl ?_
  exact m_iret E G d_He_paces_1 hx rfl rfl ⟨rfl, rfl⟩
theorem p_Ol_paces (g : CX) (d : Nat) (hd : 1 ≤ d) (σ : Sg) (k ci : Nat) (hs : shp k = .inl ci) (hci : ci < 13) (hk9 : k < 135) (x : Int32) : RunM g d Ol_paces [.ref k, .int x] σ (PI (pacesB 3 x) σ) := by
  refine RunM.of 0 (by decide +kernel) rfl ?_
  intro κ hg hx hk0 G E
  subst hg
  have hk : 2 ≤ kn κ := Nat.le_of_eq hk0.symm
  show X κ NC 0 [some (.ref k), some (.int x)] [] (hv σ)
  refine x_aload0 G d_Ol_paces_0 ?_
  refine x_iload1 G d_Ol_paces_1 ?_
  refine m_callSU_pi (p_La_paces (kg κ) (d - 1) (by omega) σ k x) G d_Ol_paces_2 ls_Ol_13 hs hci hk9 (by omega) rfl (Nat.le_of_ble_eq_true rfl) hx ?_
  refine x_iconst (v := nI 5) G d_Ol_paces_5 rfl ?_
  refine x_iadd G d_Ol_paces_6 ?_
  exact m_iret E G d_Ol_paces_7 hx rfl rfl ⟨rfl, rfl⟩
theorem p_Ch_paces (g : CX) (d : Nat) (hd : 1 ≤ d) (σ : Sg) (k ci : Nat) (hs : shp k = .inl ci) (hci : ci < 13) (hk9 : k < 135) (x : Int32) : RunM g d Ch_paces [.ref k, .int x] σ (PI (pacesB 4 x) σ) := by
  refine RunM.of 0 (by decide +kernel) rfl ?_
  intro κ hg hx hk0 G E
  subst hg
  have hk : 2 ≤ kn κ := Nat.le_of_eq hk0.symm
  show X κ NC 0 [some (.ref k), some (.int x)] [] (hv σ)
  refine x_iconst (v := nI 0) G d_Ch_paces_0 rfl ?_
  refine x_aload0 G d_Ch_paces_1 ?_
  refine x_iload1 G d_Ch_paces_2 ?_
  refine m_callSU_pi (p_Ru_paces (kg κ) (d - 1) (by omega) σ k x) G d_Ch_paces_3 ls_Ch_13 hs hci hk9 (by omega) rfl (Nat.le_of_ble_eq_true rfl) hx ?_
  refine x_iconst (v := nI 3) G d_Ch_paces_6 rfl ?_
  refine x_isub G d_Ch_paces_7 ?_
  refine x_max lm_Ch_17 G d_Ch_paces_8 (by omega) (Nat.le_of_ble_eq_true rfl) (Nat.le_of_eq hx.symm) ?_
  exact m_iret E G d_Ch_paces_11 hx rfl rfl ⟨rfl, rfl⟩
theorem p_Nb_worthFor (g : CX) (d : Nat) (hd : 0 ≤ d) (σ : Sg) (k : Nat) (x : Int32) : RunM g d Nb_worthFor [.ref k, .int x] σ (PI (worthB 0 x) σ) := by
  refine RunM.of 0 (by decide +kernel) rfl ?_
  intro κ hg hx hk0 G E
  subst hg
  have hk : 2 ≤ kn κ := Nat.le_of_eq hk0.symm
  show X κ NC 0 [some (.ref k), some (.int x)] [] (hv σ)
  refine x_iload1 G d_Nb_worthFor_0 ?_
  exact m_iret E G d_Nb_worthFor_1 hx rfl rfl ⟨rfl, rfl⟩
theorem p_La_worthFor (g : CX) (d : Nat) (hd : 0 ≤ d) (σ : Sg) (k : Nat) (x : Int32) : RunM g d La_worthFor [.ref k, .int x] σ (PI (worthB 1 x) σ) := by
  refine RunM.of 0 (by decide +kernel) rfl ?_
  intro κ hg hx hk0 G E
  subst hg
  have hk : 2 ≤ kn κ := Nat.le_of_eq hk0.symm
  show X κ NC 0 [some (.ref k), some (.int x)] [] (hv σ)
  refine x_iload1 G d_La_worthFor_0 ?_
  refine x_iconst (v := nI 4) G d_La_worthFor_1 rfl ?_
  refine x_iadd G d_La_worthFor_2 ?_
  exact m_iret E G d_La_worthFor_3 hx rfl rfl ⟨rfl, rfl⟩
theorem p_Ru_worthFor (g : CX) (d : Nat) (hd : 0 ≤ d) (σ : Sg) (k : Nat) (x : Int32) : RunM g d Ru_worthFor [.ref k, .int x] σ (PI (worthB 2 x) σ) := by
  refine RunM.of 0 (by decide +kernel) rfl ?_
  intro κ hg hx hk0 G E
  subst hg
  have hk : 2 ≤ kn κ := Nat.le_of_eq hk0.symm
  show X κ NC 0 [some (.ref k), some (.int x)] [] (hv σ)
  refine x_bipush (v := nI 99) G d_Ru_worthFor_0 rfl ?_
  refine x_iload1 G d_Ru_worthFor_2 ?_
  refine x_isub G d_Ru_worthFor_3 ?_
  exact m_iret E G d_Ru_worthFor_4 hx rfl rfl ⟨rfl, rfl⟩
theorem p_He_worthFor (g : CX) (d : Nat) (hd : 0 ≤ d) (σ : Sg) (k : Nat) (x : Int32) : RunM g d He_worthFor [.ref k, .int x] σ (PI (worthB 5 x) σ) := by
  refine RunM.of 0 (by decide +kernel) rfl ?_
  intro κ hg hx hk0 G E
  subst hg
  have hk : 2 ≤ kn κ := Nat.le_of_eq hk0.symm
  show X κ NC 0 [some (.ref k), some (.int x)] [] (hv σ)
  refine x_iconst (v := nI 3) G d_He_worthFor_0 rfl ?_
  exact m_iret E G d_He_worthFor_1 hx rfl rfl ⟨rfl, rfl⟩
theorem p_Ol_worthFor (g : CX) (d : Nat) (hd : 1 ≤ d) (σ : Sg) (k ci : Nat) (hs : shp k = .inl ci) (hci : ci < 13) (hk9 : k < 135) (x : Int32) : RunM g d Ol_worthFor [.ref k, .int x] σ (PI (worthB 3 x) σ) := by
  refine RunM.of 0 (by decide +kernel) rfl ?_
  intro κ hg hx hk0 G E
  subst hg
  have hk : 2 ≤ kn κ := Nat.le_of_eq hk0.symm
  show X κ NC 0 [some (.ref k), some (.int x)] [] (hv σ)
  refine x_iconst (v := nI 2) G d_Ol_worthFor_0 rfl ?_
  refine x_aload0 G d_Ol_worthFor_1 ?_
  refine x_iload1 G d_Ol_worthFor_2 ?_
  refine m_callSU_pi (p_La_worthFor (kg κ) (d - 1) (by omega) σ k x) G d_Ol_worthFor_3 ls_Ol_21 hs hci hk9 (by omega) rfl (Nat.le_of_ble_eq_true rfl) hx ?_
  refine x_imul G d_Ol_worthFor_6 ?_
  exact m_iret E G d_Ol_worthFor_7 hx rfl rfl ⟨rfl, rfl⟩
theorem p_Ch_worthFor (g : CX) (d : Nat) (hd : 1 ≤ d) (σ : Sg) (k ci : Nat) (hs : shp k = .inl ci) (hci : ci < 13) (hk9 : k < 135) (x : Int32) : RunM g d Ch_worthFor [.ref k, .int x] σ (PI (worthB 4 x) σ) := by
  refine RunM.of 0 (by decide +kernel) rfl ?_
  intro κ hg hx hk0 G E
  subst hg
  have hk : 2 ≤ kn κ := Nat.le_of_eq hk0.symm
  show X κ NC 0 [some (.ref k), some (.int x)] [] (hv σ)
  refine x_aload0 G d_Ch_worthFor_0 ?_
  refine x_iload1 G d_Ch_worthFor_1 ?_
  refine m_callSU_pi (p_Ru_worthFor (kg κ) (d - 1) (by omega) σ k x) G d_Ch_worthFor_2 ls_Ch_27 hs hci hk9 (by omega) rfl (Nat.le_of_ble_eq_true rfl) hx ?_
  refine x_bipush (v := nI 6) G d_Ch_worthFor_5 rfl ?_
  refine x_isub G d_Ch_worthFor_7 ?_
  exact m_iret E G d_Ch_worthFor_8 hx rfl rfl ⟨rfl, rfl⟩
theorem p_Nb_mayBeOn (g : CX) (d : Nat) (hd : 0 ≤ d) (σ : Sg) (k : Nat) (w : Bool) (f c : Int32) : RunM g d Nb_mayBeOn [.ref k, .int (bI w), .int f, .int c] σ (PI (bI (mayB 0 w f c)) σ) := by
  refine RunM.of 0 (by decide +kernel) rfl ?_
  intro κ hg hx hk0 G E
  subst hg
  have hk : 4 ≤ kn κ := Nat.le_of_eq hk0.symm
  show X κ NC 0 [some (.ref k), some (.int (bI w)), some (.int f), some (.int c)] [] (hv σ)
  refine x_iload1 G d_Nb_mayBeOn_0 ?_
  refine x_if_ne G d_Nb_mayBeOn_1 (fun c1 => ?_) (fun c1 => ?_)
  · refine x_iconst (v := nI 0) G d_Nb_mayBeOn_8 rfl ?_
    exact m_iret E G d_Nb_mayBeOn_9 hx rfl rfl ⟨by cases w <;> simp_all [bI, mayB, nI_0, nI1], rfl⟩
  · refine x_iconst (v := nI 1) G d_Nb_mayBeOn_4 rfl ?_
    refine x_goto G d_Nb_mayBeOn_5 ?_
    exact m_iret E G d_Nb_mayBeOn_9 hx rfl rfl ⟨by cases w <;> simp_all [bI, mayB, nI_0, nI1], rfl⟩
theorem p_He_mayBeOn (g : CX) (d : Nat) (hd : 0 ≤ d) (σ : Sg) (k : Nat) (w : Bool) (f c : Int32) : RunM g d He_mayBeOn [.ref k, .int (bI w), .int f, .int c] σ (PI (bI (mayB 5 w f c)) σ) := by
  refine RunM.of 0 (by decide +kernel) rfl ?_
  intro κ hg hx hk0 G E
  subst hg
  have hk : 4 ≤ kn κ := Nat.le_of_eq hk0.symm
  show X κ NC 0 [some (.ref k), some (.int (bI w)), some (.int f), some (.int c)] [] (hv σ)
  refine x_iconst (v := nI 1) G d_He_mayBeOn_0 rfl ?_
  exact m_iret E G d_He_mayBeOn_1 hx rfl rfl ⟨by simp [bI, mayB, nI_0, nI1], rfl⟩
theorem p_Ol_mayBeOn (g : CX) (d : Nat) (hd : 1 ≤ d) (σ : Sg) (k ci : Nat) (hs : shp k = .inl ci) (hci : ci < 13) (hk9 : k < 135) (w : Bool) (f c : Int32) : RunM g d Ol_mayBeOn [.ref k, .int (bI w), .int f, .int c] σ (PI (bI (mayB 3 w f c)) σ) := by
  refine RunM.of 0 (by decide +kernel) rfl ?_
  intro κ hg hx hk0 G E
  subst hg
  have hk : 4 ≤ kn κ := Nat.le_of_eq hk0.symm
  show X κ NC 0 [some (.ref k), some (.int (bI w)), some (.int f), some (.int c)] [] (hv σ)
  refine x_aload0 G d_Ol_mayBeOn_0 ?_
  refine x_iload1 G d_Ol_mayBeOn_1 ?_
  refine x_iload2 G d_Ol_mayBeOn_2 ?_
  refine x_iload3 G d_Ol_mayBeOn_3 ?_
  refine m_callSI_pi (p_Nb_mayBeOn (kg κ) (d - 1) (by omega) σ k w f c) G d_Ol_mayBeOn_4 ls_Ol_17 hs hci hk9 (by omega) rfl (Nat.le_of_ble_eq_true rfl) hx ?_
  refine x_if_eq G d_Ol_mayBeOn_7 (fun c7 => ?_) (fun c7 => ?_)
  · refine x_iconst (v := nI 0) G d_Ol_mayBeOn_19 rfl ?_
    exact m_iret E G d_Ol_mayBeOn_20 hx rfl rfl ⟨by cases w <;> simp_all [bI, mayB, nI_0, nI1], rfl⟩
  · refine x_iload2 G d_Ol_mayBeOn_10 ?_
    refine x_iconst (v := nI 2) G d_Ol_mayBeOn_11 rfl ?_
    refine x_icmp_gt G d_Ol_mayBeOn_12 (fun c12 => ?_) (fun c12 => ?_)
    · refine x_iconst (v := nI 0) G d_Ol_mayBeOn_19 rfl ?_
      exact m_iret E G d_Ol_mayBeOn_20 hx rfl rfl ⟨by cases w <;> simp_all [bI, mayB, nI_0, nI1], rfl⟩
    · refine x_iconst (v := nI 1) G d_Ol_mayBeOn_15 rfl ?_
      refine x_goto G d_Ol_mayBeOn_16 ?_
      exact m_iret E G d_Ol_mayBeOn_20 hx rfl rfl ⟨by cases w <;> simp_all [bI, mayB, nI_0, nI1], rfl⟩
theorem p_Ch_mayBeOn (g : CX) (d : Nat) (hd : 1 ≤ d) (σ : Sg) (k ci : Nat) (hs : shp k = .inl ci) (hci : ci < 13) (hk9 : k < 135) (w : Bool) (f c : Int32) : RunM g d Ch_mayBeOn [.ref k, .int (bI w), .int f, .int c] σ (PI (bI (mayB 4 w f c)) σ) := by
  refine RunM.of 0 (by decide +kernel) rfl ?_
  intro κ hg hx hk0 G E
  subst hg
  have hk : 4 ≤ kn κ := Nat.le_of_eq hk0.symm
  show X κ NC 0 [some (.ref k), some (.int (bI w)), some (.int f), some (.int c)] [] (hv σ)
  refine x_aload0 G d_Ch_mayBeOn_0 ?_
  refine x_iload1 G d_Ch_mayBeOn_1 ?_
  refine x_iload2 G d_Ch_mayBeOn_2 ?_
  refine x_iload3 G d_Ch_mayBeOn_3 ?_
  refine m_callSI_pi (p_Nb_mayBeOn (kg κ) (d - 1) (by omega) σ k w f c) G d_Ch_mayBeOn_4 ls_Ch_23 hs hci hk9 (by omega) rfl (Nat.le_of_ble_eq_true rfl) hx ?_
  refine x_if_ne G d_Ch_mayBeOn_7 (fun c7 => ?_) (fun c7 => ?_)
  · refine x_iconst (v := nI 1) G d_Ch_mayBeOn_14 rfl ?_
    refine x_goto G d_Ch_mayBeOn_15 ?_
    exact m_iret E G d_Ch_mayBeOn_19 hx rfl rfl ⟨by cases w <;> simp_all [bI, mayB, nI_0, nI1], rfl⟩
  · refine x_iload3 G d_Ch_mayBeOn_10 ?_
    refine x_if_ne G d_Ch_mayBeOn_11 (fun c11 => ?_) (fun c11 => ?_)
    · refine x_iconst (v := nI 0) G d_Ch_mayBeOn_18 rfl ?_
      exact m_iret E G d_Ch_mayBeOn_19 hx rfl rfl ⟨by cases w <;> simp_all [bI, mayB, nI_0, nI1], rfl⟩
    · refine x_iconst (v := nI 1) G d_Ch_mayBeOn_14 rfl ?_
      refine x_goto G d_Ch_mayBeOn_15 ?_
      exact m_iret E G d_Ch_mayBeOn_19 hx rfl rfl ⟨by cases w <;> simp_all [bI, mayB, nI_0, nI1], rfl⟩
theorem K_o {j : Nat} (h : j < 6) : shp (2 + j) = .inl (1 + j) := by
  rcases (show j = 0 ∨ j = 1 ∨ j = 2 ∨ j = 3 ∨ j = 4 ∨ j = 5 by omega) with rfl | rfl | rfl | rfl | rfl | rfl <;> rfl
theorem K_r {j : Nat} (h : j < 6) : rt 1 j = some (2 + j) := by
  rcases (show j = 0 ∨ j = 1 ∨ j = 2 ∨ j = 3 ∨ j = 4 ∨ j = 5 by omega) with rfl | rfl | rfl | rfl | rfl | rfl <;> rfl
def md_isOf : Nat → MD := fun j => match j with
  | 0 => Nb_isOf
  | 1 => La_isOf
  | 2 => Ru_isOf
  | 3 => Ol_isOf
  | 4 => Ch_isOf
  | _ => He_isOf
def md_paces : Nat → MD := fun j => match j with
  | 0 => Nb_paces
  | 1 => La_paces
  | 2 => Ru_paces
  | 3 => Ol_paces
  | 4 => Ch_paces
  | _ => He_paces
def md_mayBeOn : Nat → MD := fun j => match j with
  | 0 => Nb_mayBeOn
  | 1 => Nb_mayBeOn
  | 2 => Nb_mayBeOn
  | 3 => Ol_mayBeOn
  | 4 => Ch_mayBeOn
  | _ => He_mayBeOn
def md_worthFor : Nat → MD := fun j => match j with
  | 0 => Nb_worthFor
  | 1 => La_worthFor
  | 2 => Ru_worthFor
  | 3 => Ol_worthFor
  | 4 => Ch_worthFor
  | _ => He_worthFor
theorem r_isOf (g : CX) (d : Nat) (hd : 2 ≤ d) (σ : Sg) {j : Nat} (hj : j < 6) (x : Int32) : RunM g d (md_isOf j) [.ref (2 + j), .int x] σ (PI (bI (isOfB j x)) σ) := by
  rcases (show j = 0 ∨ j = 1 ∨ j = 2 ∨ j = 3 ∨ j = 4 ∨ j = 5 by omega) with rfl | rfl | rfl | rfl | rfl | rfl
  · have e : isOfB 0 x = (decide (x = 0)) := by unfold isOfB; (try rw [nI_0]); cases decide (x = nI 1) <;> cases decide (x = nI 2) <;> cases decide (x = 0) <;> cases decide (x = nI 0) <;> rfl
    rw [e]
    exact p_Nb_isOf g d (by omega) σ 2 x
  · have e : isOfB 1 x = (decide (x = nI 1) || decide (x = 0)) := by unfold isOfB; (try rw [nI_0]); cases decide (x = nI 1) <;> cases decide (x = nI 2) <;> cases decide (x = 0) <;> cases decide (x = nI 1) <;> rfl
    rw [e]
    exact p_La_isOf g d (by omega) σ 3 2 rfl (by decide) (by decide) x
  · have e : isOfB 2 x = (decide (x = nI 2) || decide (x = 0)) := by unfold isOfB; (try rw [nI_0]); cases decide (x = nI 1) <;> cases decide (x = nI 2) <;> cases decide (x = 0) <;> cases decide (x = nI 2) <;> rfl
    rw [e]
    exact p_Ru_isOf g d (by omega) σ 4 3 rfl (by decide) (by decide) x
  · have e : isOfB 3 x = (decide (x = nI 3) || (decide (x = nI 1) || decide (x = 0))) := by unfold isOfB; (try rw [nI_0]); cases decide (x = nI 1) <;> cases decide (x = nI 2) <;> cases decide (x = 0) <;> cases decide (x = nI 3) <;> rfl
    rw [e]
    exact p_Ol_isOf g d (by omega) σ 5 4 rfl (by decide) (by decide) x
  · have e : isOfB 4 x = (decide (x = nI 4) || (decide (x = nI 2) || decide (x = 0))) := by unfold isOfB; (try rw [nI_0]); cases decide (x = nI 1) <;> cases decide (x = nI 2) <;> cases decide (x = 0) <;> cases decide (x = nI 4) <;> rfl
    rw [e]
    exact p_Ch_isOf g d (by omega) σ 6 5 rfl (by decide) (by decide) x
  · have e : isOfB 5 x = (decide (x = nI 5) || decide (x = 0)) := by unfold isOfB; (try rw [nI_0]); cases decide (x = nI 1) <;> cases decide (x = nI 2) <;> cases decide (x = 0) <;> cases decide (x = nI 5) <;> rfl
    rw [e]
    exact p_He_isOf g d (by omega) σ 7 6 rfl (by decide) (by decide) x
theorem r_paces (g : CX) (d : Nat) (hd : 2 ≤ d) (σ : Sg) {j : Nat} (hj : j < 6) (x : Int32) : RunM g d (md_paces j) [.ref (2 + j), .int x] σ (PI (pacesB j x) σ) := by
  rcases (show j = 0 ∨ j = 1 ∨ j = 2 ∨ j = 3 ∨ j = 4 ∨ j = 5 by omega) with rfl | rfl | rfl | rfl | rfl | rfl
  · exact p_Nb_paces g d (by omega) σ 2 x
  · exact p_La_paces g d (by omega) σ 3 x
  · exact p_Ru_paces g d (by omega) σ 4 x
  · exact p_Ol_paces g d (by omega) σ 5 4 rfl (by decide) (by decide) x
  · exact p_Ch_paces g d (by omega) σ 6 5 rfl (by decide) (by decide) x
  · exact p_He_paces g d (by omega) σ 7 x
theorem r_mayBeOn (g : CX) (d : Nat) (hd : 2 ≤ d) (σ : Sg) {j : Nat} (hj : j < 6) (w : Bool) (f c : Int32) : RunM g d (md_mayBeOn j) [.ref (2 + j), .int (bI w), .int f, .int c] σ (PI (bI (mayB j w f c)) σ) := by
  rcases (show j = 0 ∨ j = 1 ∨ j = 2 ∨ j = 3 ∨ j = 4 ∨ j = 5 by omega) with rfl | rfl | rfl | rfl | rfl | rfl
  · exact p_Nb_mayBeOn g d (by omega) σ 2 w f c
  · exact p_Nb_mayBeOn g d (by omega) σ 3 w f c
  · exact p_Nb_mayBeOn g d (by omega) σ 4 w f c
  · exact p_Ol_mayBeOn g d (by omega) σ 5 4 rfl (by decide) (by decide) w f c
  · exact p_Ch_mayBeOn g d (by omega) σ 6 5 rfl (by decide) (by decide) w f c
  · exact p_He_mayBeOn g d (by omega) σ 7 w f c
theorem r_worthFor (g : CX) (d : Nat) (hd : 2 ≤ d) (σ : Sg) {j : Nat} (hj : j < 6) (x : Int32) : RunM g d (md_worthFor j) [.ref (2 + j), .int x] σ (PI (worthB j x) σ) := by
  rcases (show j = 0 ∨ j = 1 ∨ j = 2 ∨ j = 3 ∨ j = 4 ∨ j = 5 by omega) with rfl | rfl | rfl | rfl | rfl | rfl
  · exact p_Nb_worthFor g d (by omega) σ 2 x
  · exact p_La_worthFor g d (by omega) σ 3 x
  · exact p_Ru_worthFor g d (by omega) σ 4 x
  · exact p_Ol_worthFor g d (by omega) σ 5 4 rfl (by decide) (by decide) x
  · exact p_Ch_worthFor g d (by omega) σ 6 5 rfl (by decide) (by decide) x
  · exact p_He_worthFor g d (by omega) σ 7 x
