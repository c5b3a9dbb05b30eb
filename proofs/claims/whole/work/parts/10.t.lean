theorem p_N_isUpTo (g : CX) (σ : Sg) (v m : Int32) : RunM g 0 N_isUpTo [.int v, .int m] σ (PI (bI (upB v m)) σ) := by
  refine RunM.of 0 (by decide +kernel) rfl ?_
  intro κ hg hx hk0 G E
  subst hg
  have hk : 2 ≤ kn κ := Nat.le_of_eq hk0.symm
  show X κ NC 0 [some (.int v), some (.int m)] [] (hv σ)
  refine x_iload0 G d_N_isUpTo_0 ?_
  refine x_if_lt G d_N_isUpTo_1 (fun c1 => ?_) (fun c1 => ?_)
  · refine x_iconst (v := nI 0) G d_N_isUpTo_13 rfl ?_
    exact m_iret E G d_N_isUpTo_14 hx rfl rfl ⟨by simp [bI, upB, nI_0, nI1, *], rfl⟩
  · refine x_iload0 G d_N_isUpTo_4 ?_
    refine x_iload1 G d_N_isUpTo_5 ?_
    refine x_icmp_gt G d_N_isUpTo_6 (fun c6 => ?_) (fun c6 => ?_)
    · refine x_iconst (v := nI 0) G d_N_isUpTo_13 rfl ?_
      exact m_iret E G d_N_isUpTo_14 hx rfl rfl ⟨by simp [bI, upB, nI_0, nI1, *], rfl⟩
    · refine x_iconst (v := nI 1) G d_N_isUpTo_9 rfl ?_
      refine x_goto G d_N_isUpTo_10 ?_
      exact m_iret E G d_N_isUpTo_14 hx rfl rfl ⟨by simp [bI, upB, nI_0, nI1, *], rfl⟩
theorem p_Wo_isOne (g : CX) (σ : Sg) (w : Nat) (hw : isW w) (one : Int32) : RunM g 0 Wo_isOne [.ref w, .int one] σ (PI (bI (isO (σ w 7) one)) σ) := by
  refine RunM.of 0 (by decide +kernel) rfl ?_
  intro κ hg hx hk0 G E
  subst hg
  have hk : 2 ≤ kn κ := Nat.le_of_eq hk0.symm
  show X κ NC 0 [some (.ref w), some (.int one)] [] (hv σ)
  refine x_iload1 G d_Wo_isOne_0 ?_
  refine x_if_lt G d_Wo_isOne_1 (fun c1 => ?_) (fun c1 => ?_)
  · refine x_iconst (v := nI 0) G d_Wo_isOne_16 rfl ?_
    exact m_iret E G d_Wo_isOne_17 hx rfl rfl ⟨by simp [bI, isO, nI_0, nI1, *], rfl⟩
  · refine x_iload1 G d_Wo_isOne_4 ?_
    refine x_aload0 G d_Wo_isOne_5 ?_
    refine m_geti G d_Wo_isOne_6 fl_Wo_29 (W_o hw) (W_l hw) (W_ij hw 7 (by decide) (by decide)) ?_
    refine x_icmp_ge G d_Wo_isOne_9 (fun c9 => ?_) (fun c9 => ?_)
    · refine x_iconst (v := nI 0) G d_Wo_isOne_16 rfl ?_
      exact m_iret E G d_Wo_isOne_17 hx rfl rfl ⟨by simp [bI, isO, nI_0, nI1, *], rfl⟩
    · refine x_iconst (v := nI 1) G d_Wo_isOne_12 rfl ?_
      refine x_goto G d_Wo_isOne_13 ?_
      exact m_iret E G d_Wo_isOne_17 hx rfl rfl ⟨by simp [bI, isO, nI_0, nI1, *], rfl⟩
