/-! the spec of a noon over a row; World's methods up to hasRoom -/
def clampI (v : Int32) : Int32 := if v < 0 then 0 else if nI 999 < v then nI 999 else v
def hadB (S : Rw) (p f : Nat) : Int32 := S (ixP p 3) >>> (nI f &&& 31) &&& nI 1
def sFar (S : Rw) (p f : Nat) : Nat := farN (tn (S (ixP p 1))) f
def sPlain (S : Rw) (p f : Nat) : Int32 := if cnt S 0 < 0 then nI 10 * nI (sFar S p f) + S (ixF f 1) else clampI (ev S (tn (cnt S 0)) (nmf 0 (nI (sFar S p f)) (S (ixF f 1)) (hadB S p f)))
def sWalk (S : Rw) (p f : Nat) : Int32 := pacesB (tn (S (ixP p 0))) (sPlain S p f)
def sMay (S : Rw) (p f : Nat) : Bool := mayB (tn (S (ixP p 0))) (decide (S (ixF f 0) = nI p)) (nI (sFar S p f)) (S (ixF f 1))
/-- how many others stand on f, of the first o people; none: one of whom there is talk -/
def frN (S : Rw) (T : Nat → Int32) (p f : Nat) : Nat → Option Nat
  | 0 => some 0
  | o + 1 => (frN S T p f o).bind fun c => if o ≠ p ∧ T o = nI f then (if sTalk S p o then none else some (c + 1)) else some c
def frB (r : Int32) : Option Nat → Bool
  | none => false
  | some c => decide (nI c < r)
def sFree (S : Rw) (T : Nat → Int32) (p f : Nat) : Bool := frB (S (ixF f 2)) (frN S T p f (tn (S 0)))
/-- what keeps a row a row of the class -/
def Inv (S : Rw) : Prop := In (S 0) 8 ∧ In (S 1) 14 ∧ In (S 2) 11000 ∧ In (S 5) 100 ∧ (∀ f, f < 9 → In (S (ixF f 0)) 8 ∧ In (S (ixF f 1)) 99 ∧ In (S (ixF f 2)) 4) ∧ (∀ p, p < 8 → In (S (ixP p 0)) 5 ∧ In (S (ixP p 1)) 8 ∧ In (S (ixP p 2)) 99) ∧ ∀ t, t < tn (S 1) → TV S t
theorem Inv.n {S : Rw} (h : Inv S) : S 0 = nI (tn (S 0)) ∧ tn (S 0) ≤ 8 := h.1
theorem Inv.kind {S : Rw} (h : Inv S) {p : Nat} (hp : p < 8) : S (ixP p 0) = nI (tn (S (ixP p 0))) ∧ tn (S (ixP p 0)) ≤ 5 := (h.2.2.2.2.2.1 p hp).1
theorem Inv.home {S : Rw} (h : Inv S) {p : Nat} (hp : p < 8) : S (ixP p 1) = nI (tn (S (ixP p 1))) ∧ tn (S (ixP p 1)) ≤ 8 := (h.2.2.2.2.2.1 p hp).2.1
theorem Inv.hire {S : Rw} (h : Inv S) {p : Nat} (hp : p < 8) : S (ixP p 2) = nI (tn (S (ixP p 2))) ∧ tn (S (ixP p 2)) ≤ 99 := (h.2.2.2.2.2.1 p hp).2.2
theorem Inv.owner {S : Rw} (h : Inv S) {f : Nat} (hf : f < 9) : S (ixF f 0) = nI (tn (S (ixF f 0))) ∧ tn (S (ixF f 0)) ≤ 8 := (h.2.2.2.2.1 f hf).1
theorem Inv.corn {S : Rw} (h : Inv S) {f : Nat} (hf : f < 9) : S (ixF f 1) = nI (tn (S (ixF f 1))) ∧ tn (S (ixF f 1)) ≤ 99 := (h.2.2.2.2.1 f hf).2.1
theorem Inv.room {S : Rw} (h : Inv S) {f : Nat} (hf : f < 9) : S (ixF f 2) = nI (tn (S (ixF f 2))) ∧ tn (S (ixF f 2)) ≤ 4 := (h.2.2.2.2.1 f hf).2.2
theorem Inv.txt {S : Rw} (h : Inv S) {t : Nat} (ht : t < tn (S 1)) : TV S t ∧ t < 14 := ⟨h.2.2.2.2.2.2 t ht, Nat.lt_of_lt_of_le ht h.2.1.2⟩
theorem cntN_cases (S : Rw) (key : Int32) : ∀ n, cntN S key n = -1 ∨ ∃ t, t < n ∧ cntN S key n = nI t ∧ S (ixT t 0) = key
  | 0 => Or.inl rfl
  | n + 1 => by
    unfold cntN
    split
    · exact Or.inr ⟨n, Nat.lt_succ_self n, rfl, by assumption⟩
    · rcases cntN_cases S key n with h | ⟨t, h1, h2, h3⟩
      · exact Or.inl h
      · exact Or.inr ⟨t, by omega, h2, h3⟩
theorem cnt_cases (S : Rw) (key : Nat) : cnt S key = -1 ∨ ∃ t, t < tn (S 1) ∧ cnt S key = nI t ∧ S (ixT t 0) = nI key := cntN_cases S (nI key) (tn (S 1))
theorem clamp_mm (g : Int32) : (if nI 0 < (if g < nI 999 then g else nI 999) then (if g < nI 999 then g else nI 999) else nI 0) = clampI g := by
  unfold clampI
  have e9 : (nI 999).toInt = 999 := by decide +kernel
  have e0 : (nI 0).toInt = 0 := by decide +kernel
  have e00 : (0 : Int32).toInt = 0 := rfl
  simp only [Int32.lt_iff_toInt_lt]
  apply Int32.toInt_inj.mp
  split <;> split <;> split <;> (try split) <;> simp_all <;> omega
theorem lU_N_130 {j : Nat} (h : j < 6) : LkU "NoonFields" 130 (gcl (1 + j)).1 "NoonFields$Neighbour" ⟨"NoonFields$Neighbour", "isOf", "(I)Z"⟩ (md_isOf j) 1 := by
  rcases (show j = 0 ∨ j = 1 ∨ j = 2 ∨ j = 3 ∨ j = 4 ∨ j = 5 by omega) with rfl | rfl | rfl | rfl | rfl | rfl
  · exact lu_N_130_Nb
  · exact lu_N_130_La
  · exact lu_N_130_Ru
  · exact lu_N_130_Ol
  · exact lu_N_130_Ch
  · exact lu_N_130_He
theorem lU_N_328 {j : Nat} (h : j < 6) : LkU "NoonFields" 328 (gcl (1 + j)).1 "NoonFields$Neighbour" ⟨"NoonFields$Neighbour", "worthFor", "(I)I"⟩ (md_worthFor j) 1 := by
  rcases (show j = 0 ∨ j = 1 ∨ j = 2 ∨ j = 3 ∨ j = 4 ∨ j = 5 by omega) with rfl | rfl | rfl | rfl | rfl | rfl
  · exact lu_N_328_Nb
  · exact lu_N_328_La
  · exact lu_N_328_Ru
  · exact lu_N_328_Ol
  · exact lu_N_328_Ch
  · exact lu_N_328_He
theorem lU_Wo_70 {j : Nat} (h : j < 6) : LkU "NoonFields$World" 70 (gcl (1 + j)).1 "NoonFields$Neighbour" ⟨"NoonFields$Neighbour", "worthFor", "(I)I"⟩ (md_worthFor j) 1 := by
  rcases (show j = 0 ∨ j = 1 ∨ j = 2 ∨ j = 3 ∨ j = 4 ∨ j = 5 by omega) with rfl | rfl | rfl | rfl | rfl | rfl
  · exact lu_Wo_70_Nb
  · exact lu_Wo_70_La
  · exact lu_Wo_70_Ru
  · exact lu_Wo_70_Ol
  · exact lu_Wo_70_Ch
  · exact lu_Wo_70_He
theorem lU_Wo_102 {j : Nat} (h : j < 6) : LkU "NoonFields$World" 102 (gcl (1 + j)).1 "NoonFields$Neighbour" ⟨"NoonFields$Neighbour", "paces", "(I)I"⟩ (md_paces j) 1 := by
  rcases (show j = 0 ∨ j = 1 ∨ j = 2 ∨ j = 3 ∨ j = 4 ∨ j = 5 by omega) with rfl | rfl | rfl | rfl | rfl | rfl
  · exact lu_Wo_102_Nb
  · exact lu_Wo_102_La
  · exact lu_Wo_102_Ru
  · exact lu_Wo_102_Ol
  · exact lu_Wo_102_Ch
  · exact lu_Wo_102_He
theorem lU_Wo_105 {j : Nat} (h : j < 6) : LkU "NoonFields$World" 105 (gcl (1 + j)).1 "NoonFields$Neighbour" ⟨"NoonFields$Neighbour", "mayBeOn", "(ZII)Z"⟩ (md_mayBeOn j) 3 := by
  rcases (show j = 0 ∨ j = 1 ∨ j = 2 ∨ j = 3 ∨ j = 4 ∨ j = 5 by omega) with rfl | rfl | rfl | rfl | rfl | rfl
  · exact lu_Wo_105_Nb
  · exact lu_Wo_105_La
  · exact lu_Wo_105_Ru
  · exact lu_Wo_105_Ol
  · exact lu_Wo_105_Ch
  · exact lu_Wo_105_He
theorem p_Wo_kindOf (g : CX) (d : Nat) (hd : 0 ≤ d) (σ : Sg) (w : Nat) (hw : isW w) (S : Rw) (hR : WRel w S σ) (hI : Inv S) (p : Nat) (hp : p < 8) : RunM g d Wo_kindOf [.ref w, .int (nI p)] σ (PF (2 + tn (S (ixP p 0))) σ) := by
  refine RunM.of 0 (by decide +kernel) rfl ?_
  intro κ hg hx hk0 G E
  subst hg
  have hk : 2 ≤ kn κ := Nat.le_of_eq hk0.symm
  show X κ NC 0 [some (.ref w), some (.int (nI p))] [] (hv σ)
  have hj : tn (S (ixP p 0)) < 6 := by have := (hI.kind hp).2; omega
  refine x_aload0 G d_Wo_kindOf_0 ?_
  refine m_getr G d_Wo_kindOf_1 fl_Wo_51 (W_o hw) (W_l hw) (W_r0 hw) ?_
  refine x_aload0 G d_Wo_kindOf_4 ?_
  refine m_getr G d_Wo_kindOf_5 fl_Wo_11 (W_o hw) (W_l hw) (W_r2 hw) ?_
  refine x_iconst (v := nI 0) G d_Wo_kindOf_8 rfl ?_
  refine m_aald _ G d_Wo_kindOf_9 (W_s1 hw) (by decide) rfl ⟨by omega, by first | decide | omega⟩ (W_p hw (by decide)) ?_
  refine x_iload1 G d_Wo_kindOf_10 ?_
  refine m_iald p G d_Wo_kindOf_11 (W_sp hw (by decide)) rfl ⟨by omega, by first | decide | omega⟩ ?_
  rw [show σ (w + 2 + 0) p = S (ixP p 0) from hR.p 0 (by decide) hp]
  refine m_aald (tn (S (ixP p 0))) G d_Wo_kindOf_12 rfl (by decide) (hI.kind hp).1 ⟨by omega, by first | decide | omega⟩ (K_r hj) ?_
  exact m_aret E G d_Wo_kindOf_13 hx rfl ⟨rfl, rfl⟩
theorem p_Wo_worthOf (g : CX) (d : Nat) (hd : 3 ≤ d) (σ : Sg) (w : Nat) (hw : isW w) (S : Rw) (hR : WRel w S σ) (hI : Inv S) (p : Nat) (hp : p < 8) : RunM g d Wo_worthOf [.ref w, .int (nI p)] σ (PI (worthB (tn (S (ixP p 0))) (S (ixP p 2))) σ) := by
  refine RunM.of 0 (by decide +kernel) rfl ?_
  intro κ hg hx hk0 G E
  subst hg
  have hk : 2 ≤ kn κ := Nat.le_of_eq hk0.symm
  show X κ NC 0 [some (.ref w), some (.int (nI p))] [] (hv σ)
  have hj : tn (S (ixP p 0)) < 6 := by have := (hI.kind hp).2; omega
  refine x_aload0 G d_Wo_worthOf_0 ?_
  refine x_iload1 G d_Wo_worthOf_1 ?_
  refine m_callV_pf (p_Wo_kindOf (kg κ) (d - 1) (by omega) σ w hw S hR hI p hp) G d_Wo_worthOf_2 lk_Wo_66 (W_o hw) ⟨by decide, rfl⟩ (W_l hw) (by omega) rfl (Nat.le_of_ble_eq_true rfl) hx ?_
  refine x_aload0 G d_Wo_worthOf_5 ?_
  refine m_getr G d_Wo_worthOf_6 fl_Wo_11 (W_o hw) (W_l hw) (W_r2 hw) ?_
  refine x_iconst (v := nI 2) G d_Wo_worthOf_9 rfl ?_
  refine m_aald _ G d_Wo_worthOf_10 (W_s1 hw) (by decide) rfl ⟨by omega, by first | decide | omega⟩ (W_p hw (by decide)) ?_
  refine x_iload1 G d_Wo_worthOf_11 ?_
  refine m_iald _ G d_Wo_worthOf_12 (W_sp hw (by decide)) rfl ⟨by omega, by first | decide | omega⟩ ?_
  rw [show σ (w + 2 + 2) p = S (ixP p 2) from hR.p 2 (by decide) hp]
  refine m_callU_pi (r_worthFor (kg κ) (d - 1) (by omega) σ hj _) G d_Wo_worthOf_13 (lU_Wo_70 hj) (K_o hj) ⟨by omega, rfl⟩ (by omega) (by omega) rfl (Nat.le_of_ble_eq_true rfl) hx ?_
  exact m_iret E G d_Wo_worthOf_16 hx rfl rfl ⟨rfl, rfl⟩
theorem p_Wo_mayStand (g : CX) (d : Nat) (hd : 3 ≤ d) (σ : Sg) (w : Nat) (hw : isW w) (S : Rw) (hR : WRel w S σ) (hI : Inv S) (p f : Nat) (hp : p < 8) (hf : f < 9) : RunM g d Wo_mayStand [.ref w, .int (nI p), .int (nI f)] σ (PI (bI (sMay S p f)) σ) := by
  refine RunM.of 1 (by decide +kernel) rfl ?_
  intro κ hg hx hk0 G E
  subst hg
  have hk : 4 ≤ kn κ := Nat.le_of_eq hk0.symm
  show X κ NC 0 [some (.ref w), some (.int (nI p)), some (.int (nI f)), none] [] (hv σ)
  have hj : tn (S (ixP p 0)) < 6 := by have := (hI.kind hp).2; omega
  have hh9 : tn (S (ixP p 1)) < 9 := by have := (hI.home hp).2; omega
  refine x_aload0 G d_Wo_mayStand_0 ?_
  refine m_getr G d_Wo_mayStand_1 fl_Wo_11 (W_o hw) (W_l hw) (W_r2 hw) ?_
  refine x_iconst (v := nI 1) G d_Wo_mayStand_4 rfl ?_
  refine m_aald _ G d_Wo_mayStand_5 (W_s1 hw) (by decide) rfl ⟨by omega, by first | decide | omega⟩ (W_p hw (by decide)) ?_
  refine x_iload1 G d_Wo_mayStand_6 ?_
  refine m_iald _ G d_Wo_mayStand_7 (W_sp hw (by decide)) rfl ⟨by omega, by first | decide | omega⟩ ?_
  rw [show σ (w + 2 + 1) p = nI (tn (S (ixP p 1))) by rw [hR.p 1 (by decide) hp]; exact (hI.home hp).1]
  refine x_iload2 G d_Wo_mayStand_8 ?_
  refine m_callS_pi (p_Wo_apart (kg κ) (d - 1) (by omega) σ (tn (S (ixP p 1))) f hh9 hf) G d_Wo_mayStand_9 lk_Wo_86 (by omega) rfl (Nat.le_of_ble_eq_true rfl) hx ?_
  refine x_istore3 G d_Wo_mayStand_12 rfl hk ?_
  refine x_aload0 G d_Wo_mayStand_13 ?_
  refine x_iload1 G d_Wo_mayStand_14 ?_
  refine m_callV_pf (p_Wo_kindOf (kg κ) (d - 1) (by omega) σ w hw S hR hI p hp) G d_Wo_mayStand_15 lk_Wo_66 (W_o hw) ⟨by decide, rfl⟩ (W_l hw) (by omega) rfl (Nat.le_of_ble_eq_true rfl) hx ?_
  refine x_aload0 G d_Wo_mayStand_18 ?_
  refine m_getr G d_Wo_mayStand_19 fl_Wo_16 (W_o hw) (W_l hw) (W_r3 hw) ?_
  refine x_iconst (v := nI 0) G d_Wo_mayStand_22 rfl ?_
  refine m_aald _ G d_Wo_mayStand_23 (W_s8 hw) (by decide) rfl ⟨by omega, by first | decide | omega⟩ (W_f hw (by decide)) ?_
  refine x_iload2 G d_Wo_mayStand_24 ?_
  refine m_iald _ G d_Wo_mayStand_25 (W_sf hw (by decide)) rfl ⟨by omega, by first | decide | omega⟩ ?_
  rw [show σ (w + 9 + 0) f = S (ixF f 0) from hR.f 0 (by decide) hf]
  refine x_iload1 G d_Wo_mayStand_26 ?_
  refine x_icmp_ne G d_Wo_mayStand_27 (fun c27 => ?_) (fun c27 => ?_)
  · refine x_iconst (v := nI 0) G d_Wo_mayStand_34 rfl ?_
    rw [show nI 0 = bI (decide (S (ixF f 0) = nI p)) by simp [bI, nI_0, c27]]
    refine x_iload3 G d_Wo_mayStand_35 ?_
    refine x_aload0 G d_Wo_mayStand_36 ?_
    refine m_getr G d_Wo_mayStand_37 fl_Wo_16 (W_o hw) (W_l hw) (W_r3 hw) ?_
    refine x_iconst (v := nI 1) G d_Wo_mayStand_40 rfl ?_
    refine m_aald _ G d_Wo_mayStand_41 (W_s8 hw) (by decide) rfl ⟨by omega, by first | decide | omega⟩ (W_f hw (by decide)) ?_
    refine x_iload2 G d_Wo_mayStand_42 ?_
    refine m_iald _ G d_Wo_mayStand_43 (W_sf hw (by decide)) rfl ⟨by omega, by first | decide | omega⟩ ?_
    rw [show σ (w + 9 + 1) f = S (ixF f 1) from hR.f 1 (by decide) hf]
    refine m_callU_pi (r_mayBeOn (kg κ) (d - 1) (by omega) σ hj _ _ _) G d_Wo_mayStand_44 (lU_Wo_105 hj) (K_o hj) ⟨by omega, rfl⟩ (by omega) (by omega) rfl (Nat.le_of_ble_eq_true rfl) hx ?_
    exact m_iret E G d_Wo_mayStand_47 hx rfl (bI_z _) ⟨rfl, rfl⟩
  · refine x_iconst (v := nI 1) G d_Wo_mayStand_30 rfl ?_
    rw [show nI 1 = bI (decide (S (ixF f 0) = nI p)) by simp [bI, nI1, c27]]
    refine x_goto G d_Wo_mayStand_31 ?_
    refine x_iload3 G d_Wo_mayStand_35 ?_
    refine x_aload0 G d_Wo_mayStand_36 ?_
    refine m_getr G d_Wo_mayStand_37 fl_Wo_16 (W_o hw) (W_l hw) (W_r3 hw) ?_
    refine x_iconst (v := nI 1) G d_Wo_mayStand_40 rfl ?_
    refine m_aald _ G d_Wo_mayStand_41 (W_s8 hw) (by decide) rfl ⟨by omega, by first | decide | omega⟩ (W_f hw (by decide)) ?_
    refine x_iload2 G d_Wo_mayStand_42 ?_
    refine m_iald _ G d_Wo_mayStand_43 (W_sf hw (by decide)) rfl ⟨by omega, by first | decide | omega⟩ ?_
    rw [show σ (w + 9 + 1) f = S (ixF f 1) from hR.f 1 (by decide) hf]
    refine m_callU_pi (r_mayBeOn (kg κ) (d - 1) (by omega) σ hj _ _ _) G d_Wo_mayStand_44 (lU_Wo_105 hj) (K_o hj) ⟨by omega, rfl⟩ (by omega) (by omega) rfl (Nat.le_of_ble_eq_true rfl) hx ?_
    exact m_iret E G d_Wo_mayStand_47 hx rfl (bI_z _) ⟨rfl, rfl⟩
theorem p_Wo_walkOf (g : CX) (d : Nat) (hd : 3 ≤ d) (σ : Sg) (w : Nat) (hw : isW w) (S : Rw) (hR : WRel w S σ) (hI : Inv S) (hL : LRel S σ) (p f : Nat) (hp : p < 8) (hf : f < 9) : RunM g d Wo_walkOf [.ref w, .int (nI p), .int (nI f)] σ (PR (fun v σ1 => v = sWalk S p f ∧ ∀ k, k ≠ 27 → σ1 k = σ k)) := by
  refine RunM.of 5 (by decide +kernel) rfl ?_
  intro κ hg hx hk0 G E
  subst hg
  have hk : 8 ≤ kn κ := Nat.le_of_eq hk0.symm
  show X κ NC 0 [some (.ref w), some (.int (nI p)), some (.int (nI f)), none, none, none, none, none] [] (hv σ)
  have hj : tn (S (ixP p 0)) < 6 := by have := (hI.kind hp).2; omega
  have hh9 : tn (S (ixP p 1)) < 9 := by have := (hI.home hp).2; omega
  refine x_aload0 G d_Wo_walkOf_0 ?_
  refine m_getr G d_Wo_walkOf_1 fl_Wo_11 (W_o hw) (W_l hw) (W_r2 hw) ?_
  refine x_iconst (v := nI 1) G d_Wo_walkOf_4 rfl ?_
  refine m_aald _ G d_Wo_walkOf_5 (W_s1 hw) (by decide) rfl ⟨by omega, by first | decide | omega⟩ (W_p hw (by decide)) ?_
  refine x_iload1 G d_Wo_walkOf_6 ?_
  refine m_iald _ G d_Wo_walkOf_7 (W_sp hw (by decide)) rfl ⟨by omega, by first | decide | omega⟩ ?_
  rw [show σ (w + 2 + 1) p = nI (tn (S (ixP p 1))) by rw [hR.p 1 (by decide) hp]; exact (hI.home hp).1]
  refine x_iload2 G d_Wo_walkOf_8 ?_
  refine m_callS_pi (p_Wo_apart (kg κ) (d - 1) (by omega) σ (tn (S (ixP p 1))) f hh9 hf) G d_Wo_walkOf_9 lk_Wo_86 (by omega) rfl (Nat.le_of_ble_eq_true rfl) hx ?_
  refine x_istore3 G d_Wo_walkOf_12 rfl hk ?_
  refine x_aload0 G d_Wo_walkOf_13 ?_
  refine m_getr G d_Wo_walkOf_14 fl_Wo_16 (W_o hw) (W_l hw) (W_r3 hw) ?_
  refine x_iconst (v := nI 1) G d_Wo_walkOf_17 rfl ?_
  refine m_aald _ G d_Wo_walkOf_18 (W_s8 hw) (by decide) rfl ⟨by omega, by first | decide | omega⟩ (W_f hw (by decide)) ?_
  refine x_iload2 G d_Wo_walkOf_19 ?_
  refine m_iald _ G d_Wo_walkOf_20 (W_sf hw (by decide)) rfl ⟨by omega, by first | decide | omega⟩ ?_
  rw [show σ (w + 9 + 1) f = S (ixF f 1) from hR.f 1 (by decide) hf]
  refine x_istore4 G d_Wo_walkOf_21 rfl hk ?_
  refine x_aload0 G d_Wo_walkOf_23 ?_
  refine m_getr G d_Wo_walkOf_24 fl_Wo_26 (W_o hw) (W_l hw) (W_r6 hw) ?_
  refine x_iconst (v := nI 0) G d_Wo_walkOf_27 rfl ?_
  refine m_iald 0 G d_Wo_walkOf_28 (W_s14 hw) rfl ⟨by omega, by first | decide | omega⟩ ?_
  rw [show σ (w + 14) 0 = cnt S 0 from hR.c (by decide)]
  refine x_istore5 G d_Wo_walkOf_29 rfl hk ?_
  refine x_bipush (v := nI 10) G d_Wo_walkOf_31 rfl ?_
  refine x_iload3 G d_Wo_walkOf_33 ?_
  refine x_imul G d_Wo_walkOf_34 ?_
  refine x_iload4 G d_Wo_walkOf_35 ?_
  refine x_iadd G d_Wo_walkOf_37 ?_
  refine x_istore6 G d_Wo_walkOf_38 rfl hk ?_
  refine x_iload5 G d_Wo_walkOf_40 ?_
  refine x_if_lt G d_Wo_walkOf_42 (fun c42 => ?_) (fun c42 => ?_)
  · -- without a text
    refine x_aload0 G d_Wo_walkOf_85 ?_
    refine x_iload1 G d_Wo_walkOf_86 ?_
    refine m_callV_pf (p_Wo_kindOf (kg κ) (d - 1) (by omega) σ w hw S hR hI p hp) G d_Wo_walkOf_87 lk_Wo_66 (W_o hw) ⟨by decide, rfl⟩ (W_l hw) (by omega) rfl (Nat.le_of_ble_eq_true rfl) hx ?_
    refine x_iload6 G d_Wo_walkOf_90 ?_
    refine m_callU_pi (r_paces (kg κ) (d - 1) (by omega) σ hj _) G d_Wo_walkOf_92 (lU_Wo_102 hj) (K_o hj) ⟨by omega, rfl⟩ (by omega) (by omega) rfl (Nat.le_of_ble_eq_true rfl) hx ?_
    exact m_iret E G d_Wo_walkOf_95 hx rfl rfl ⟨_, rfl, (by unfold sWalk sPlain; rw [if_pos c42]; rfl), fun _ _ => rfl⟩
  · rcases cnt_cases S 0 with ht | ⟨t, ht1, ht2, ht3⟩
    · exact absurd (by rw [ht]; decide) c42
    obtain ⟨hTV, ht14⟩ := hI.txt ht1
    refine x_aload0 G d_Wo_walkOf_45 ?_
    refine m_getr G d_Wo_walkOf_46 fl_Wo_11 (W_o hw) (W_l hw) (W_r2 hw) ?_
    refine x_iconst (v := nI 3) G d_Wo_walkOf_49 rfl ?_
    refine m_aald _ G d_Wo_walkOf_50 (W_s1 hw) (by decide) rfl ⟨by omega, by first | decide | omega⟩ (W_p hw (by decide)) ?_
    refine x_iload1 G d_Wo_walkOf_51 ?_
    refine m_iald _ G d_Wo_walkOf_52 (W_sp hw (by decide)) rfl ⟨by omega, by first | decide | omega⟩ ?_
    refine x_iload2 G d_Wo_walkOf_53 ?_
    rw [show σ (w + 2 + 3) p = S (ixP p 3) from hR.p 3 (by decide) hp]
    refine x_ishr G d_Wo_walkOf_54 ?_
    refine x_iconst (v := nI 1) G d_Wo_walkOf_55 rfl ?_
    refine x_iand G d_Wo_walkOf_56 ?_
    refine x_istore7 G d_Wo_walkOf_57 rfl hk ?_
    refine x_iconst (v := nI 0) G d_Wo_walkOf_59 rfl ?_
    refine x_sipush (v := nI 999) G d_Wo_walkOf_60 rfl ?_
    refine x_aload0 G d_Wo_walkOf_63 ?_
    refine m_getr G d_Wo_walkOf_64 fl_Wo_55 (W_o hw) (W_l hw) (W_r1 hw) ?_
    refine x_iload5 G d_Wo_walkOf_67 ?_
    rw [ht2]
    refine x_iload3 G d_Wo_walkOf_69 ?_
    refine x_iload4 G d_Wo_walkOf_70 ?_
    refine x_iload7 G d_Wo_walkOf_72 ?_
    refine m_callV_pr (p_Lw_gives (kg κ) (d - 1) (by omega) σ S hL t ht1 ht14 hTV _ _ _) G d_Wo_walkOf_74 lk_Wo_90 rfl ⟨by decide, rfl⟩ (by decide) (by omega) rfl (Nat.le_of_ble_eq_true rfl) hx (fun v1 σ1 ⟨hv1, hF⟩ => ?_)
    have hR1 : WRel w S σ1 := hR.frame (fun k h1 h2 h3 => hF k (by rcases hw with rfl | rfl | rfl <;> omega))
    refine x_min lm_Wo_96 G d_Wo_walkOf_77 (by omega) (Nat.le_of_ble_eq_true rfl) (Nat.le_of_eq hx.symm) ?_
    refine x_max lm_Wo_99 G d_Wo_walkOf_80 (by omega) (Nat.le_of_ble_eq_true rfl) (Nat.le_of_eq hx.symm) ?_
    rw [clamp_mm]
    refine x_istore6 G d_Wo_walkOf_83 rfl hk ?_
    refine x_aload0 G d_Wo_walkOf_85 ?_
    refine x_iload1 G d_Wo_walkOf_86 ?_
    refine m_callV_pf (p_Wo_kindOf (kg κ) (d - 1) (by omega) σ1 w hw S hR1 hI p hp) G d_Wo_walkOf_87 lk_Wo_66 (W_o hw) ⟨by decide, rfl⟩ (W_l hw) (by omega) rfl (Nat.le_of_ble_eq_true rfl) hx ?_
    refine x_iload6 G d_Wo_walkOf_90 ?_
    refine m_callU_pi (r_paces (kg κ) (d - 1) (by omega) σ1 hj _) G d_Wo_walkOf_92 (lU_Wo_102 hj) (K_o hj) ⟨by omega, rfl⟩ (by omega) (by omega) rfl (Nat.le_of_ble_eq_true rfl) hx ?_
    exact m_iret E G d_Wo_walkOf_95 hx rfl rfl ⟨_, rfl, (by unfold sWalk sPlain; rw [if_neg c42, ht2, tn_nI (by omega), hv1, ht3, tn_nI (by decide)]; rfl), hF⟩
theorem frN_none {S : Rw} {T : Nat → Int32} {p f : Nat} : ∀ (n m : Nat), m ≤ n → frN S T p f m = none → frN S T p f n = none
  | 0, m, h, e => by rw [show m = 0 by omega] at e; exact e
  | n + 1, m, h, e => by
    by_cases q : m = n + 1
    · rw [q] at e; exact e
    · rw [frN, frN_none n m (by omega) e]; rfl
theorem p_Wo_hasRoom (g : CX) (d : Nat) (hd : 1 ≤ d) (σ : Sg) (w : Nat) (hw : isW w) (S : Rw) (hR : WRel w S σ) (hI : Inv S) (T : Nat → Int32) (hTs : ∀ i, i < 8 → σ (w + 13) i = T i) (p f : Nat) (hp : p < 8) (hf : f < 9) : RunM g d Wo_hasRoom [.ref w, .int (nI p), .int (nI f)] σ (PI (bI (sFree S T p f)) σ) := by
  refine RunM.of 2 (by decide +kernel) rfl ?_
  intro κ hg hx hk0 G E
  subst hg
  have hk : 5 ≤ kn κ := Nat.le_of_eq hk0.symm
  show X κ NC 0 [some (.ref w), some (.int (nI p)), some (.int (nI f)), none, none] [] (hv σ)
  refine x_iconst (v := nI 0) G d_Wo_hasRoom_0 rfl ?_
  refine x_istore3 G d_Wo_hasRoom_1 rfl hk ?_
  refine x_iconst (v := nI 0) G d_Wo_hasRoom_2 rfl ?_
  refine x_istore4 G d_Wo_hasRoom_3 rfl hk ?_
  have hloop : ∀ (m o c : Nat), o ≤ tn (S 0) → tn (S 0) < o + m → frN S T p f o = some c → c ≤ o → X κ NC 5 [some (.ref w), some (.int (nI p)), some (.int (nI f)), some (.int (nI c)), some (.int (nI o))] [] (hv σ) := by
    intro m
    induction m with
    | zero => intro o c h1 h2; omega
    | succ m ih =>
      intro o c ho1 ho2 hfr hco
      have hn8 := hI.n.2
      refine x_iload4 G d_Wo_hasRoom_5 ?_
      refine x_aload0 G d_Wo_hasRoom_7 ?_
      refine m_geti G d_Wo_hasRoom_8 fl_Wo_29 (W_o hw) (W_l hw) (W_ij hw 7 (by decide) (by decide)) ?_
      rw [show σ w 7 = nI (tn (S 0)) by rw [hR.n]; exact hI.n.1]
      refine x_icmp_ge G d_Wo_hasRoom_11 (fun c11 => ?_) (fun c11 => ?_)
      · have hon : o = tn (S 0) := by rw [nle (by omega) (by omega)] at c11; omega
        refine x_iload3 G d_Wo_hasRoom_52 ?_
        refine x_aload0 G d_Wo_hasRoom_53 ?_
        refine m_getr G d_Wo_hasRoom_54 fl_Wo_16 (W_o hw) (W_l hw) (W_r3 hw) ?_
        refine x_iconst (v := nI 2) G d_Wo_hasRoom_57 rfl ?_
        refine m_aald _ G d_Wo_hasRoom_58 (W_s8 hw) (by decide) rfl ⟨by omega, by first | decide | omega⟩ (W_f hw (by decide)) ?_
        refine x_iload2 G d_Wo_hasRoom_59 ?_
        refine m_iald _ G d_Wo_hasRoom_60 (W_sf hw (by decide)) rfl ⟨by omega, by first | decide | omega⟩ ?_
        rw [show σ (w + 9 + 2) f = S (ixF f 2) from hR.f 2 (by decide) hf]
        refine x_icmp_ge G d_Wo_hasRoom_61 (fun c61 => ?_) (fun c61 => ?_)
        · refine x_iconst (v := nI 0) G d_Wo_hasRoom_68 rfl ?_
          exact m_iret E G d_Wo_hasRoom_69 hx rfl rfl (pi_of (by unfold sFree; rw [← hon, hfr]; simp [frB, bI, nI_0, nI1, c61]))
        · refine x_iconst (v := nI 1) G d_Wo_hasRoom_64 rfl ?_
          refine x_goto G d_Wo_hasRoom_65 ?_
          exact m_iret E G d_Wo_hasRoom_69 hx rfl rfl (pi_of (by unfold sFree; rw [← hon, hfr]; simp [frB, bI, nI_0, nI1, c61]))
      · have hon : o < tn (S 0) := by rw [nle (by omega) (by omega)] at c11; omega
        refine x_iload4 G d_Wo_hasRoom_14 ?_
        refine x_iload1 G d_Wo_hasRoom_16 ?_
        refine x_icmp_eq G d_Wo_hasRoom_17 (fun c17 => ?_) (fun c17 => ?_)
        · have hop : o = p := (neq (by omega) (by omega)).mp c17
          refine x_iinc4 (v := nI (o + 1)) G d_Wo_hasRoom_46 rfl hk (nI_1 _) ?_
          refine x_goto G d_Wo_hasRoom_49 ?_
          exact ih (o + 1) c (by omega) (by omega) (by rw [frN, hfr]; simp [hop]) (by omega)
        · have hop : ¬ o = p := fun q => c17 (by rw [q])
          refine x_aload0 G d_Wo_hasRoom_20 ?_
          refine m_getr G d_Wo_hasRoom_21 fl_Wo_23 (W_o hw) (W_l hw) (W_r5 hw) ?_
          refine x_iload4 G d_Wo_hasRoom_24 ?_
          refine m_iald o G d_Wo_hasRoom_26 (W_s13 hw) rfl ⟨by omega, by first | decide | omega⟩ ?_
          rw [hTs o (by omega)]
          refine x_iload2 G d_Wo_hasRoom_27 ?_
          refine x_icmp_ne G d_Wo_hasRoom_28 (fun c28 => ?_) (fun c28 => ?_)
          · refine x_iinc4 (v := nI (o + 1)) G d_Wo_hasRoom_46 rfl hk (nI_1 _) ?_
            refine x_goto G d_Wo_hasRoom_49 ?_
            exact ih (o + 1) c (by omega) (by omega) (by rw [frN, hfr]; simp [c28]) (by omega)
          · refine x_aload0 G d_Wo_hasRoom_31 ?_
            refine x_iload1 G d_Wo_hasRoom_32 ?_
            refine x_iload4 G d_Wo_hasRoom_33 ?_
            refine m_callV_pi (p_Wo_isTalk (kg κ) (d - 1) (by omega) σ w hw S hR p o hp) G d_Wo_hasRoom_35 lk_Wo_109 (W_o hw) ⟨by decide, rfl⟩ (W_l hw) (by omega) rfl (Nat.le_of_ble_eq_true rfl) hx ?_
            refine x_if_eq G d_Wo_hasRoom_38 (fun c38 => ?_) (fun c38 => ?_)
            · have htk : sTalk S p o = false := bI_0.mp c38
              refine x_iinc3 (v := nI (c + 1)) G d_Wo_hasRoom_43 rfl hk (nI_1 _) ?_
              refine x_iinc4 (v := nI (o + 1)) G d_Wo_hasRoom_46 rfl hk (nI_1 _) ?_
              refine x_goto G d_Wo_hasRoom_49 ?_
              exact ih (o + 1) (c + 1) (by omega) (by omega) (by rw [frN, hfr]; simp [hop, c28, htk]) (by omega)
            · have htk : sTalk S p o = true := bI_n0.mp c38
              refine x_iconst (v := nI 0) G d_Wo_hasRoom_41 rfl ?_
              exact m_iret E G d_Wo_hasRoom_42 hx rfl rfl (pi_of (by rw [show sFree S T p f = false by unfold sFree; rw [frN_none (tn (S 0)) (o + 1) hon (by rw [frN, hfr]; simp [hop, c28, htk])]; rfl]; rfl))
  exact hloop (tn (S 0) + 1) 0 0 (Nat.zero_le _) (by omega) rfl (Nat.le_refl _)
