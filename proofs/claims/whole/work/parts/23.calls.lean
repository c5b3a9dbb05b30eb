/-! calls about people and fields: what each answers, and makes of the row; the class's side -/
theorem upB_O {m : Nat} (hm : m < 2 ^ 30) (x : Int32) : upB x (nI m) = isO (nI (m + 1)) x := by
  unfold upB isO
  have e : (nI m < x) ↔ (nI (m + 1) ≤ x) := by
    rw [Int32.lt_iff_toInt_lt, Int32.le_iff_toInt_le, nI_toInt (by omega), nI_toInt (by omega)]
    omega
  rw [decide_eq_decide.mpr e]
theorem isO_ex {k : Nat} (hk : k < 2 ^ 31) {x : Int32} (h : isO (nI k) x = true) : ∃ j, j < k ∧ tn (nI j) = j ∧ x = nI j := by
  simp only [isO, Bool.and_eq_true, Bool.not_eq_true', decide_eq_false_iff_not] at h
  rcases pk_ix x hk with q | q | ⟨j, hj, q⟩
  · exact absurd q h.1
  · exact absurd q h.2
  · exact ⟨j, hj, tn_nI (by omega), q⟩
theorem isO_nI {k j : Nat} (hk : k < 2 ^ 31) (hj : j < 2 ^ 31) : isO (nI k) (nI j) = decide (j < k) := by
  unfold isO
  rw [decide_eq_false (nI_pos hj)]
  rcases Nat.lt_or_ge j k with h | h
  · rw [decide_eq_false (nI_ge h hk), decide_eq_true h]; rfl
  · rw [decide_eq_true (nI_le h hj), decide_eq_false (by omega)]; rfl
theorem upB_ex {m : Nat} (hm : m < 2 ^ 30) {x : Int32} (h : upB x (nI m) = true) : ∃ j, j ≤ m ∧ tn (nI j) = j ∧ x = nI j := by
  rw [upB_O hm] at h
  obtain ⟨j, h1, h2, h3⟩ := isO_ex (by omega) h
  exact ⟨j, by omega, h2, h3⟩
theorem one_ex {S : Rw} (hI : Inv S) {x : Int32} (h : isO (S 0) x = true) : ∃ p, p < 8 ∧ p < tn (S 0) ∧ tn (nI p) = p ∧ x = nI p := by
  have := hI.n
  rw [this.1] at h
  obtain ⟨j, h1, h2, h3⟩ := isO_ex (by omega) h
  exact ⟨j, by omega, h1, h2, h3⟩
theorem inB_1 {n : Int32} {m : Nat} (hm : m < 2 ^ 30) (h : inB n (nI 1) (nI m) = true) : ∃ j, 1 ≤ j ∧ j ≤ m ∧ tn (nI j) = j ∧ n = nI j := by
  simp only [inB, Bool.and_eq_true, Bool.not_eq_true', decide_eq_false_iff_not] at h
  rcases pk_ix n (n := m + 1) (by omega) with q | q | ⟨j, hj, rfl⟩
  · exact absurd (Int32.lt_trans q (by decide)) h.1
  · exact absurd (Int32.lt_of_lt_of_le ((nlt (by omega) (by omega)).mpr (Nat.lt_succ_self m)) q) h.2
  · refine ⟨j, ?_, by omega, tn_nI (by omega), rfl⟩
    rcases Nat.eq_zero_or_pos j with z | z
    · exact absurd (by rw [z]; decide) h.1
    · exact z
/-! what the calls answer -/
def BADI : Int32 := -1000000001
def fPerson (S : Rw) (k h i : Int32) : Int32 × Rw := if upB k (nI 5) && upB h (nI 8) && upB i (nI 99) then fCome S k h i else (-1000000001, S)
def fTold (S : Rw) (one what : Int32) : Int32 × Rw := (if isO (S 0) one && upB what (nI 6) then (if what = nI 6 then worthB (tn (S (ixP (tn one) 0))) (S (ixP (tn one) 2)) else S (ixP (tn one) (tn what))) else -1000000001, S)
def fWalk (S : Rw) (one f what : Int32) : Int32 × Rw := (if isO (S 0) one && upB f (nI 8) && upB what (nI 1) then (if what = 0 then sWalk S (tn one) (tn f) else bI (sMay S (tn one) (tn f))) else -1000000001, S)
def fAs (S : Rw) (one k : Int32) : Int32 × Rw := (if isO (S 0) one && upB k (nI 5) then (if isOfB (tn (S (ixP (tn one) 0))) k then S (ixP (tn one) 2) else -1000000012) else -1000000001, S)
def fTurns (S : Rw) (one k : Int32) : Int32 × Rw := if isO (S 0) one && upB k (nI 5) then (S (ixP (tn one) 0), upd S (ixP (tn one) 0) k) else (-1000000001, S)
def fSet (S : Rw) (one what v : Int32) : Int32 × Rw := if isO (S 0) one && ((decide (what = nI 1) && upB v (nI 8)) || (decide (what = nI 2) && upB v (nI 99))) then (S (ixP (tn one) (tn what)), upd S (ixP (tn one) (tn what)) v) else (-1000000001, S)
def tkV (t v : Int32) (b : Nat) : Int32 := t &&& ((nI 1 <<< (nI b &&& 31)) ^^^ (-1)) ||| v <<< (nI b &&& 31)
def fTalk (S : Rw) (one other v : Int32) : Int32 × Rw :=
  if isO (S 0) one && isO (S 0) other && !(decide (one = other)) && upB v (nI 1) then
    (bI (sTalk S (tn one) (tn other)), upd (upd S (ixP (tn one) 6) (tkV (S (ixP (tn one) 6)) v (tn other))) (ixP (tn other) 6) (tkV (S (ixP (tn other) 6)) v (tn one))) else (-1000000001, S)
def fField (S : Rw) (f what : Int32) : Int32 × Rw := (if upB f (nI 8) && upB what (nI 2) then S (ixF (tn f) (tn what)) else -1000000001, S)
def fLays (S : Rw) (f what v : Int32) : Int32 × Rw := if upB f (nI 8) && upB what (nI 2) && upB v (if what = 0 then nI 8 else if what = nI 1 then nI 99 else nI 4) then (S (ixF (tn f) (tn what)), upd S (ixF (tn f) (tn what)) v) else (-1000000001, S)
def fFar (S : Rw) (a b : Int32) : Int32 × Rw := (if upB a (nI 8) && upB b (nI 8) then nI (farN (tn a) (tn b)) else -1000000001, S)
def fLate (S : Rw) (v : Int32) : Int32 × Rw := if upB v (nI 100) then (S 5, upd S 5 v) else (-1000000001, S)
def fSeed (S : Rw) (v : Int32) : Int32 × Rw := (S 6, upd S 6 v)
def fNoons (S : Rw) (n : Int32) : Int32 × Rw := if inB n (nI 1) (nI 100) then (passN S (-1) (min (tn n) (9999 - tn (S 2))) 4 - S 4, passN S (-1) (min (tn n) (9999 - tn (S 2)))) else (-1000000001, S)
def fYear (S : Rw) (what : Int32) : Int32 × Rw := (if what = nI 0 then S 3 else if what = nI 1 then S 4 else if what = nI 2 then sumN (fun f => S (ixF f 1)) 9 else if what = nI 3 then sumN (fun p => S (ixP p 5)) 8 else if what = nI 4 then sumN (fun p => S (ixP p 4)) 8 else -1000000001, S)
/-- what a call of the class may write beside the World now: the World that is thought, the pile, pairs, walks, the least walk -/
def OutC (σ σ1 : Sg) : Prop := (∀ k, k ≠ 0 → (k < 28 ∨ 43 ≤ k) → (k < 58 ∨ 73 ≤ k) → k ≠ 27 → k ≠ 79 → k ≠ 80 → σ1 k = σ k) ∧ ∀ j, j ≠ 13 → j ≠ 14 → σ1 0 j = σ 0 j
theorem OutC.refl {σ : Sg} : OutC σ σ := ⟨fun _ _ _ _ _ _ _ => rfl, fun _ _ _ => rfl⟩
theorem OutC.trans {σ σ1 σ2 : Sg} (h : OutC σ σ1) (g : OutC σ1 σ2) : OutC σ σ2 :=
  ⟨fun k a b c d e f => (g.1 k a b c d e f).trans (h.1 k a b c d e f), fun j a b => (g.2 j a b).trans (h.2 j a b)⟩
theorem OutC.of {w : Nat} (hw : w = 28 ∨ w = 58) {σ σ1 : Sg} (h : OutW w σ σ1) : OutC σ σ1 :=
  ⟨fun k _ b c d _ _ => h k (by omega) d, fun j _ _ => by rw [h 0 (by omega) (by decide)]⟩
theorem OutC.upd {σ σ1 : Sg} {k j : Nat} {x : Int32} (h : OutC σ σ1) (hk : (k ≠ 0 ∧ ((28 ≤ k ∧ k < 43) ∨ (58 ≤ k ∧ k < 73) ∨ k = 27 ∨ k = 79 ∨ k = 80)) ∨ (k = 0 ∧ (j = 13 ∨ j = 14))) : OutC σ (updS σ1 k j x) := by
  refine ⟨fun i a b c d e f => ?_, fun i a b => ?_⟩
  · rw [updS_nk (show i ≠ k by omega)]
    exact h.1 i a b c d e f
  · rcases hk with hk | ⟨rfl, hk⟩
    · rw [updS_ne (by omega)]; exact h.2 i a b
    · rw [updS_ne (by omega)]; exact h.2 i a b
/-- a call of the class about the row: its answer, and the World now -/
def RC (f : Int32 × Rw) (σ : Sg) : Int32 → Sg → Prop := fun v σ1 => v = f.1 ∧ WRel 28 f.2 σ1 ∧ OutC σ σ1
theorem RC.same {S : Rw} {f : Int32 × Rw} {σ : Sg} {v : Int32} (hR : WRel 28 S σ) (h : f = (v, S)) : RC f σ v σ := by rw [h]; exact ⟨rfl, hR, OutC.refl⟩
theorem RC.mk' {S1 : Rw} {f : Int32 × Rw} {σ σ1 : Sg} {v v1 : Int32} (h : f = (v1, S1)) (hv1 : v = v1) (hR : WRel 28 S1 σ1) (hO : OutC σ σ1) : RC f σ v σ1 := by rw [h]; exact ⟨hv1, hR, hO⟩
/-- what stands between the World now and the row -/
def CO (S : Rw) (σ : Sg) : Prop := WRel 28 S σ ∧ LRel S σ ∧ Inv S ∧ Inv2 S ∧ In (S 2) 9999
theorem sumN_cong {f g : Nat → Int32} : ∀ n, (∀ i, i < n → f i = g i) → sumN f n = sumN g n
  | 0, _ => rfl
  | n + 1, h => by rw [sumN, sumN, h n (Nat.lt_succ_self n), sumN_cong n (fun i hi => h i (by omega))]
abbrev hw28 : isW 28 := Or.inl rfl
abbrev hw58 : isW 58 := Or.inr (Or.inr rfl)
theorem p_isOn (g : CX) (d : Nat) (σ : Sg) (w : Nat) (hw : isW w) (S : Rw) (hR : WRel w S σ) (one : Int32) : RunM g d Wo_isOne [.ref w, .int one] σ (PI (bI (isO (S 0) one)) σ) := by
  rw [← hR.n]
  exact p_Wo_isOne g d (Nat.zero_le _) σ w hw one
theorem tkV_same : ∀ t, t < 256 → ∀ b, b < 8 → ∀ v, v < 2 → (bI (decide (nI t >>> (nI b &&& 31) &&& nI 1 = nI 1)) = nI v → tkV (nI t) (nI v) b = nI t) ∧ (¬ bI (decide (nI t >>> (nI b &&& 31) &&& nI 1 = nI 1)) = nI v → tkV (nI t) (nI v) b = nI t ^^^ nI 1 <<< (nI b &&& 31)) := by decide +kernel
theorem upd_self {S : Rw} {i : Nat} {x : Int32} (h : S i = x) : upd S i x = S := by
  funext k
  by_cases q : k = i
  · rw [q, pk_us, h]
  · rw [pk_un q]
theorem WRel.talk {w : Nat} {S : Rw} {σ : Sg} (h : WRel w S σ) {i : Nat} (hi : i < 8) (x : Int32) : WRel w (upd S (ixP i 6) x) (updS σ (w + 12) i x) := by
  have ha : AgT S (upd S (ixP i 6) x) := AgT.refl.upd (by unfold ixP; omega) (by unfold ixP; omega)
  refine ⟨fun k' i' hk' hi' => ?_, fun k' f' hk' hf' => ?_, fun i' hi' => ?_, fun k' hk' => ?_, ?_⟩
  · rw [updS_ne (by omega), pk_un (by unfold ixP; omega)]
    exact h.p k' hk' hi'
  · rw [updS_ne (by omega), pk_un (by unfold ixP ixF; omega)]
    exact h.f k' hk' hf'
  · by_cases q : i' = i
    · rw [q, updS_at, pk_us]
    · rw [updS_ne (by omega), pk_un (by unfold ixP; omega)]
      exact h.t hi'
  · rw [updS_ne (by omega), cnt_agT ha]
    exact h.c hk'
  · have e : ∀ j, j < 7 → upd S (ixP i 6) x j = S j := fun j hj => pk_un (by unfold ixP; omega)
    rw [updS_nk (by omega), e 0 (by decide), e 1 (by decide), e 2 (by decide), e 3 (by decide), e 4 (by decide), e 5 (by decide), e 6 (by decide)]
    exact h.2.2.2.2
theorem dval_lt (z : Int32) : ∃ k, k < 2 ^ 24 ∧ dval z = nI k := by
  have h : (dval z).toUInt32.toNat < 2 ^ 24 := by
    unfold dval
    have e : ((nI 8).toUInt32 &&& Int32.toUInt32 31) = (8 : UInt32) := by decide
    rw [e]
    show (z.toUInt32 >>> (8 : UInt32)).toNat < 2 ^ 24
    rw [UInt32.toNat_shiftRight]
    have := z.toUInt32.toNat_lt
    show z.toUInt32.toNat >>> 8 < 2 ^ 24
    rw [Nat.shiftRight_eq_div_pow, show (2 : Nat) ^ 8 = 256 from rfl]
    omega
  refine ⟨_, h, ?_⟩
  rw [← Int32.toInt_inj, nI_toInt (by omega)]
  have hb : (dval z).toUInt32.toNat = (dval z).toBitVec.toNat := rfl
  show (dval z).toBitVec.toInt = _
  rw [BitVec.toInt_eq_toNat_of_lt (by omega), hb]
theorem irm_rng {z : Int32} {m : Nat} (h0 : 0 < m) (hm : m < 2 ^ 20) : In (irm (dval z) (nI m)) (m - 1) := by
  obtain ⟨k, hk, e⟩ := dval_lt z
  unfold irm
  rw [e, pk_rem (by omega) (by omega) (by omega)]
  exact In.mk' (by have := Nat.mod_lt k h0; omega) (by omega)
def dealN (S : Rw) : Nat → Rw
  | 0 => S
  | k + 1 => (fCome (upd (dealN S k) 6 (zn (zn (zn (dealN S k 6))))) (irm (dval (zn (dealN S k 6))) (nI 6)) (irm (dval (zn (zn (dealN S k 6)))) (nI 9)) (irm (dval (zn (zn (zn (dealN S k 6))))) (nI 60))).2
def fDeal (S : Rw) (n : Int32) : Int32 × Rw := if inB n (nI 1) (nI 8) then (nI (min (tn n) (8 - tn (S 0))), dealN S (min (tn n) (8 - tn (S 0)))) else (-1000000001, S)
theorem p_N_person (g : CX) (d : Nat) (hd : 1 ≤ d) (σ : Sg) (S : Rw) (hO : CO S σ) (k h i : Int32) : RunM g d N_person [.ref 0, .int k, .int h, .int i] σ (PR (RC (fPerson S k h i) σ)) := by
  refine RunM.of 0 (by decide +kernel) rfl ?_
  intro κ hg hx hk0 G E
  subst hg
  have hk : 4 ≤ kn κ := Nat.le_of_eq hk0.symm
  show X κ NC 0 [some (.ref 0), some (.int k), some (.int h), some (.int i)] [] (hv σ)
  obtain ⟨hR, hL, hI, hJ, h9⟩ := hO
  have hn8 := hI.n
  refine x_iload1 G d_N_person_0 ?_
  refine x_iconst (v := nI 5) G d_N_person_1 rfl ?_
  refine m_callS_pi (p_N_isUpTo (kg κ) (d - 1) (Nat.zero_le _) _ _ _) G d_N_person_2 lk_N_98 (by omega) rfl (Nat.le_of_ble_eq_true rfl) hx ?_
  refine x_if_eq G d_N_person_5 (fun c5 => ?_) (fun c5 => ?_)
  · replace c5 := bI_0.mp c5
    refine x_ldc G d_N_person_26 kc_N_102 ?_
    exact m_iret E G d_N_person_28 hx rfl rfl ⟨_, rfl, RC.same hR (by simp only [fPerson, c5, Bool.and_true, Bool.true_and, Bool.and_false, Bool.false_and, Bool.or_true, Bool.true_or, Bool.or_false, Bool.false_or, Bool.not_true, Bool.not_false, Bool.false_eq_true, decide_true, decide_false, if_true, if_false])⟩
  · replace c5 := bI_n0.mp c5
    refine x_iload2 G d_N_person_8 ?_
    refine x_bipush (v := nI 8) G d_N_person_9 rfl ?_
    refine m_callS_pi (p_N_isUpTo (kg κ) (d - 1) (Nat.zero_le _) _ _ _) G d_N_person_11 lk_N_98 (by omega) rfl (Nat.le_of_ble_eq_true rfl) hx ?_
    refine x_if_eq G d_N_person_14 (fun c14 => ?_) (fun c14 => ?_)
    · replace c14 := bI_0.mp c14
      refine x_ldc G d_N_person_26 kc_N_102 ?_
      exact m_iret E G d_N_person_28 hx rfl rfl ⟨_, rfl, RC.same hR (by simp only [fPerson, c5, c14, Bool.and_true, Bool.true_and, Bool.and_false, Bool.false_and, Bool.or_true, Bool.true_or, Bool.or_false, Bool.false_or, Bool.not_true, Bool.not_false, Bool.false_eq_true, decide_true, decide_false, if_true, if_false])⟩
    · replace c14 := bI_n0.mp c14
      refine x_iload3 G d_N_person_17 ?_
      refine x_bipush (v := nI 99) G d_N_person_18 rfl ?_
      refine m_callS_pi (p_N_isUpTo (kg κ) (d - 1) (Nat.zero_le _) _ _ _) G d_N_person_20 lk_N_98 (by omega) rfl (Nat.le_of_ble_eq_true rfl) hx ?_
      refine x_if_ne G d_N_person_23 (fun c23 => ?_) (fun c23 => ?_)
      · replace c23 := bI_n0.mp c23
        refine x_aload0 G d_N_person_29 ?_
        refine m_getr G d_N_person_30 fl_N_43 rfl (by decide) rfl ?_
        refine x_iload1 G d_N_person_33 ?_
        refine x_iload2 G d_N_person_34 ?_
        refine x_iload3 G d_N_person_35 ?_
        refine m_callV_pr (p_Wo_come (kg κ) (d - 1) (by omega) σ 28 hw28 S hR hI _ _ _) G d_N_person_36 lk_N_103 rfl ⟨by decide, rfl⟩ (by decide) (by omega) rfl (Nat.le_of_ble_eq_true rfl) hx (fun v1 σ1 ⟨g1, g2, g3⟩ => ?_)
        exact m_iret E G d_N_person_39 hx rfl rfl ⟨_, rfl, by rw [show fPerson S k h i = fCome S k h i by simp only [fPerson, c5, c14, c23, Bool.and_true, Bool.true_and, Bool.and_false, Bool.false_and, Bool.or_true, Bool.true_or, Bool.or_false, Bool.false_or, Bool.not_true, Bool.not_false, Bool.false_eq_true, decide_true, decide_false, if_true, if_false]]; exact ⟨g1, g2, OutC.of (Or.inl rfl) g3⟩⟩
      · replace c23 := bI_0.mp c23
        refine x_ldc G d_N_person_26 kc_N_102 ?_
        exact m_iret E G d_N_person_28 hx rfl rfl ⟨_, rfl, RC.same hR (by simp only [fPerson, c5, c14, c23, Bool.and_true, Bool.true_and, Bool.and_false, Bool.false_and, Bool.or_true, Bool.true_or, Bool.or_false, Bool.false_or, Bool.not_true, Bool.not_false, Bool.false_eq_true, decide_true, decide_false, if_true, if_false])⟩
theorem p_N_told (g : CX) (d : Nat) (hd : 4 ≤ d) (σ : Sg) (S : Rw) (hO : CO S σ) (one what : Int32) : RunM g d N_told [.ref 0, .int one, .int what] σ (PR (RC (fTold S one what) σ)) := by
  refine RunM.of 0 (by decide +kernel) rfl ?_
  intro κ hg hx hk0 G E
  subst hg
  have hk : 3 ≤ kn κ := Nat.le_of_eq hk0.symm
  show X κ NC 0 [some (.ref 0), some (.int one), some (.int what)] [] (hv σ)
  obtain ⟨hR, hL, hI, hJ, h9⟩ := hO
  have hn8 := hI.n
  refine x_aload0 G d_N_told_0 ?_
  refine m_getr G d_N_told_1 fl_N_43 rfl (by decide) rfl ?_
  refine x_iload1 G d_N_told_4 ?_
  refine m_callV_pi (p_isOn (kg κ) (d - 1) _ 28 hw28 S hR _) G d_N_told_5 lk_N_107 rfl ⟨by decide, rfl⟩ (by decide) (by omega) rfl (Nat.le_of_ble_eq_true rfl) hx ?_
  refine x_if_eq G d_N_told_8 (fun c8 => ?_) (fun c8 => ?_)
  · replace c8 := bI_0.mp c8
    refine x_ldc G d_N_told_20 kc_N_102 ?_
    exact m_iret E G d_N_told_22 hx rfl rfl ⟨_, rfl, RC.same hR (by simp only [fTold, c8, Bool.and_true, Bool.true_and, Bool.and_false, Bool.false_and, Bool.or_true, Bool.true_or, Bool.or_false, Bool.false_or, Bool.not_true, Bool.not_false, Bool.false_eq_true, decide_true, decide_false, if_true, if_false])⟩
  · replace c8 := bI_n0.mp c8
    obtain ⟨p, hp, hpn, tp, rfl⟩ := one_ex hI c8
    refine x_iload2 G d_N_told_11 ?_
    refine x_bipush (v := nI 6) G d_N_told_12 rfl ?_
    refine m_callS_pi (p_N_isUpTo (kg κ) (d - 1) (Nat.zero_le _) _ _ _) G d_N_told_14 lk_N_98 (by omega) rfl (Nat.le_of_ble_eq_true rfl) hx ?_
    refine x_if_ne G d_N_told_17 (fun c17 => ?_) (fun c17 => ?_)
    · replace c17 := bI_n0.mp c17
      obtain ⟨q, hq, tq, rfl⟩ := upB_ex (by decide) c17
      refine x_iload2 G d_N_told_23 ?_
      refine x_bipush (v := nI 6) G d_N_told_24 rfl ?_
      refine x_icmp_ne G d_N_told_26 (fun c26 => ?_) (fun c26 => ?_)
      · have hq6 : q < 6 := by rcases Nat.lt_or_ge q 6 with z | z; exact z; exact absurd (by rw [show q = 6 by omega]) c26
        refine x_aload0 G d_N_told_40 ?_
        refine m_getr G d_N_told_41 fl_N_43 rfl (by decide) rfl ?_
        refine m_getr G d_N_told_44 fl_N_115 rfl (by decide) rfl ?_
        refine x_iload2 G d_N_told_47 ?_
        refine m_aald q G d_N_told_48 rfl (by decide) rfl ⟨by omega, by first | decide | omega⟩ (W_p hw28 hq6) ?_
        refine x_iload1 G d_N_told_49 ?_
        refine m_iald p G d_N_told_50 (W_sp hw28 hq6) rfl ⟨by omega, by first | decide | omega⟩ ?_
        rw [show σ (28 + 2 + q) p = S (ixP p q) from hR.p q (by omega) (by omega)]
        exact m_iret E G d_N_told_51 hx rfl rfl ⟨_, rfl, RC.same hR (by simp only [fTold, c8, tp, c17, tq, c26, Bool.and_true, Bool.true_and, Bool.and_false, Bool.false_and, Bool.or_true, Bool.true_or, Bool.or_false, Bool.false_or, Bool.not_true, Bool.not_false, Bool.false_eq_true, decide_true, decide_false, if_true, if_false])⟩
      · refine x_aload0 G d_N_told_29 ?_
        refine m_getr G d_N_told_30 fl_N_43 rfl (by decide) rfl ?_
        refine x_iload1 G d_N_told_33 ?_
        refine m_callV_pi (p_Wo_worthOf (kg κ) (d - 1) (by omega) σ 28 hw28 S hR hI p (by omega)) G d_N_told_34 lk_N_111 rfl ⟨by decide, rfl⟩ (by decide) (by omega) rfl (Nat.le_of_ble_eq_true rfl) hx ?_
        refine x_goto G d_N_told_37 ?_
        exact m_iret E G d_N_told_51 hx rfl rfl ⟨_, rfl, RC.same hR (by simp only [fTold, c8, tp, c17, tq, eq_true c26, Bool.and_true, Bool.true_and, Bool.and_false, Bool.false_and, Bool.or_true, Bool.true_or, Bool.or_false, Bool.false_or, Bool.not_true, Bool.not_false, Bool.false_eq_true, decide_true, decide_false, if_true, if_false])⟩
    · replace c17 := bI_0.mp c17
      refine x_ldc G d_N_told_20 kc_N_102 ?_
      exact m_iret E G d_N_told_22 hx rfl rfl ⟨_, rfl, RC.same hR (by simp only [fTold, c8, tp, c17, Bool.and_true, Bool.true_and, Bool.and_false, Bool.false_and, Bool.or_true, Bool.true_or, Bool.or_false, Bool.false_or, Bool.not_true, Bool.not_false, Bool.false_eq_true, decide_true, decide_false, if_true, if_false])⟩
theorem p_N_walk (g : CX) (d : Nat) (hd : 4 ≤ d) (σ : Sg) (S : Rw) (hO : CO S σ) (one fd what : Int32) : RunM g d N_walk [.ref 0, .int one, .int fd, .int what] σ (PR (RC (fWalk S one fd what) σ)) := by
  refine RunM.of 0 (by decide +kernel) rfl ?_
  intro κ hg hx hk0 G E
  subst hg
  have hk : 4 ≤ kn κ := Nat.le_of_eq hk0.symm
  show X κ NC 0 [some (.ref 0), some (.int one), some (.int fd), some (.int what)] [] (hv σ)
  obtain ⟨hR, hL, hI, hJ, h9⟩ := hO
  have hn8 := hI.n
  refine x_aload0 G d_N_walk_0 ?_
  refine m_getr G d_N_walk_1 fl_N_43 rfl (by decide) rfl ?_
  refine x_iload1 G d_N_walk_4 ?_
  refine m_callV_pi (p_isOn (kg κ) (d - 1) _ 28 hw28 S hR _) G d_N_walk_5 lk_N_107 rfl ⟨by decide, rfl⟩ (by decide) (by omega) rfl (Nat.le_of_ble_eq_true rfl) hx ?_
  refine x_if_eq G d_N_walk_8 (fun c8 => ?_) (fun c8 => ?_)
  · replace c8 := bI_0.mp c8
    refine x_ldc G d_N_walk_28 kc_N_102 ?_
    exact m_iret E G d_N_walk_30 hx rfl rfl ⟨_, rfl, RC.same hR (by simp only [fWalk, c8, Bool.and_true, Bool.true_and, Bool.and_false, Bool.false_and, Bool.or_true, Bool.true_or, Bool.or_false, Bool.false_or, Bool.not_true, Bool.not_false, Bool.false_eq_true, decide_true, decide_false, if_true, if_false])⟩
  · replace c8 := bI_n0.mp c8
    obtain ⟨p, hp, hpn, tp, rfl⟩ := one_ex hI c8
    refine x_iload2 G d_N_walk_11 ?_
    refine x_bipush (v := nI 8) G d_N_walk_12 rfl ?_
    refine m_callS_pi (p_N_isUpTo (kg κ) (d - 1) (Nat.zero_le _) _ _ _) G d_N_walk_14 lk_N_98 (by omega) rfl (Nat.le_of_ble_eq_true rfl) hx ?_
    refine x_if_eq G d_N_walk_17 (fun c17 => ?_) (fun c17 => ?_)
    · replace c17 := bI_0.mp c17
      refine x_ldc G d_N_walk_28 kc_N_102 ?_
      exact m_iret E G d_N_walk_30 hx rfl rfl ⟨_, rfl, RC.same hR (by simp only [fWalk, c8, tp, c17, Bool.and_true, Bool.true_and, Bool.and_false, Bool.false_and, Bool.or_true, Bool.true_or, Bool.or_false, Bool.false_or, Bool.not_true, Bool.not_false, Bool.false_eq_true, decide_true, decide_false, if_true, if_false])⟩
    · replace c17 := bI_n0.mp c17
      obtain ⟨f, hf, tf, rfl⟩ := upB_ex (by decide) c17
      refine x_iload3 G d_N_walk_20 ?_
      refine x_iconst (v := nI 1) G d_N_walk_21 rfl ?_
      refine m_callS_pi (p_N_isUpTo (kg κ) (d - 1) (Nat.zero_le _) _ _ _) G d_N_walk_22 lk_N_98 (by omega) rfl (Nat.le_of_ble_eq_true rfl) hx ?_
      refine x_if_ne G d_N_walk_25 (fun c25 => ?_) (fun c25 => ?_)
      · replace c25 := bI_n0.mp c25
        refine x_iload3 G d_N_walk_31 ?_
        refine x_if_ne G d_N_walk_32 (fun c32 => ?_) (fun c32 => ?_)
        · refine x_aload0 G d_N_walk_47 ?_
          refine m_getr G d_N_walk_48 fl_N_43 rfl (by decide) rfl ?_
          refine x_iload1 G d_N_walk_51 ?_
          refine x_iload2 G d_N_walk_52 ?_
          refine m_callV_pi (p_Wo_mayStand (kg κ) (d - 1) (by omega) σ 28 hw28 S hR hI p f (by omega) (by omega)) G d_N_walk_53 lk_N_123 rfl ⟨by decide, rfl⟩ (by decide) (by omega) rfl (Nat.le_of_ble_eq_true rfl) hx ?_
          refine x_if_eq G d_N_walk_56 (fun c56 => ?_) (fun c56 => ?_)
          · replace c56 := bI_0.mp c56
            refine x_iconst (v := nI 0) G d_N_walk_63 rfl ?_
            exact m_iret E G d_N_walk_64 hx rfl rfl ⟨_, rfl, RC.mk' (S1 := S) (v1 := bI (sMay S p f)) (by simp only [fWalk, c8, tp, c17, tf, c25, c32, Bool.and_true, Bool.true_and, Bool.and_false, Bool.false_and, Bool.or_true, Bool.true_or, Bool.or_false, Bool.false_or, Bool.not_true, Bool.not_false, Bool.false_eq_true, decide_true, decide_false, if_true, if_false]) (by rw [c56]; rfl) hR OutC.refl⟩
          · replace c56 := bI_n0.mp c56
            refine x_iconst (v := nI 1) G d_N_walk_59 rfl ?_
            refine x_goto G d_N_walk_60 ?_
            exact m_iret E G d_N_walk_64 hx rfl rfl ⟨_, rfl, RC.mk' (S1 := S) (v1 := bI (sMay S p f)) (by simp only [fWalk, c8, tp, c17, tf, c25, c32, Bool.and_true, Bool.true_and, Bool.and_false, Bool.false_and, Bool.or_true, Bool.true_or, Bool.or_false, Bool.false_or, Bool.not_true, Bool.not_false, Bool.false_eq_true, decide_true, decide_false, if_true, if_false]) (by rw [c56]; rfl) hR OutC.refl⟩
        · refine x_aload0 G d_N_walk_35 ?_
          refine m_getr G d_N_walk_36 fl_N_43 rfl (by decide) rfl ?_
          refine x_iload1 G d_N_walk_39 ?_
          refine x_iload2 G d_N_walk_40 ?_
          refine m_callV_pr (p_Wo_walkOf (kg κ) (d - 1) (by omega) σ 28 hw28 S hR hI hL p f (by omega) (by omega)) G d_N_walk_41 lk_N_119 rfl ⟨by decide, rfl⟩ (by decide) (by omega) rfl (Nat.le_of_ble_eq_true rfl) hx (fun v1 σ1 ⟨g1, g2⟩ => ?_)
          refine x_goto G d_N_walk_44 ?_
          exact m_iret E G d_N_walk_64 hx rfl rfl ⟨_, rfl, RC.mk' (S1 := S) (v1 := sWalk S p f) (by simp only [fWalk, c8, tp, c17, tf, c25, eq_true c32, Bool.and_true, Bool.true_and, Bool.and_false, Bool.false_and, Bool.or_true, Bool.true_or, Bool.or_false, Bool.false_or, Bool.not_true, Bool.not_false, Bool.false_eq_true, decide_true, decide_false, if_true, if_false]) g1 (hR.frame (fun k h4 h5 h6 => g2 k (by omega))) (OutC.of (w := 28) (Or.inl rfl) (fun k _ h4 => g2 k h4))⟩
      · replace c25 := bI_0.mp c25
        refine x_ldc G d_N_walk_28 kc_N_102 ?_
        exact m_iret E G d_N_walk_30 hx rfl rfl ⟨_, rfl, RC.same hR (by simp only [fWalk, c8, tp, c17, tf, c25, Bool.and_true, Bool.true_and, Bool.and_false, Bool.false_and, Bool.or_true, Bool.true_or, Bool.or_false, Bool.false_or, Bool.not_true, Bool.not_false, Bool.false_eq_true, decide_true, decide_false, if_true, if_false])⟩
theorem p_N_as (g : CX) (d : Nat) (hd : 4 ≤ d) (σ : Sg) (S : Rw) (hO : CO S σ) (one k : Int32) : RunM g d N_as [.ref 0, .int one, .int k] σ (PR (RC (fAs S one k) σ)) := by
  refine RunM.of 0 (by decide +kernel) rfl ?_
  intro κ hg hx hk0 G E
  subst hg
  have hk : 3 ≤ kn κ := Nat.le_of_eq hk0.symm
  show X κ NC 0 [some (.ref 0), some (.int one), some (.int k)] [] (hv σ)
  obtain ⟨hR, hL, hI, hJ, h9⟩ := hO
  have hn8 := hI.n
  refine x_aload0 G d_N_as_0 ?_
  refine m_getr G d_N_as_1 fl_N_43 rfl (by decide) rfl ?_
  refine x_iload1 G d_N_as_4 ?_
  refine m_callV_pi (p_isOn (kg κ) (d - 1) _ 28 hw28 S hR _) G d_N_as_5 lk_N_107 rfl ⟨by decide, rfl⟩ (by decide) (by omega) rfl (Nat.le_of_ble_eq_true rfl) hx ?_
  refine x_if_eq G d_N_as_8 (fun c8 => ?_) (fun c8 => ?_)
  · replace c8 := bI_0.mp c8
    refine x_ldc G d_N_as_19 kc_N_102 ?_
    exact m_iret E G d_N_as_21 hx rfl rfl ⟨_, rfl, RC.same hR (by simp only [fAs, c8, Bool.and_true, Bool.true_and, Bool.and_false, Bool.false_and, Bool.or_true, Bool.true_or, Bool.or_false, Bool.false_or, Bool.not_true, Bool.not_false, Bool.false_eq_true, decide_true, decide_false, if_true, if_false])⟩
  · replace c8 := bI_n0.mp c8
    obtain ⟨p, hp, hpn, tp, rfl⟩ := one_ex hI c8
    refine x_iload2 G d_N_as_11 ?_
    refine x_iconst (v := nI 5) G d_N_as_12 rfl ?_
    refine m_callS_pi (p_N_isUpTo (kg κ) (d - 1) (Nat.zero_le _) _ _ _) G d_N_as_13 lk_N_98 (by omega) rfl (Nat.le_of_ble_eq_true rfl) hx ?_
    refine x_if_ne G d_N_as_16 (fun c16 => ?_) (fun c16 => ?_)
    · replace c16 := bI_n0.mp c16
      have hj : tn (S (ixP p 0)) < 6 := by have := (hI.kind (show p < 8 by omega)).2; omega
      refine x_aload0 G d_N_as_22 ?_
      refine m_getr G d_N_as_23 fl_N_43 rfl (by decide) rfl ?_
      refine x_iload1 G d_N_as_26 ?_
      refine m_callV_pf (p_Wo_kindOf (kg κ) (d - 1) (by omega) σ 28 hw28 S hR hI p (by omega)) G d_N_as_27 lk_N_126 rfl ⟨by decide, rfl⟩ (by decide) (by omega) rfl (Nat.le_of_ble_eq_true rfl) hx ?_
      refine x_iload2 G d_N_as_30 ?_
      refine m_callU_pi (r_isOf (kg κ) (d - 1) (by omega) σ hj _) G d_N_as_31 (lU_N_130 hj) (K_o hj) ⟨by omega, rfl⟩ (by omega) (by omega) rfl (Nat.le_of_ble_eq_true rfl) hx ?_
      refine x_if_eq G d_N_as_34 (fun c34 => ?_) (fun c34 => ?_)
      · replace c34 := bI_0.mp c34
        refine x_ldc G d_N_as_51 kc_N_133 ?_
        exact m_iret E G d_N_as_53 hx rfl rfl ⟨_, rfl, RC.same hR (by simp only [fAs, c8, tp, c16, c34, Bool.and_true, Bool.true_and, Bool.and_false, Bool.false_and, Bool.or_true, Bool.true_or, Bool.or_false, Bool.false_or, Bool.not_true, Bool.not_false, Bool.false_eq_true, decide_true, decide_false, if_true, if_false])⟩
      · replace c34 := bI_n0.mp c34
        refine x_aload0 G d_N_as_37 ?_
        refine m_getr G d_N_as_38 fl_N_43 rfl (by decide) rfl ?_
        refine m_getr G d_N_as_41 fl_N_115 rfl (by decide) rfl ?_
        refine x_iconst (v := nI 2) G d_N_as_44 rfl ?_
        refine m_aald _ G d_N_as_45 rfl (by decide) rfl ⟨by omega, by first | decide | omega⟩ rfl ?_
        refine x_iload1 G d_N_as_46 ?_
        refine m_iald p G d_N_as_47 rfl rfl ⟨by omega, by first | decide | omega⟩ ?_
        rw [show σ (28 + 2 + 2) p = S (ixP p 2) from hR.p 2 (by omega) (by omega)]
        refine x_goto G d_N_as_48 ?_
        exact m_iret E G d_N_as_53 hx rfl rfl ⟨_, rfl, RC.same hR (by simp only [fAs, c8, tp, c16, c34, Bool.and_true, Bool.true_and, Bool.and_false, Bool.false_and, Bool.or_true, Bool.true_or, Bool.or_false, Bool.false_or, Bool.not_true, Bool.not_false, Bool.false_eq_true, decide_true, decide_false, if_true, if_false])⟩
    · replace c16 := bI_0.mp c16
      refine x_ldc G d_N_as_19 kc_N_102 ?_
      exact m_iret E G d_N_as_21 hx rfl rfl ⟨_, rfl, RC.same hR (by simp only [fAs, c8, tp, c16, Bool.and_true, Bool.true_and, Bool.and_false, Bool.false_and, Bool.or_true, Bool.true_or, Bool.or_false, Bool.false_or, Bool.not_true, Bool.not_false, Bool.false_eq_true, decide_true, decide_false, if_true, if_false])⟩
theorem p_N_turns (g : CX) (d : Nat) (hd : 1 ≤ d) (σ : Sg) (S : Rw) (hO : CO S σ) (one k : Int32) : RunM g d N_turns [.ref 0, .int one, .int k] σ (PR (RC (fTurns S one k) σ)) := by
  refine RunM.of 0 (by decide +kernel) rfl ?_
  intro κ hg hx hk0 G E
  subst hg
  have hk : 3 ≤ kn κ := Nat.le_of_eq hk0.symm
  show X κ NC 0 [some (.ref 0), some (.int one), some (.int k)] [] (hv σ)
  obtain ⟨hR, hL, hI, hJ, h9⟩ := hO
  have hn8 := hI.n
  refine x_aload0 G d_N_turns_0 ?_
  refine m_getr G d_N_turns_1 fl_N_43 rfl (by decide) rfl ?_
  refine x_iload1 G d_N_turns_4 ?_
  refine m_callV_pi (p_isOn (kg κ) (d - 1) _ 28 hw28 S hR _) G d_N_turns_5 lk_N_107 rfl ⟨by decide, rfl⟩ (by decide) (by omega) rfl (Nat.le_of_ble_eq_true rfl) hx ?_
  refine x_if_eq G d_N_turns_8 (fun c8 => ?_) (fun c8 => ?_)
  · replace c8 := bI_0.mp c8
    refine x_ldc G d_N_turns_19 kc_N_102 ?_
    exact m_iret E G d_N_turns_21 hx rfl rfl ⟨_, rfl, RC.same hR (by simp only [fTurns, c8, Bool.and_true, Bool.true_and, Bool.and_false, Bool.false_and, Bool.or_true, Bool.true_or, Bool.or_false, Bool.false_or, Bool.not_true, Bool.not_false, Bool.false_eq_true, decide_true, decide_false, if_true, if_false])⟩
  · replace c8 := bI_n0.mp c8
    obtain ⟨p, hp, hpn, tp, rfl⟩ := one_ex hI c8
    refine x_iload2 G d_N_turns_11 ?_
    refine x_iconst (v := nI 5) G d_N_turns_12 rfl ?_
    refine m_callS_pi (p_N_isUpTo (kg κ) (d - 1) (Nat.zero_le _) _ _ _) G d_N_turns_13 lk_N_98 (by omega) rfl (Nat.le_of_ble_eq_true rfl) hx ?_
    refine x_if_ne G d_N_turns_16 (fun c16 => ?_) (fun c16 => ?_)
    · replace c16 := bI_n0.mp c16
      refine x_aload0 G d_N_turns_22 ?_
      refine m_getr G d_N_turns_23 fl_N_43 rfl (by decide) rfl ?_
      refine m_getr G d_N_turns_26 fl_N_115 rfl (by decide) rfl ?_
      refine x_iconst (v := nI 0) G d_N_turns_29 rfl ?_
      refine m_aald _ G d_N_turns_30 rfl (by decide) rfl ⟨by omega, by first | decide | omega⟩ rfl ?_
      refine x_iload1 G d_N_turns_31 ?_
      refine x_iload2 G d_N_turns_32 ?_
      refine m_callS_pi (p_N_exchange (kg κ) (d - 1) (by omega) σ 30 8 p rfl (by omega) (by decide) _) G d_N_turns_33 lk_N_134 (by omega) rfl (Nat.le_of_ble_eq_true rfl) hx ?_
      exact m_iret E G d_N_turns_36 hx rfl rfl ⟨_, rfl, RC.mk' (S1 := upd S (ixP p 0) k) (v1 := S (ixP p 0)) (by simp only [fTurns, c8, tp, c16, Bool.and_true, Bool.true_and, Bool.and_false, Bool.false_and, Bool.or_true, Bool.true_or, Bool.or_false, Bool.false_or, Bool.not_true, Bool.not_false, Bool.false_eq_true, decide_true, decide_false, if_true, if_false]) (hR.p 0 (by decide) (by omega)) (hR.setp (by decide) (by omega) _) (OutC.refl.upd (by omega))⟩
    · replace c16 := bI_0.mp c16
      refine x_ldc G d_N_turns_19 kc_N_102 ?_
      exact m_iret E G d_N_turns_21 hx rfl rfl ⟨_, rfl, RC.same hR (by simp only [fTurns, c8, tp, c16, Bool.and_true, Bool.true_and, Bool.and_false, Bool.false_and, Bool.or_true, Bool.true_or, Bool.or_false, Bool.false_or, Bool.not_true, Bool.not_false, Bool.false_eq_true, decide_true, decide_false, if_true, if_false])⟩
theorem p_N_set (g : CX) (d : Nat) (hd : 1 ≤ d) (σ : Sg) (S : Rw) (hO : CO S σ) (one what v : Int32) : RunM g d N_set [.ref 0, .int one, .int what, .int v] σ (PR (RC (fSet S one what v) σ)) := by
  refine RunM.of 0 (by decide +kernel) rfl ?_
  intro κ hg hx hk0 G E
  subst hg
  have hk : 4 ≤ kn κ := Nat.le_of_eq hk0.symm
  show X κ NC 0 [some (.ref 0), some (.int one), some (.int what), some (.int v)] [] (hv σ)
  obtain ⟨hR, hL, hI, hJ, h9⟩ := hO
  have hn8 := hI.n
  refine x_aload0 G d_N_set_0 ?_
  refine m_getr G d_N_set_1 fl_N_43 rfl (by decide) rfl ?_
  refine x_iload1 G d_N_set_4 ?_
  refine m_callV_pi (p_isOn (kg κ) (d - 1) _ 28 hw28 S hR _) G d_N_set_5 lk_N_107 rfl ⟨by decide, rfl⟩ (by decide) (by omega) rfl (Nat.le_of_ble_eq_true rfl) hx ?_
  refine x_if_eq G d_N_set_8 (fun c8 => ?_) (fun c8 => ?_)
  · replace c8 := bI_0.mp c8
    refine x_ldc G d_N_set_21 kc_N_102 ?_
    exact m_iret E G d_N_set_23 hx rfl rfl ⟨_, rfl, RC.same hR (by simp only [fSet, c8, Bool.and_true, Bool.true_and, Bool.and_false, Bool.false_and, Bool.or_true, Bool.true_or, Bool.or_false, Bool.false_or, Bool.not_true, Bool.not_false, Bool.false_eq_true, decide_true, decide_false, if_true, if_false])⟩
  · replace c8 := bI_n0.mp c8
    obtain ⟨p, hp, hpn, tp, rfl⟩ := one_ex hI c8
    refine x_iload2 G d_N_set_11 ?_
    refine x_iconst (v := nI 1) G d_N_set_12 rfl ?_
    refine x_icmp_eq G d_N_set_13 (fun c13 => ?_) (fun c13 => ?_)
    · subst c13
      refine x_iload3 G d_N_set_24 ?_
      refine x_iload2 G d_N_set_25 ?_
      refine x_iconst (v := nI 1) G d_N_set_26 rfl ?_
      refine x_icmp_ne G d_N_set_27 (fun c27 => ?_) (fun c27 => ?_)
      · exact absurd rfl c27
      · refine x_bipush (v := nI 8) G d_N_set_30 rfl ?_
        refine x_goto G d_N_set_32 ?_
        refine m_callS_pi (p_N_isUpTo (kg κ) (d - 1) (Nat.zero_le _) _ _ _) G d_N_set_37 lk_N_98 (by omega) rfl (Nat.le_of_ble_eq_true rfl) hx ?_
        refine x_if_ne G d_N_set_40 (fun c40 => ?_) (fun c40 => ?_)
        · replace c40 := bI_n0.mp c40
          refine x_aload0 G d_N_set_46 ?_
          refine m_getr G d_N_set_47 fl_N_43 rfl (by decide) rfl ?_
          refine m_getr G d_N_set_50 fl_N_115 rfl (by decide) rfl ?_
          refine x_iload2 G d_N_set_53 ?_
          refine m_aald 1 G d_N_set_54 rfl (by decide) rfl ⟨by omega, by first | decide | omega⟩ rfl ?_
          refine x_iload1 G d_N_set_55 ?_
          refine x_iload3 G d_N_set_56 ?_
          refine m_callS_pi (p_N_exchange (kg κ) (d - 1) (by omega) σ (28 + 2 + 1) 8 p rfl (by omega) (by decide) _) G d_N_set_57 lk_N_134 (by omega) rfl (Nat.le_of_ble_eq_true rfl) hx ?_
          exact m_iret E G d_N_set_60 hx rfl rfl ⟨_, rfl, RC.mk' (S1 := upd S (ixP p 1) v) (v1 := S (ixP p 1)) (by simp only [fSet, show tn (nI 1) = 1 from rfl, c8, tp, eq_true (rfl : nI 1 = nI 1), eq_false (show ¬ nI 1 = nI 2 by decide), eq_true c27, c40, Bool.and_true, Bool.true_and, Bool.and_false, Bool.false_and, Bool.or_true, Bool.true_or, Bool.or_false, Bool.false_or, Bool.not_true, Bool.not_false, Bool.false_eq_true, decide_true, decide_false, if_true, if_false]) (hR.p 1 (by decide) (by omega)) (hR.setp (k := 1) (by decide) (by omega) _) (OutC.refl.upd (by omega))⟩
        · replace c40 := bI_0.mp c40
          refine x_ldc G d_N_set_43 kc_N_102 ?_
          exact m_iret E G d_N_set_45 hx rfl rfl ⟨_, rfl, RC.same hR (by simp only [fSet, c8, tp, eq_true (rfl : nI 1 = nI 1), eq_false (show ¬ nI 1 = nI 2 by decide), eq_true c27, c40, Bool.and_true, Bool.true_and, Bool.and_false, Bool.false_and, Bool.or_true, Bool.true_or, Bool.or_false, Bool.false_or, Bool.not_true, Bool.not_false, Bool.false_eq_true, decide_true, decide_false, if_true, if_false])⟩
    · refine x_iload2 G d_N_set_16 ?_
      refine x_iconst (v := nI 2) G d_N_set_17 rfl ?_
      refine x_icmp_eq G d_N_set_18 (fun c18 => ?_) (fun c18 => ?_)
      · subst c18
        refine x_iload3 G d_N_set_24 ?_
        refine x_iload2 G d_N_set_25 ?_
        refine x_iconst (v := nI 1) G d_N_set_26 rfl ?_
        refine x_icmp_ne G d_N_set_27 (fun c27 => ?_) (fun c27 => ?_)
        · refine x_bipush (v := nI 99) G d_N_set_35 rfl ?_
          refine m_callS_pi (p_N_isUpTo (kg κ) (d - 1) (Nat.zero_le _) _ _ _) G d_N_set_37 lk_N_98 (by omega) rfl (Nat.le_of_ble_eq_true rfl) hx ?_
          refine x_if_ne G d_N_set_40 (fun c40 => ?_) (fun c40 => ?_)
          · replace c40 := bI_n0.mp c40
            refine x_aload0 G d_N_set_46 ?_
            refine m_getr G d_N_set_47 fl_N_43 rfl (by decide) rfl ?_
            refine m_getr G d_N_set_50 fl_N_115 rfl (by decide) rfl ?_
            refine x_iload2 G d_N_set_53 ?_
            refine m_aald 2 G d_N_set_54 rfl (by decide) rfl ⟨by omega, by first | decide | omega⟩ rfl ?_
            refine x_iload1 G d_N_set_55 ?_
            refine x_iload3 G d_N_set_56 ?_
            refine m_callS_pi (p_N_exchange (kg κ) (d - 1) (by omega) σ (28 + 2 + 2) 8 p rfl (by omega) (by decide) _) G d_N_set_57 lk_N_134 (by omega) rfl (Nat.le_of_ble_eq_true rfl) hx ?_
            exact m_iret E G d_N_set_60 hx rfl rfl ⟨_, rfl, RC.mk' (S1 := upd S (ixP p 2) v) (v1 := S (ixP p 2)) (by simp only [fSet, show tn (nI 2) = 2 from rfl, c8, tp, c13, eq_true (rfl : nI 2 = nI 2), eq_false (show ¬ nI 2 = nI 1 by decide), c27, c40, Bool.and_true, Bool.true_and, Bool.and_false, Bool.false_and, Bool.or_true, Bool.true_or, Bool.or_false, Bool.false_or, Bool.not_true, Bool.not_false, Bool.false_eq_true, decide_true, decide_false, if_true, if_false]) (hR.p 2 (by decide) (by omega)) (hR.setp (k := 2) (by decide) (by omega) _) (OutC.refl.upd (by omega))⟩
          · replace c40 := bI_0.mp c40
            refine x_ldc G d_N_set_43 kc_N_102 ?_
            exact m_iret E G d_N_set_45 hx rfl rfl ⟨_, rfl, RC.same hR (by simp only [fSet, c8, tp, c13, eq_true (rfl : nI 2 = nI 2), eq_false (show ¬ nI 2 = nI 1 by decide), c27, c40, Bool.and_true, Bool.true_and, Bool.and_false, Bool.false_and, Bool.or_true, Bool.true_or, Bool.or_false, Bool.false_or, Bool.not_true, Bool.not_false, Bool.false_eq_true, decide_true, decide_false, if_true, if_false])⟩
        · exact absurd c27 (by decide)
      · refine x_ldc G d_N_set_21 kc_N_102 ?_
        exact m_iret E G d_N_set_23 hx rfl rfl ⟨_, rfl, RC.same hR (by simp only [fSet, c8, tp, c13, c18, Bool.and_true, Bool.true_and, Bool.and_false, Bool.false_and, Bool.or_true, Bool.true_or, Bool.or_false, Bool.false_or, Bool.not_true, Bool.not_false, Bool.false_eq_true, decide_true, decide_false, if_true, if_false])⟩
theorem p_N_talk (g : CX) (d : Nat) (hd : 1 ≤ d) (σ : Sg) (S : Rw) (hO : CO S σ) (one other v : Int32) : RunM g d N_talk [.ref 0, .int one, .int other, .int v] σ (PR (RC (fTalk S one other v) σ)) := by
  refine RunM.of 1 (by decide +kernel) rfl ?_
  intro κ hg hx hk0 G E
  subst hg
  have hk : 5 ≤ kn κ := Nat.le_of_eq hk0.symm
  show X κ NC 0 [some (.ref 0), some (.int one), some (.int other), some (.int v), none] [] (hv σ)
  obtain ⟨hR, hL, hI, hJ, h9⟩ := hO
  have hn8 := hI.n
  refine x_aload0 G d_N_talk_0 ?_
  refine m_getr G d_N_talk_1 fl_N_43 rfl (by decide) rfl ?_
  refine x_iload1 G d_N_talk_4 ?_
  refine m_callV_pi (p_isOn (kg κ) (d - 1) _ 28 hw28 S hR _) G d_N_talk_5 lk_N_107 rfl ⟨by decide, rfl⟩ (by decide) (by omega) rfl (Nat.le_of_ble_eq_true rfl) hx ?_
  refine x_if_eq G d_N_talk_8 (fun c8 => ?_) (fun c8 => ?_)
  · replace c8 := bI_0.mp c8
    refine x_ldc G d_N_talk_35 kc_N_102 ?_
    exact m_iret E G d_N_talk_37 hx rfl rfl ⟨_, rfl, RC.same hR (by simp only [fTalk, c8, Bool.and_true, Bool.true_and, Bool.and_false, Bool.false_and, Bool.or_true, Bool.true_or, Bool.or_false, Bool.false_or, Bool.not_true, Bool.not_false, Bool.false_eq_true, decide_true, decide_false, if_true, if_false])⟩
  · replace c8 := bI_n0.mp c8
    obtain ⟨p, hp, hpn, tp, rfl⟩ := one_ex hI c8
    refine x_aload0 G d_N_talk_11 ?_
    refine m_getr G d_N_talk_12 fl_N_43 rfl (by decide) rfl ?_
    refine x_iload2 G d_N_talk_15 ?_
    refine m_callV_pi (p_isOn (kg κ) (d - 1) _ 28 hw28 S hR _) G d_N_talk_16 lk_N_107 rfl ⟨by decide, rfl⟩ (by decide) (by omega) rfl (Nat.le_of_ble_eq_true rfl) hx ?_
    refine x_if_eq G d_N_talk_19 (fun c19 => ?_) (fun c19 => ?_)
    · replace c19 := bI_0.mp c19
      refine x_ldc G d_N_talk_35 kc_N_102 ?_
      exact m_iret E G d_N_talk_37 hx rfl rfl ⟨_, rfl, RC.same hR (by simp only [fTalk, c8, tp, c19, Bool.and_true, Bool.true_and, Bool.and_false, Bool.false_and, Bool.or_true, Bool.true_or, Bool.or_false, Bool.false_or, Bool.not_true, Bool.not_false, Bool.false_eq_true, decide_true, decide_false, if_true, if_false])⟩
    · replace c19 := bI_n0.mp c19
      obtain ⟨o, ho, hon, to, rfl⟩ := one_ex hI c19
      refine x_iload1 G d_N_talk_22 ?_
      refine x_iload2 G d_N_talk_23 ?_
      refine x_icmp_eq G d_N_talk_24 (fun c24 => ?_) (fun c24 => ?_)
      · refine x_ldc G d_N_talk_35 kc_N_102 ?_
        exact m_iret E G d_N_talk_37 hx rfl rfl ⟨_, rfl, RC.same hR (by simp only [fTalk, c8, tp, c19, to, eq_true c24, Bool.and_true, Bool.true_and, Bool.and_false, Bool.false_and, Bool.or_true, Bool.true_or, Bool.or_false, Bool.false_or, Bool.not_true, Bool.not_false, Bool.false_eq_true, decide_true, decide_false, if_true, if_false])⟩
      · have hpo : p ≠ o := fun z => c24 (by rw [z])
        refine x_iload3 G d_N_talk_27 ?_
        refine x_iconst (v := nI 1) G d_N_talk_28 rfl ?_
        refine m_callS_pi (p_N_isUpTo (kg κ) (d - 1) (Nat.zero_le _) _ _ _) G d_N_talk_29 lk_N_98 (by omega) rfl (Nat.le_of_ble_eq_true rfl) hx ?_
        refine x_if_ne G d_N_talk_32 (fun c32 => ?_) (fun c32 => ?_)
        · replace c32 := bI_n0.mp c32
          obtain ⟨b, hb, tb, rfl⟩ := upB_ex (by decide) c32
          have hk1 := hJ.talk hp
          have hk2 := hJ.talk ho
          have hsy := hJ.2.1 p o hp ho
          obtain ⟨z1, z2⟩ := tkV_same _ (show tn (S (ixP p 6)) < 256 by omega) o ho b (by omega)
          obtain ⟨z3, z4⟩ := tkV_same _ (show tn (S (ixP o 6)) < 256 by omega) p hp b (by omega)
          rw [← hk1.1] at z1 z2
          rw [← hk2.1] at z3 z4
          refine x_aload0 G d_N_talk_38 ?_
          refine m_getr G d_N_talk_39 fl_N_43 rfl (by decide) rfl ?_
          refine x_iload1 G d_N_talk_42 ?_
          refine x_iload2 G d_N_talk_43 ?_
          refine m_callV_pi (p_Wo_isTalk (kg κ) (d - 1) (by omega) σ 28 hw28 S hR p o (by omega)) G d_N_talk_44 lk_N_138 rfl ⟨by decide, rfl⟩ (by decide) (by omega) rfl (Nat.le_of_ble_eq_true rfl) hx ?_
          refine x_if_eq G d_N_talk_47 (fun c47 => ?_) (fun c47 => ?_)
          · replace c47 := bI_0.mp c47
            refine x_iconst (v := nI 0) G d_N_talk_54 rfl ?_
            refine x_istore4 G d_N_talk_55 rfl hk ?_
            refine x_iload4 G d_N_talk_57 ?_
            refine x_iload3 G d_N_talk_59 ?_
            refine x_icmp_eq G d_N_talk_60 (fun c60 => ?_) (fun c60 => ?_)
            · have c60b : bI (sTalk S p o) = nI b := by rw [c47]; exact c60
              have c60c : bI (sTalk S o p) = nI b := by rw [← hsy]; exact c60b
              refine x_iload4 G d_N_talk_93 ?_
              exact m_iret E G d_N_talk_95 hx rfl rfl ⟨_, rfl, RC.mk' (S1 := S) (v1 := bI (sTalk S p o)) (by simp only [fTalk, to, tp, z1 c60b, z3 c60c, upd_self rfl, c8, tp, c19, to, c24, c32, c47, eq_true c60, Bool.and_true, Bool.true_and, Bool.and_false, Bool.false_and, Bool.or_true, Bool.true_or, Bool.or_false, Bool.false_or, Bool.not_true, Bool.not_false, Bool.false_eq_true, decide_true, decide_false, if_true, if_false]) (by rw [c47]; rfl) hR OutC.refl⟩
            · have c60b : ¬ bI (sTalk S p o) = nI b := by rw [c47]; exact c60
              have c60c : ¬ bI (sTalk S o p) = nI b := by rw [← hsy]; exact c60b
              refine x_aload0 G d_N_talk_63 ?_
              refine m_getr G d_N_talk_64 fl_N_43 rfl (by decide) rfl ?_
              refine m_getr G d_N_talk_67 fl_N_141 rfl (by decide) rfl ?_
              refine x_iload1 G d_N_talk_70 ?_
              refine x_dup2 G d_N_talk_71 rfl rfl ?_
              refine m_iald p G d_N_talk_72 rfl rfl ⟨by omega, by first | decide | omega⟩ ?_
              refine x_iconst (v := nI 1) G d_N_talk_73 rfl ?_
              refine x_iload2 G d_N_talk_74 ?_
              refine x_ishl G d_N_talk_75 ?_
              refine x_ixor G d_N_talk_76 ?_
              refine m_iast p G d_N_talk_77 rfl rfl ⟨by omega, by first | decide | omega⟩ ?_
              refine x_aload0 G d_N_talk_78 ?_
              refine m_getr G d_N_talk_79 fl_N_43 rfl (by decide) rfl ?_
              refine m_getr G d_N_talk_82 fl_N_141 rfl (by decide) rfl ?_
              refine x_iload2 G d_N_talk_85 ?_
              refine x_dup2 G d_N_talk_86 rfl rfl ?_
              refine m_iald o G d_N_talk_87 rfl rfl ⟨by omega, by first | decide | omega⟩ ?_
              refine x_iconst (v := nI 1) G d_N_talk_88 rfl ?_
              refine x_iload1 G d_N_talk_89 ?_
              refine x_ishl G d_N_talk_90 ?_
              refine x_ixor G d_N_talk_91 ?_
              refine m_iast o G d_N_talk_92 rfl rfl ⟨by omega, by first | decide | omega⟩ ?_
              refine x_iload4 G d_N_talk_93 ?_
              exact m_iret E G d_N_talk_95 hx rfl rfl ⟨_, rfl, RC.mk' (S1 := upd (upd S (ixP p 6) (S (ixP p 6) ^^^ nI 1 <<< (nI o &&& 31))) (ixP o 6) (S (ixP o 6) ^^^ nI 1 <<< (nI p &&& 31))) (v1 := bI (sTalk S p o)) (by simp only [fTalk, to, tp, z2 c60b, z4 c60c, c8, tp, c19, to, c24, c32, c47, c60, Bool.and_true, Bool.true_and, Bool.and_false, Bool.false_and, Bool.or_true, Bool.true_or, Bool.or_false, Bool.false_or, Bool.not_true, Bool.not_false, Bool.false_eq_true, decide_true, decide_false, if_true, if_false]) (by rw [c47]; rfl) (by rw [updS_ne (show ¬ (28 + 12 = 28 + 12 ∧ o = p) by omega), ← hR.t (by omega : p < 8), ← hR.t (by omega : o < 8)]; exact (hR.talk (by omega) _).talk (by omega) _) ((OutC.refl.upd (by omega)).upd (by omega))⟩
          · replace c47 := bI_n0.mp c47
            refine x_iconst (v := nI 1) G d_N_talk_50 rfl ?_
            refine x_goto G d_N_talk_51 ?_
            refine x_istore4 G d_N_talk_55 rfl hk ?_
            refine x_iload4 G d_N_talk_57 ?_
            refine x_iload3 G d_N_talk_59 ?_
            refine x_icmp_eq G d_N_talk_60 (fun c60 => ?_) (fun c60 => ?_)
            · have c60b : bI (sTalk S p o) = nI b := by rw [c47]; exact c60
              have c60c : bI (sTalk S o p) = nI b := by rw [← hsy]; exact c60b
              refine x_iload4 G d_N_talk_93 ?_
              exact m_iret E G d_N_talk_95 hx rfl rfl ⟨_, rfl, RC.mk' (S1 := S) (v1 := bI (sTalk S p o)) (by simp only [fTalk, to, tp, z1 c60b, z3 c60c, upd_self rfl, c8, tp, c19, to, c24, c32, c47, eq_true c60, Bool.and_true, Bool.true_and, Bool.and_false, Bool.false_and, Bool.or_true, Bool.true_or, Bool.or_false, Bool.false_or, Bool.not_true, Bool.not_false, Bool.false_eq_true, decide_true, decide_false, if_true, if_false]) (by rw [c47]; rfl) hR OutC.refl⟩
            · have c60b : ¬ bI (sTalk S p o) = nI b := by rw [c47]; exact c60
              have c60c : ¬ bI (sTalk S o p) = nI b := by rw [← hsy]; exact c60b
              refine x_aload0 G d_N_talk_63 ?_
              refine m_getr G d_N_talk_64 fl_N_43 rfl (by decide) rfl ?_
              refine m_getr G d_N_talk_67 fl_N_141 rfl (by decide) rfl ?_
              refine x_iload1 G d_N_talk_70 ?_
              refine x_dup2 G d_N_talk_71 rfl rfl ?_
              refine m_iald p G d_N_talk_72 rfl rfl ⟨by omega, by first | decide | omega⟩ ?_
              refine x_iconst (v := nI 1) G d_N_talk_73 rfl ?_
              refine x_iload2 G d_N_talk_74 ?_
              refine x_ishl G d_N_talk_75 ?_
              refine x_ixor G d_N_talk_76 ?_
              refine m_iast p G d_N_talk_77 rfl rfl ⟨by omega, by first | decide | omega⟩ ?_
              refine x_aload0 G d_N_talk_78 ?_
              refine m_getr G d_N_talk_79 fl_N_43 rfl (by decide) rfl ?_
              refine m_getr G d_N_talk_82 fl_N_141 rfl (by decide) rfl ?_
              refine x_iload2 G d_N_talk_85 ?_
              refine x_dup2 G d_N_talk_86 rfl rfl ?_
              refine m_iald o G d_N_talk_87 rfl rfl ⟨by omega, by first | decide | omega⟩ ?_
              refine x_iconst (v := nI 1) G d_N_talk_88 rfl ?_
              refine x_iload1 G d_N_talk_89 ?_
              refine x_ishl G d_N_talk_90 ?_
              refine x_ixor G d_N_talk_91 ?_
              refine m_iast o G d_N_talk_92 rfl rfl ⟨by omega, by first | decide | omega⟩ ?_
              refine x_iload4 G d_N_talk_93 ?_
              exact m_iret E G d_N_talk_95 hx rfl rfl ⟨_, rfl, RC.mk' (S1 := upd (upd S (ixP p 6) (S (ixP p 6) ^^^ nI 1 <<< (nI o &&& 31))) (ixP o 6) (S (ixP o 6) ^^^ nI 1 <<< (nI p &&& 31))) (v1 := bI (sTalk S p o)) (by simp only [fTalk, to, tp, z2 c60b, z4 c60c, c8, tp, c19, to, c24, c32, c47, c60, Bool.and_true, Bool.true_and, Bool.and_false, Bool.false_and, Bool.or_true, Bool.true_or, Bool.or_false, Bool.false_or, Bool.not_true, Bool.not_false, Bool.false_eq_true, decide_true, decide_false, if_true, if_false]) (by rw [c47]; rfl) (by rw [updS_ne (show ¬ (28 + 12 = 28 + 12 ∧ o = p) by omega), ← hR.t (by omega : p < 8), ← hR.t (by omega : o < 8)]; exact (hR.talk (by omega) _).talk (by omega) _) ((OutC.refl.upd (by omega)).upd (by omega))⟩
        · replace c32 := bI_0.mp c32
          refine x_ldc G d_N_talk_35 kc_N_102 ?_
          exact m_iret E G d_N_talk_37 hx rfl rfl ⟨_, rfl, RC.same hR (by simp only [fTalk, c8, tp, c19, to, c24, c32, Bool.and_true, Bool.true_and, Bool.and_false, Bool.false_and, Bool.or_true, Bool.true_or, Bool.or_false, Bool.false_or, Bool.not_true, Bool.not_false, Bool.false_eq_true, decide_true, decide_false, if_true, if_false])⟩
theorem p_N_field (g : CX) (d : Nat) (hd : 1 ≤ d) (σ : Sg) (S : Rw) (hO : CO S σ) (fd what : Int32) : RunM g d N_field [.ref 0, .int fd, .int what] σ (PR (RC (fField S fd what) σ)) := by
  refine RunM.of 0 (by decide +kernel) rfl ?_
  intro κ hg hx hk0 G E
  subst hg
  have hk : 3 ≤ kn κ := Nat.le_of_eq hk0.symm
  show X κ NC 0 [some (.ref 0), some (.int fd), some (.int what)] [] (hv σ)
  obtain ⟨hR, hL, hI, hJ, h9⟩ := hO
  have hn8 := hI.n
  refine x_iload1 G d_N_field_0 ?_
  refine x_bipush (v := nI 8) G d_N_field_1 rfl ?_
  refine m_callS_pi (p_N_isUpTo (kg κ) (d - 1) (Nat.zero_le _) _ _ _) G d_N_field_3 lk_N_98 (by omega) rfl (Nat.le_of_ble_eq_true rfl) hx ?_
  refine x_if_eq G d_N_field_6 (fun c6 => ?_) (fun c6 => ?_)
  · replace c6 := bI_0.mp c6
    refine x_ldc G d_N_field_17 kc_N_102 ?_
    exact m_iret E G d_N_field_19 hx rfl rfl ⟨_, rfl, RC.same hR (by simp only [fField, c6, Bool.and_true, Bool.true_and, Bool.and_false, Bool.false_and, Bool.or_true, Bool.true_or, Bool.or_false, Bool.false_or, Bool.not_true, Bool.not_false, Bool.false_eq_true, decide_true, decide_false, if_true, if_false])⟩
  · replace c6 := bI_n0.mp c6
    obtain ⟨f, hf, tf, rfl⟩ := upB_ex (by decide) c6
    refine x_iload2 G d_N_field_9 ?_
    refine x_iconst (v := nI 2) G d_N_field_10 rfl ?_
    refine m_callS_pi (p_N_isUpTo (kg κ) (d - 1) (Nat.zero_le _) _ _ _) G d_N_field_11 lk_N_98 (by omega) rfl (Nat.le_of_ble_eq_true rfl) hx ?_
    refine x_if_ne G d_N_field_14 (fun c14 => ?_) (fun c14 => ?_)
    · replace c14 := bI_n0.mp c14
      obtain ⟨q, hq, tq, rfl⟩ := upB_ex (by decide) c14
      refine x_aload0 G d_N_field_20 ?_
      refine m_getr G d_N_field_21 fl_N_43 rfl (by decide) rfl ?_
      refine m_getr G d_N_field_24 fl_N_144 rfl (by decide) rfl ?_
      refine x_iload2 G d_N_field_27 ?_
      refine m_aald q G d_N_field_28 rfl (by decide) rfl ⟨by omega, by first | decide | omega⟩ (W_f hw28 (by omega)) ?_
      refine x_iload1 G d_N_field_29 ?_
      refine m_iald f G d_N_field_30 (W_sf hw28 (by omega)) rfl ⟨by omega, by first | decide | omega⟩ ?_
      rw [show σ (28 + 9 + q) f = S (ixF f q) from hR.f q (by omega) (by omega)]
      exact m_iret E G d_N_field_31 hx rfl rfl ⟨_, rfl, RC.same hR (by simp only [fField, c6, tf, c14, tq, Bool.and_true, Bool.true_and, Bool.and_false, Bool.false_and, Bool.or_true, Bool.true_or, Bool.or_false, Bool.false_or, Bool.not_true, Bool.not_false, Bool.false_eq_true, decide_true, decide_false, if_true, if_false])⟩
    · replace c14 := bI_0.mp c14
      refine x_ldc G d_N_field_17 kc_N_102 ?_
      exact m_iret E G d_N_field_19 hx rfl rfl ⟨_, rfl, RC.same hR (by simp only [fField, c6, tf, c14, Bool.and_true, Bool.true_and, Bool.and_false, Bool.false_and, Bool.or_true, Bool.true_or, Bool.or_false, Bool.false_or, Bool.not_true, Bool.not_false, Bool.false_eq_true, decide_true, decide_false, if_true, if_false])⟩
theorem p_N_lays (g : CX) (d : Nat) (hd : 1 ≤ d) (σ : Sg) (S : Rw) (hO : CO S σ) (fd what v : Int32) : RunM g d N_lays [.ref 0, .int fd, .int what, .int v] σ (PR (RC (fLays S fd what v) σ)) := by
  refine RunM.of 0 (by decide +kernel) rfl ?_
  intro κ hg hx hk0 G E
  subst hg
  have hk : 4 ≤ kn κ := Nat.le_of_eq hk0.symm
  show X κ NC 0 [some (.ref 0), some (.int fd), some (.int what), some (.int v)] [] (hv σ)
  obtain ⟨hR, hL, hI, hJ, h9⟩ := hO
  have hn8 := hI.n
  refine x_iload1 G d_N_lays_0 ?_
  refine x_bipush (v := nI 8) G d_N_lays_1 rfl ?_
  refine m_callS_pi (p_N_isUpTo (kg κ) (d - 1) (Nat.zero_le _) _ _ _) G d_N_lays_3 lk_N_98 (by omega) rfl (Nat.le_of_ble_eq_true rfl) hx ?_
  refine x_if_eq G d_N_lays_6 (fun c6 => ?_) (fun c6 => ?_)
  · replace c6 := bI_0.mp c6
    refine x_ldc G d_N_lays_17 kc_N_102 ?_
    exact m_iret E G d_N_lays_19 hx rfl rfl ⟨_, rfl, RC.same hR (by simp only [fLays, c6, Bool.and_true, Bool.true_and, Bool.and_false, Bool.false_and, Bool.or_true, Bool.true_or, Bool.or_false, Bool.false_or, Bool.not_true, Bool.not_false, Bool.false_eq_true, decide_true, decide_false, if_true, if_false])⟩
  · replace c6 := bI_n0.mp c6
    obtain ⟨f, hf, tf, rfl⟩ := upB_ex (by decide) c6
    refine x_iload2 G d_N_lays_9 ?_
    refine x_iconst (v := nI 2) G d_N_lays_10 rfl ?_
    refine m_callS_pi (p_N_isUpTo (kg κ) (d - 1) (Nat.zero_le _) _ _ _) G d_N_lays_11 lk_N_98 (by omega) rfl (Nat.le_of_ble_eq_true rfl) hx ?_
    refine x_if_ne G d_N_lays_14 (fun c14 => ?_) (fun c14 => ?_)
    · replace c14 := bI_n0.mp c14
      obtain ⟨q, hq, tq, rfl⟩ := upB_ex (by decide) c14
      refine x_iload3 G d_N_lays_20 ?_
      refine x_iload2 G d_N_lays_21 ?_
      refine x_if_ne G d_N_lays_22 (fun c22 => ?_) (fun c22 => ?_)
      · refine x_iload2 G d_N_lays_30 ?_
        refine x_iconst (v := nI 1) G d_N_lays_31 rfl ?_
        refine x_icmp_ne G d_N_lays_32 (fun c32 => ?_) (fun c32 => ?_)
        · refine x_iconst (v := nI 4) G d_N_lays_40 rfl ?_
          refine m_callS_pi (p_N_isUpTo (kg κ) (d - 1) (Nat.zero_le _) _ _ _) G d_N_lays_41 lk_N_98 (by omega) rfl (Nat.le_of_ble_eq_true rfl) hx ?_
          refine x_if_ne G d_N_lays_44 (fun c44 => ?_) (fun c44 => ?_)
          · replace c44 := bI_n0.mp c44
            refine x_aload0 G d_N_lays_50 ?_
            refine m_getr G d_N_lays_51 fl_N_43 rfl (by decide) rfl ?_
            refine m_getr G d_N_lays_54 fl_N_144 rfl (by decide) rfl ?_
            refine x_iload2 G d_N_lays_57 ?_
            refine m_aald q G d_N_lays_58 rfl (by decide) rfl ⟨by omega, by first | decide | omega⟩ (W_f hw28 (by omega)) ?_
            refine x_iload1 G d_N_lays_59 ?_
            refine x_iload3 G d_N_lays_60 ?_
            refine m_callS_pi (p_N_exchange (kg κ) (d - 1) (by omega) σ (28 + 9 + q) 9 f (W_sf hw28 (by omega)) (by omega) (by decide) _) G d_N_lays_61 lk_N_134 (by omega) rfl (Nat.le_of_ble_eq_true rfl) hx ?_
            exact m_iret E G d_N_lays_64 hx rfl rfl ⟨_, rfl, RC.mk' (S1 := upd S (ixF f q) v) (v1 := S (ixF f q)) (by simp only [fLays, c6, tf, c14, tq, c22, c32, c44, Bool.and_true, Bool.true_and, Bool.and_false, Bool.false_and, Bool.or_true, Bool.true_or, Bool.or_false, Bool.false_or, Bool.not_true, Bool.not_false, Bool.false_eq_true, decide_true, decide_false, if_true, if_false]) (hR.f q (by omega) (by omega)) (hR.setf (by omega) (by omega) _) (OutC.refl.upd (by omega))⟩
          · replace c44 := bI_0.mp c44
            refine x_ldc G d_N_lays_47 kc_N_102 ?_
            exact m_iret E G d_N_lays_49 hx rfl rfl ⟨_, rfl, RC.same hR (by simp only [fLays, c6, tf, c14, tq, c22, c32, c44, Bool.and_true, Bool.true_and, Bool.and_false, Bool.false_and, Bool.or_true, Bool.true_or, Bool.or_false, Bool.false_or, Bool.not_true, Bool.not_false, Bool.false_eq_true, decide_true, decide_false, if_true, if_false])⟩
        · refine x_bipush (v := nI 99) G d_N_lays_35 rfl ?_
          refine x_goto G d_N_lays_37 ?_
          refine m_callS_pi (p_N_isUpTo (kg κ) (d - 1) (Nat.zero_le _) _ _ _) G d_N_lays_41 lk_N_98 (by omega) rfl (Nat.le_of_ble_eq_true rfl) hx ?_
          refine x_if_ne G d_N_lays_44 (fun c44 => ?_) (fun c44 => ?_)
          · replace c44 := bI_n0.mp c44
            refine x_aload0 G d_N_lays_50 ?_
            refine m_getr G d_N_lays_51 fl_N_43 rfl (by decide) rfl ?_
            refine m_getr G d_N_lays_54 fl_N_144 rfl (by decide) rfl ?_
            refine x_iload2 G d_N_lays_57 ?_
            refine m_aald q G d_N_lays_58 rfl (by decide) rfl ⟨by omega, by first | decide | omega⟩ (W_f hw28 (by omega)) ?_
            refine x_iload1 G d_N_lays_59 ?_
            refine x_iload3 G d_N_lays_60 ?_
            refine m_callS_pi (p_N_exchange (kg κ) (d - 1) (by omega) σ (28 + 9 + q) 9 f (W_sf hw28 (by omega)) (by omega) (by decide) _) G d_N_lays_61 lk_N_134 (by omega) rfl (Nat.le_of_ble_eq_true rfl) hx ?_
            exact m_iret E G d_N_lays_64 hx rfl rfl ⟨_, rfl, RC.mk' (S1 := upd S (ixF f q) v) (v1 := S (ixF f q)) (by simp only [fLays, c6, tf, c14, tq, c22, eq_true c32, c44, Bool.and_true, Bool.true_and, Bool.and_false, Bool.false_and, Bool.or_true, Bool.true_or, Bool.or_false, Bool.false_or, Bool.not_true, Bool.not_false, Bool.false_eq_true, decide_true, decide_false, if_true, if_false]) (hR.f q (by omega) (by omega)) (hR.setf (by omega) (by omega) _) (OutC.refl.upd (by omega))⟩
          · replace c44 := bI_0.mp c44
            refine x_ldc G d_N_lays_47 kc_N_102 ?_
            exact m_iret E G d_N_lays_49 hx rfl rfl ⟨_, rfl, RC.same hR (by simp only [fLays, c6, tf, c14, tq, c22, eq_true c32, c44, Bool.and_true, Bool.true_and, Bool.and_false, Bool.false_and, Bool.or_true, Bool.true_or, Bool.or_false, Bool.false_or, Bool.not_true, Bool.not_false, Bool.false_eq_true, decide_true, decide_false, if_true, if_false])⟩
      · refine x_bipush (v := nI 8) G d_N_lays_25 rfl ?_
        refine x_goto G d_N_lays_27 ?_
        refine m_callS_pi (p_N_isUpTo (kg κ) (d - 1) (Nat.zero_le _) _ _ _) G d_N_lays_41 lk_N_98 (by omega) rfl (Nat.le_of_ble_eq_true rfl) hx ?_
        refine x_if_ne G d_N_lays_44 (fun c44 => ?_) (fun c44 => ?_)
        · replace c44 := bI_n0.mp c44
          refine x_aload0 G d_N_lays_50 ?_
          refine m_getr G d_N_lays_51 fl_N_43 rfl (by decide) rfl ?_
          refine m_getr G d_N_lays_54 fl_N_144 rfl (by decide) rfl ?_
          refine x_iload2 G d_N_lays_57 ?_
          refine m_aald q G d_N_lays_58 rfl (by decide) rfl ⟨by omega, by first | decide | omega⟩ (W_f hw28 (by omega)) ?_
          refine x_iload1 G d_N_lays_59 ?_
          refine x_iload3 G d_N_lays_60 ?_
          refine m_callS_pi (p_N_exchange (kg κ) (d - 1) (by omega) σ (28 + 9 + q) 9 f (W_sf hw28 (by omega)) (by omega) (by decide) _) G d_N_lays_61 lk_N_134 (by omega) rfl (Nat.le_of_ble_eq_true rfl) hx ?_
          exact m_iret E G d_N_lays_64 hx rfl rfl ⟨_, rfl, RC.mk' (S1 := upd S (ixF f q) v) (v1 := S (ixF f q)) (by simp only [fLays, c6, tf, c14, tq, eq_true c22, c44, Bool.and_true, Bool.true_and, Bool.and_false, Bool.false_and, Bool.or_true, Bool.true_or, Bool.or_false, Bool.false_or, Bool.not_true, Bool.not_false, Bool.false_eq_true, decide_true, decide_false, if_true, if_false]) (hR.f q (by omega) (by omega)) (hR.setf (by omega) (by omega) _) (OutC.refl.upd (by omega))⟩
        · replace c44 := bI_0.mp c44
          refine x_ldc G d_N_lays_47 kc_N_102 ?_
          exact m_iret E G d_N_lays_49 hx rfl rfl ⟨_, rfl, RC.same hR (by simp only [fLays, c6, tf, c14, tq, eq_true c22, c44, Bool.and_true, Bool.true_and, Bool.and_false, Bool.false_and, Bool.or_true, Bool.true_or, Bool.or_false, Bool.false_or, Bool.not_true, Bool.not_false, Bool.false_eq_true, decide_true, decide_false, if_true, if_false])⟩
    · replace c14 := bI_0.mp c14
      refine x_ldc G d_N_lays_17 kc_N_102 ?_
      exact m_iret E G d_N_lays_19 hx rfl rfl ⟨_, rfl, RC.same hR (by simp only [fLays, c6, tf, c14, Bool.and_true, Bool.true_and, Bool.and_false, Bool.false_and, Bool.or_true, Bool.true_or, Bool.or_false, Bool.false_or, Bool.not_true, Bool.not_false, Bool.false_eq_true, decide_true, decide_false, if_true, if_false])⟩
theorem p_N_far (g : CX) (d : Nat) (hd : 2 ≤ d) (σ : Sg) (S : Rw) (hO : CO S σ) (a b : Int32) : RunM g d N_far [.ref 0, .int a, .int b] σ (PR (RC (fFar S a b) σ)) := by
  refine RunM.of 0 (by decide +kernel) rfl ?_
  intro κ hg hx hk0 G E
  subst hg
  have hk : 3 ≤ kn κ := Nat.le_of_eq hk0.symm
  show X κ NC 0 [some (.ref 0), some (.int a), some (.int b)] [] (hv σ)
  obtain ⟨hR, hL, hI, hJ, h9⟩ := hO
  have hn8 := hI.n
  refine x_iload1 G d_N_far_0 ?_
  refine x_bipush (v := nI 8) G d_N_far_1 rfl ?_
  refine m_callS_pi (p_N_isUpTo (kg κ) (d - 1) (Nat.zero_le _) _ _ _) G d_N_far_3 lk_N_98 (by omega) rfl (Nat.le_of_ble_eq_true rfl) hx ?_
  refine x_if_eq G d_N_far_6 (fun c6 => ?_) (fun c6 => ?_)
  · replace c6 := bI_0.mp c6
    refine x_ldc G d_N_far_18 kc_N_102 ?_
    exact m_iret E G d_N_far_20 hx rfl rfl ⟨_, rfl, RC.same hR (by simp only [fFar, c6, Bool.and_true, Bool.true_and, Bool.and_false, Bool.false_and, Bool.or_true, Bool.true_or, Bool.or_false, Bool.false_or, Bool.not_true, Bool.not_false, Bool.false_eq_true, decide_true, decide_false, if_true, if_false])⟩
  · replace c6 := bI_n0.mp c6
    obtain ⟨f, hf, tf, rfl⟩ := upB_ex (by decide) c6
    refine x_iload2 G d_N_far_9 ?_
    refine x_bipush (v := nI 8) G d_N_far_10 rfl ?_
    refine m_callS_pi (p_N_isUpTo (kg κ) (d - 1) (Nat.zero_le _) _ _ _) G d_N_far_12 lk_N_98 (by omega) rfl (Nat.le_of_ble_eq_true rfl) hx ?_
    refine x_if_ne G d_N_far_15 (fun c15 => ?_) (fun c15 => ?_)
    · replace c15 := bI_n0.mp c15
      obtain ⟨q, hq, tq, rfl⟩ := upB_ex (by decide) c15
      refine x_iload1 G d_N_far_21 ?_
      refine x_iload2 G d_N_far_22 ?_
      refine m_callS_pi (p_Wo_apart (kg κ) (d - 1) (by omega) σ f q (by omega) (by omega)) G d_N_far_23 lk_N_147 (by omega) rfl (Nat.le_of_ble_eq_true rfl) hx ?_
      exact m_iret E G d_N_far_26 hx rfl rfl ⟨_, rfl, RC.same hR (by simp only [fFar, c6, tf, c15, tq, Bool.and_true, Bool.true_and, Bool.and_false, Bool.false_and, Bool.or_true, Bool.true_or, Bool.or_false, Bool.false_or, Bool.not_true, Bool.not_false, Bool.false_eq_true, decide_true, decide_false, if_true, if_false])⟩
    · replace c15 := bI_0.mp c15
      refine x_ldc G d_N_far_18 kc_N_102 ?_
      exact m_iret E G d_N_far_20 hx rfl rfl ⟨_, rfl, RC.same hR (by simp only [fFar, c6, tf, c15, Bool.and_true, Bool.true_and, Bool.and_false, Bool.false_and, Bool.or_true, Bool.true_or, Bool.or_false, Bool.false_or, Bool.not_true, Bool.not_false, Bool.false_eq_true, decide_true, decide_false, if_true, if_false])⟩
theorem p_N_late (g : CX) (d : Nat) (hd : 1 ≤ d) (σ : Sg) (S : Rw) (hO : CO S σ) (v : Int32) : RunM g d N_late [.ref 0, .int v] σ (PR (RC (fLate S v) σ)) := by
  refine RunM.of 1 (by decide +kernel) rfl ?_
  intro κ hg hx hk0 G E
  subst hg
  have hk : 3 ≤ kn κ := Nat.le_of_eq hk0.symm
  show X κ NC 0 [some (.ref 0), some (.int v), none] [] (hv σ)
  obtain ⟨hR, hL, hI, hJ, h9⟩ := hO
  have hn8 := hI.n
  refine x_iload1 G d_N_late_0 ?_
  refine x_bipush (v := nI 100) G d_N_late_1 rfl ?_
  refine m_callS_pi (p_N_isUpTo (kg κ) (d - 1) (Nat.zero_le _) _ _ _) G d_N_late_3 lk_N_98 (by omega) rfl (Nat.le_of_ble_eq_true rfl) hx ?_
  refine x_if_ne G d_N_late_6 (fun c6 => ?_) (fun c6 => ?_)
  · replace c6 := bI_n0.mp c6
    refine x_aload0 G d_N_late_12 ?_
    refine m_getr G d_N_late_13 fl_N_43 rfl (by decide) rfl ?_
    refine m_geti G d_N_late_16 fl_N_150 rfl (by decide) rfl ?_
    refine x_istore2 G d_N_late_19 rfl hk ?_
    refine x_aload0 G d_N_late_20 ?_
    refine m_getr G d_N_late_21 fl_N_43 rfl (by decide) rfl ?_
    refine x_iload1 G d_N_late_24 ?_
    refine m_puti G d_N_late_25 fl_N_150 rfl (by decide) rfl rfl rfl ?_
    refine x_iload2 G d_N_late_28 ?_
    exact m_iret E G d_N_late_29 hx rfl rfl ⟨_, rfl, RC.mk' (S1 := upd S 5 v) (v1 := S 5) (by simp only [fLate, c6, Bool.and_true, Bool.true_and, Bool.and_false, Bool.false_and, Bool.or_true, Bool.true_or, Bool.or_false, Bool.false_or, Bool.not_true, Bool.not_false, Bool.false_eq_true, decide_true, decide_false, if_true, if_false]) hR.late (hR.sets (by unfold scal; omega) _) (OutC.refl.upd (by omega))⟩
  · replace c6 := bI_0.mp c6
    refine x_ldc G d_N_late_9 kc_N_102 ?_
    exact m_iret E G d_N_late_11 hx rfl rfl ⟨_, rfl, RC.same hR (by simp only [fLate, c6, Bool.and_true, Bool.true_and, Bool.and_false, Bool.false_and, Bool.or_true, Bool.true_or, Bool.or_false, Bool.false_or, Bool.not_true, Bool.not_false, Bool.false_eq_true, decide_true, decide_false, if_true, if_false])⟩
theorem p_N_seed (g : CX) (d : Nat) (hd : 0 ≤ d) (σ : Sg) (S : Rw) (hO : CO S σ) (v : Int32) : RunM g d N_seed [.ref 0, .int v] σ (PR (RC (fSeed S v) σ)) := by
  refine RunM.of 1 (by decide +kernel) rfl ?_
  intro κ hg hx hk0 G E
  subst hg
  have hk : 3 ≤ kn κ := Nat.le_of_eq hk0.symm
  show X κ NC 0 [some (.ref 0), some (.int v), none] [] (hv σ)
  obtain ⟨hR, hL, hI, hJ, h9⟩ := hO
  have hn8 := hI.n
  refine x_aload0 G d_N_seed_0 ?_
  refine m_getr G d_N_seed_1 fl_N_43 rfl (by decide) rfl ?_
  refine m_geti G d_N_seed_4 fl_N_165 rfl (by decide) rfl ?_
  refine x_istore2 G d_N_seed_7 rfl hk ?_
  refine x_aload0 G d_N_seed_8 ?_
  refine m_getr G d_N_seed_9 fl_N_43 rfl (by decide) rfl ?_
  refine x_iload1 G d_N_seed_12 ?_
  refine m_puti G d_N_seed_13 fl_N_165 rfl (by decide) rfl rfl rfl ?_
  refine x_iload2 G d_N_seed_16 ?_
  exact m_iret E G d_N_seed_17 hx rfl rfl ⟨_, rfl, RC.mk' (S1 := upd S 6 v) (v1 := S 6) (by simp only [fSeed, Bool.and_true, Bool.true_and, Bool.and_false, Bool.false_and, Bool.or_true, Bool.true_or, Bool.or_false, Bool.false_or, Bool.not_true, Bool.not_false, Bool.false_eq_true, decide_true, decide_false, if_true, if_false]) hR.z (hR.sets (by unfold scal; omega) _) (OutC.refl.upd (by omega))⟩
