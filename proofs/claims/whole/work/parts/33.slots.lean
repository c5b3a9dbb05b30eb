/-! SLOTS -/
theorem hv_K {σ : Sg} {k t : Nat} (hk : isL k) (e : σ k 2 = nI t) (ht : 0 < t ∧ t < 2 ^ 31) : hv σ k 2 = .ref t := by
  have h1 : rt k 2 = none ∧ isK k 2 = true := by rcases hk with rfl | rfl | rfl | rfl | rfl <;> exact ⟨rfl, rfl⟩
  simp only [hv, h1.1, h1.2, if_true, e]
  rw [if_neg (nI_ne0 ht.1 ht.2), nI_clamp ht.2]
theorem hv_updK {σ : Sg} {k t : Nat} (hk : isL k) (ht : 0 < t ∧ t < 2 ^ 31) : updh (hv σ) k 2 (.ref t) = hv (updS σ k 2 (nI t)) := by
  have h1 : rt k 2 = none ∧ isK k 2 = true := by rcases hk with rfl | rfl | rfl | rfl | rfl <;> exact ⟨rfl, rfl⟩
  funext a b
  by_cases hab : a = k ∧ b = 2
  · obtain ⟨rfl, rfl⟩ := hab
    rw [hv_K hk (updS_at) ht]
    simp [updh]
  · simp [updh, hab, hv, updS]
section XK
variable {κ : KX} {own : String} {b : ByteArray} {d : Nat} {pc q : Nat} {L : List (Option Value)} {st : List Value} {σ : Sg}
theorem m_getK {idx k t : Nat} (G : Gc κ own b d) (hd : dc b pc q (.getfield idx) 3) (fl : FL own idx 11 2) (hl : isL k) (e : σ k 2 = nI t) (ht : 0 < t ∧ t < 2 ^ 31) (kk : X κ NC q L (.ref t :: st) (hv σ)) : X κ NC pc L (.ref k :: st) (hv σ) :=
  x_get G hd fl (L_o hl) ⟨L_l hl, by decide⟩ (by rw [hv_K hl e ht]; exact kk)
theorem m_putK {idx k t : Nat} (G : Gc κ own b d) (hd : dc b pc q (.putfield idx) 3) (fl : FL own idx 11 2) (hl : isL k) (ht : 0 < t ∧ t < 135) (kk : ∀ σ', σ' = updS σ k 2 (nI t) → X κ NC q L st (hv σ')) : X κ NC pc L (.ref t :: .ref k :: st) (hv σ) := by
  refine x_put G hd fl (L_o hl) ⟨L_l hl, by decide⟩ rfl ?_ ?_ (by rw [hv_updK hl ⟨ht.1, by omega⟩]; exact kk _ rfl)
  · rfl
  · rfl
end XK
/-- the Slot at q: what it holds, the kind's number, the worth, how many places, the row -/
def SLC (q : Nat) (h hn hw hs : Int32) (row : Nat → Int32) (σ : Sg) : Prop := σ q 1 = h ∧ In h 3 ∧ (h = nI 1 → ∃ j, j < 6 ∧ hn = nI j ∧ σ q 2 = nI (2 + j) ∧ hw = worthB j (σ q 3)) ∧ (h = nI 2 → In hs 24 ∧ ∃ so, SHC (q + 1) so hs row σ) ∧ (h = nI 3 → σ q 4 = hn) ∧ ∃ so si v, SHC (q + 1) so si v σ
def SLO (tH tK tW tG tR : Nat → Int32) (σ : Sg) : Prop := ∀ k, k < 5 → SLC (93 + 4 * k) (tH k) (tK k) (tW k) (tG k) (shV tR k) σ
def fLay (S : Rw) (tS tH : Nat → Int32) (slot thing k : Int32) : Int32 × Bool :=
  if upB slot (nI 4) && upB thing (nI 3) then (if thing = nI 1 then (if isO (S 0) k then (tH (tn slot), true) else (-1000000001, false)) else if thing = nI 2 then (if upB k (nI 3) then (if tS (tn k) = -1 then (-1000000011, false) else (tH (tn slot), true)) else (-1000000001, false)) else (tH (tn slot), true)) else (-1000000001, false)
def fAsk (tH tK tW : Nat → Int32) (slot kind : Int32) : Int32 := if upB slot (nI 4) && upB kind (nI 5) then (if tH (tn slot) = 0 then -1000000011 else if tH (tn slot) = nI 1 then (if isOfB (tn (tK (tn slot))) kind then tW (tn slot) else -1000000012) else -1000000012) else -1000000001
def fItem (tH tG tR : Nat → Int32) (slot p : Int32) : Int32 := if upB slot (nI 4) then (if tH (tn slot) = 0 then -1000000011 else if tH (tn slot) = nI 2 then (if isO (tG (tn slot)) p then (if shV tR (tn slot) (tn p) = NONEi then -1000000012 else shV tR (tn slot) (tn p)) else -1000000013) else -1000000012) else -1000000001
def fRest (tH tK : Nat → Int32) (slot n : Int32) : Int32 := if upB slot (nI 4) then (if tH (tn slot) = 0 then -1000000011 else if tH (tn slot) = nI 3 then (if n = 0 then -1000000002 else irm (tK (tn slot)) n) else -1000000012) else -1000000001
def PLC (S : Rw) (tS tZ tN : Nat → Int32) (slot thing k : Int32) (e : Int32 × Bool) (σ : Sg) : Int32 → Sg → Prop := fun v σ1 => v = e.1 ∧ (e.2 = false → σ1 = σ) ∧ (e.2 = true → ∃ s, s < 5 ∧ slot = nI s ∧ In thing 3 ∧ σ1 (93 + 4 * s) 1 = thing ∧ (thing = nI 1 → ∃ p, p < 8 ∧ k = nI p ∧ σ1 (93 + 4 * s) 2 = nI (2 + tn (S (ixP p 0))) ∧ σ1 (93 + 4 * s) 3 = S (ixP p 2)) ∧ (thing = nI 2 → ∃ k', k' < 4 ∧ k = nI k' ∧ SHC (93 + 4 * s + 1) (tS k') (tZ k') (shV tN k') σ1) ∧ (thing = nI 3 → σ1 (93 + 4 * s) 4 = k) ∧ (thing ≠ nI 2 → ∀ c, c ≠ 93 + 4 * s → σ1 c = σ c) ∧ ∀ c, (c < 93 + 4 * s ∨ 93 + 4 * s + 4 ≤ c) → σ1 c = σ c)
theorem In3 {x : Int32} (h : In x 3) : x = nI 0 ∨ x = nI 1 ∨ x = nI 2 ∨ x = nI 3 := by
  rw [h.1]
  have h2 := h.2
  rcases (show tn x = 0 ∨ tn x = 1 ∨ tn x = 2 ∨ tn x = 3 by omega) with e | e | e | e <;> rw [e] <;> simp
theorem p_Sl_holdOne (g : CX) (d : Nat) (hd : 0 ≤ d) (σ : Sg) (q : Nat) (hl : isL q) (t : Nat) (ht0 : 0 < t) (ht9 : t < 10) (x : Int32) : RunM g d Sl_holdOne [.ref q, .ref t, .int x] σ (PV (fun σ1 => σ1 q 2 = nI t ∧ σ1 q 3 = x ∧ (∀ j, j ≠ 2 → j ≠ 3 → σ1 q j = σ q j) ∧ ∀ c, c ≠ q → σ1 c = σ c)) := by
  refine RunM.of 0 (by decide +kernel) rfl ?_
  intro κ hg hx hk0 G E
  subst hg
  have hk : 3 ≤ kn κ := Nat.le_of_eq hk0.symm
  show X κ NC 0 [some (.ref q), some (.ref t), some (.int x)] [] (hv σ)
  refine x_aload0 G d_Sl_holdOne_0 ?_
  refine x_aload1 G d_Sl_holdOne_1 ?_
  refine m_putK G d_Sl_holdOne_2 fl_Sl_20 hl ⟨by omega, by omega⟩ (fun σ1 e1 => ?_)
  refine x_aload0 G d_Sl_holdOne_5 ?_
  refine x_iload2 G d_Sl_holdOne_6 ?_
  refine m_puti_n G d_Sl_holdOne_7 fl_Sl_24 (L_o hl) (L_l hl) (L_i3 hl) rfl rfl (fun σ2 e2 => ?_)
  exact m_vret E G d_Sl_holdOne_10 hx rfl ⟨rfl, by rw [e2, updS_ne (by omega), e1, updS_at], by rw [e2, updS_at], (fun j a b => by rw [e2, updS_ne (by omega), e1, updS_ne (by omega)]), (fun c hc => by rw [e2, updS_nk hc, e1, updS_nk hc])⟩
theorem p_N_ask (g : CX) (d : Nat) (hd : 4 ≤ d) (σ : Sg) (tH tK tW tG tR : Nat → Int32) (hT : SLO tH tK tW tG tR σ) (sl kind : Int32) : RunM g d N_ask [.ref 0, .int sl, .int kind] σ (PI (fAsk tH tK tW sl kind) σ) := by
  refine RunM.of 1 (by decide +kernel) rfl ?_
  intro κ hg hx hk0 G E
  subst hg
  have hk : 4 ≤ kn κ := Nat.le_of_eq hk0.symm
  show X κ NC 0 [some (.ref 0), some (.int sl), some (.int kind), none] [] (hv σ)
  refine x_iload1 G d_N_ask_0 ?_
  refine x_iconst (v := nI 4) G d_N_ask_1 rfl ?_
  refine m_callS_pi (p_N_isUpTo (kg κ) (d - 1) (Nat.zero_le _) _ _ _) G d_N_ask_2 lk_N_98 (by omega) rfl (Nat.le_of_ble_eq_true rfl) hx ?_
  refine x_if_eq G d_N_ask_5 (fun c5 => ?_) (fun c5 => ?_)
  · replace c5 := bI_0.mp c5
    refine x_ldc G d_N_ask_16 kc_N_102 ?_
    exact m_iret E G d_N_ask_18 hx rfl rfl (pi_of (by simp only [fAsk, c5, Bool.and_true, Bool.true_and, Bool.and_false, Bool.false_and, Bool.or_true, Bool.true_or, Bool.or_false, Bool.false_or, Bool.not_true, Bool.not_false, Bool.false_eq_true, decide_true, decide_false, if_true, if_false]))
  · replace c5 := bI_n0.mp c5
    obtain ⟨s, hs4, ts, rfl⟩ := upB_ex (by decide) c5
    have hs5 : s < 5 := by omega
    obtain ⟨hh, hh3, hh1, hh2, hh33, hhr⟩ := hT s hs5
    refine x_iload2 G d_N_ask_8 ?_
    refine x_iconst (v := nI 5) G d_N_ask_9 rfl ?_
    refine m_callS_pi (p_N_isUpTo (kg κ) (d - 1) (Nat.zero_le _) _ _ _) G d_N_ask_10 lk_N_98 (by omega) rfl (Nat.le_of_ble_eq_true rfl) hx ?_
    refine x_if_ne G d_N_ask_13 (fun c13 => ?_) (fun c13 => ?_)
    · replace c13 := bI_n0.mp c13
      obtain ⟨j, hj, tj, rfl⟩ := upB_ex (by decide) c13
      refine x_aload0 G d_N_ask_19 ?_
      refine m_getr G d_N_ask_20 fl_N_68 rfl (by decide) rfl ?_
      refine x_iload1 G d_N_ask_23 ?_
      refine m_aald s G d_N_ask_24 rfl (by decide) rfl ⟨hs5, by first | decide | omega⟩ (L_of hs5).2 ?_
      refine x_astore3 G d_N_ask_25 rfl hk ?_
      refine x_aload3 G d_N_ask_26 ?_
      refine m_geti G d_N_ask_27 fl_N_304 (L_o (L_of hs5).1) (L_l (L_of hs5).1) (L_i1 (L_of hs5).1) ?_
      rw [show σ (93 + 4 * s) 1 = tH s from hh]
      refine x_if_ne G d_N_ask_30 (fun c30 => ?_) (fun c30 => ?_)
      · refine x_aload3 G d_N_ask_36 ?_
        refine m_geti G d_N_ask_37 fl_N_304 (L_o (L_of hs5).1) (L_l (L_of hs5).1) (L_i1 (L_of hs5).1) ?_
        rw [show σ (93 + 4 * s) 1 = tH s from hh]
        refine x_iconst (v := nI 1) G d_N_ask_40 rfl ?_
        refine x_icmp_ne G d_N_ask_41 (fun c41 => ?_) (fun c41 => ?_)
        · refine x_ldc G d_N_ask_62 kc_N_133 ?_
          exact m_iret E G d_N_ask_64 hx rfl rfl (pi_of (by simp only [fAsk, c5, ts, c13, tj, c30, c41, Bool.and_true, Bool.true_and, Bool.and_false, Bool.false_and, Bool.or_true, Bool.true_or, Bool.or_false, Bool.false_or, Bool.not_true, Bool.not_false, Bool.false_eq_true, decide_true, decide_false, if_true, if_false]))
        · obtain ⟨i, hi6, e1, e2, e3⟩ := hh1 c41
          have ti : tn (nI i) = i := tn_nI (by omega)
          refine x_aload3 G d_N_ask_44 ?_
          refine m_getK G d_N_ask_45 fl_N_321 (L_of hs5).1 e2 ⟨by omega, by omega⟩ ?_
          refine x_ifnull G d_N_ask_48 ?_
          refine x_aload3 G d_N_ask_51 ?_
          refine m_getK G d_N_ask_52 fl_N_321 (L_of hs5).1 e2 ⟨by omega, by omega⟩ ?_
          refine x_iload2 G d_N_ask_55 ?_
          refine m_callU_pi (r_isOf (kg κ) (d - 1) (by omega) σ (show i < 6 by omega) _) G d_N_ask_56 (lU_N_130 (show i < 6 by omega)) (K_o (show i < 6 by omega)) ⟨by omega, rfl⟩ (by omega) (by omega) rfl (Nat.le_of_ble_eq_true rfl) hx ?_
          refine x_if_ne G d_N_ask_59 (fun c59 => ?_) (fun c59 => ?_)
          · replace c59 := bI_n0.mp c59
            refine x_aload3 G d_N_ask_65 ?_
            refine m_getK G d_N_ask_66 fl_N_321 (L_of hs5).1 e2 ⟨by omega, by omega⟩ ?_
            refine x_aload3 G d_N_ask_69 ?_
            refine m_geti G d_N_ask_70 fl_N_325 (L_o (L_of hs5).1) (L_l (L_of hs5).1) (L_i3 (L_of hs5).1) ?_
            refine m_callU_pi (r_worthFor (kg κ) (d - 1) (by omega) σ (show i < 6 by omega) _) G d_N_ask_73 (lU_N_328 (show i < 6 by omega)) (K_o (show i < 6 by omega)) ⟨by omega, rfl⟩ (by omega) (by omega) rfl (Nat.le_of_ble_eq_true rfl) hx ?_
            exact m_iret E G d_N_ask_76 hx rfl rfl (pi_of (by simp only [fAsk, c5, ts, c13, tj, c30, eq_true c41, e1, e3, ti, c59, Bool.and_true, Bool.true_and, Bool.and_false, Bool.false_and, Bool.or_true, Bool.true_or, Bool.or_false, Bool.false_or, Bool.not_true, Bool.not_false, Bool.false_eq_true, decide_true, decide_false, if_true, if_false]))
          · replace c59 := bI_0.mp c59
            refine x_ldc G d_N_ask_62 kc_N_133 ?_
            exact m_iret E G d_N_ask_64 hx rfl rfl (pi_of (by simp only [fAsk, c5, ts, c13, tj, c30, eq_true c41, e1, e3, ti, c59, Bool.and_true, Bool.true_and, Bool.and_false, Bool.false_and, Bool.or_true, Bool.true_or, Bool.or_false, Bool.false_or, Bool.not_true, Bool.not_false, Bool.false_eq_true, decide_true, decide_false, if_true, if_false]))
      · refine x_ldc G d_N_ask_33 kc_N_229 ?_
        exact m_iret E G d_N_ask_35 hx rfl rfl (pi_of (by simp only [fAsk, c5, ts, c13, tj, eq_true c30, Bool.and_true, Bool.true_and, Bool.and_false, Bool.false_and, Bool.or_true, Bool.true_or, Bool.or_false, Bool.false_or, Bool.not_true, Bool.not_false, Bool.false_eq_true, decide_true, decide_false, if_true, if_false]))
    · replace c13 := bI_0.mp c13
      refine x_ldc G d_N_ask_16 kc_N_102 ?_
      exact m_iret E G d_N_ask_18 hx rfl rfl (pi_of (by simp only [fAsk, c5, ts, c13, Bool.and_true, Bool.true_and, Bool.and_false, Bool.false_and, Bool.or_true, Bool.true_or, Bool.or_false, Bool.false_or, Bool.not_true, Bool.not_false, Bool.false_eq_true, decide_true, decide_false, if_true, if_false]))
theorem p_N_item (g : CX) (d : Nat) (hd : 2 ≤ d) (σ : Sg) (tH tK tW tG tR : Nat → Int32) (hT : SLO tH tK tW tG tR σ) (sl pl : Int32) : RunM g d N_item [.ref 0, .int sl, .int pl] σ (PI (fItem tH tG tR sl pl) σ) := by
  refine RunM.of 1 (by decide +kernel) rfl ?_
  intro κ hg hx hk0 G E
  subst hg
  have hk : 4 ≤ kn κ := Nat.le_of_eq hk0.symm
  show X κ NC 0 [some (.ref 0), some (.int sl), some (.int pl), none] [] (hv σ)
  refine x_iload1 G d_N_item_0 ?_
  refine x_iconst (v := nI 4) G d_N_item_1 rfl ?_
  refine m_callS_pi (p_N_isUpTo (kg κ) (d - 1) (Nat.zero_le _) _ _ _) G d_N_item_2 lk_N_98 (by omega) rfl (Nat.le_of_ble_eq_true rfl) hx ?_
  refine x_if_ne G d_N_item_5 (fun c5 => ?_) (fun c5 => ?_)
  · replace c5 := bI_n0.mp c5
    obtain ⟨s, hs4, ts, rfl⟩ := upB_ex (by decide) c5
    have hs5 : s < 5 := by omega
    obtain ⟨hh, hh3, hh1, hh2, hh33, hhr⟩ := hT s hs5
    refine x_aload0 G d_N_item_11 ?_
    refine m_getr G d_N_item_12 fl_N_68 rfl (by decide) rfl ?_
    refine x_iload1 G d_N_item_15 ?_
    refine m_aald s G d_N_item_16 rfl (by decide) rfl ⟨hs5, by first | decide | omega⟩ (L_of hs5).2 ?_
    refine x_astore3 G d_N_item_17 rfl hk ?_
    refine x_aload3 G d_N_item_18 ?_
    refine m_geti G d_N_item_19 fl_N_304 (L_o (L_of hs5).1) (L_l (L_of hs5).1) (L_i1 (L_of hs5).1) ?_
    rw [show σ (93 + 4 * s) 1 = tH s from hh]
    refine x_if_ne G d_N_item_22 (fun c22 => ?_) (fun c22 => ?_)
    · refine x_aload3 G d_N_item_28 ?_
      refine m_geti G d_N_item_29 fl_N_304 (L_o (L_of hs5).1) (L_l (L_of hs5).1) (L_i1 (L_of hs5).1) ?_
      rw [show σ (93 + 4 * s) 1 = tH s from hh]
      refine x_iconst (v := nI 2) G d_N_item_32 rfl ?_
      refine x_icmp_eq G d_N_item_33 (fun c33 => ?_) (fun c33 => ?_)
      · obtain ⟨hg, so, hH⟩ := hh2 c33
        obtain ⟨m, hm, hm24⟩ := hg.ex
        refine x_aload3 G d_N_item_39 ?_
        refine m_getr G d_N_item_40 fl_N_311 (L_o (L_of hs5).1) (L_l (L_of hs5).1) (L_r0 (L_of hs5).1).1 ?_
        refine x_iload2 G d_N_item_43 ?_
        refine m_callV_pi (p_Sh_hasPlace (kg κ) (d - 1) (Nat.zero_le _) σ (93 + 4 * s + 1) (L_r0 (L_of hs5).1).2 _) G d_N_item_44 lk_N_273 (S_o (L_r0 (L_of hs5).1).2) ⟨by decide, rfl⟩ (S_l (L_r0 (L_of hs5).1).2) (by omega) rfl (Nat.le_of_ble_eq_true rfl) hx ?_
        rw [show σ (93 + 4 * s + 1) 3 = tG s from hH.2.1]
        refine x_if_ne G d_N_item_47 (fun c47 => ?_) (fun c47 => ?_)
        · replace c47 := bI_n0.mp c47
          obtain ⟨p, hp, tp, rfl⟩ := isO_ex (by omega) (show isO (nI m) pl = true by rw [← hm]; exact c47)
          refine x_aload3 G d_N_item_54 ?_
          refine m_getr G d_N_item_55 fl_N_311 (L_o (L_of hs5).1) (L_l (L_of hs5).1) (L_r0 (L_of hs5).1).1 ?_
          refine x_iload2 G d_N_item_58 ?_
          refine m_callV_pi (p_Sh_isNumber (kg κ) (d - 1) (by omega) σ (93 + 4 * s + 1) (L_r0 (L_of hs5).1).2 so m hm24 (shV tR s) (by rw [← hm]; exact hH) _) G d_N_item_59 lk_N_285 (S_o (L_r0 (L_of hs5).1).2) ⟨by decide, rfl⟩ (S_l (L_r0 (L_of hs5).1).2) (by omega) rfl (Nat.le_of_ble_eq_true rfl) hx ?_
          refine x_if_eq G d_N_item_62 (fun c62 => ?_) (fun c62 => ?_)
          · replace c62 := bI_0.mp c62
            have g62 : shV tR s p = NONEi := by
              unfold numB at c62
              rw [← hm, c47, tp, Bool.true_and, Bool.not_eq_false', decide_eq_true_eq] at c62
              exact c62
            refine x_ldc G d_N_item_77 kc_N_133 ?_
            exact m_iret E G d_N_item_79 hx rfl rfl (pi_of (by simp only [fItem, c5, ts, c22, eq_true c33, c47, tp, eq_true g62, Bool.and_true, Bool.true_and, Bool.and_false, Bool.false_and, Bool.or_true, Bool.true_or, Bool.or_false, Bool.false_or, Bool.not_true, Bool.not_false, Bool.false_eq_true, decide_true, decide_false, if_true, if_false]))
          · replace c62 := bI_n0.mp c62
            have g62 : ¬ shV tR s p = NONEi := by
              unfold numB at c62
              rw [← hm, c47, tp, Bool.true_and, Bool.not_eq_true', decide_eq_false_iff_not] at c62
              exact c62
            refine x_aload3 G d_N_item_65 ?_
            refine m_getr G d_N_item_66 fl_N_311 (L_o (L_of hs5).1) (L_l (L_of hs5).1) (L_r0 (L_of hs5).1).1 ?_
            refine m_getr G d_N_item_69 fl_N_288 (S_o (L_r0 (L_of hs5).1).2) (S_l (L_r0 (L_of hs5).1).2) (S_r0 (L_r0 (L_of hs5).1).2) ?_
            refine x_iload2 G d_N_item_72 ?_
            refine m_iald p G d_N_item_73 (S_s1 (L_r0 (L_of hs5).1).2) rfl ⟨by omega, by first | decide | omega⟩ ?_
            rw [hH.v (show p < 24 by omega) g62]
            refine x_goto G d_N_item_74 ?_
            exact m_iret E G d_N_item_79 hx rfl rfl (pi_of (by simp only [fItem, c5, ts, c22, eq_true c33, c47, tp, g62, Bool.and_true, Bool.true_and, Bool.and_false, Bool.false_and, Bool.or_true, Bool.true_or, Bool.or_false, Bool.false_or, Bool.not_true, Bool.not_false, Bool.false_eq_true, decide_true, decide_false, if_true, if_false]))
        · replace c47 := bI_0.mp c47
          refine x_ldcw G d_N_item_50 kc_N_276 ?_
          exact m_iret E G d_N_item_53 hx rfl rfl (pi_of (by simp only [fItem, c5, ts, c22, eq_true c33, c47, Bool.and_true, Bool.true_and, Bool.and_false, Bool.false_and, Bool.or_true, Bool.true_or, Bool.or_false, Bool.false_or, Bool.not_true, Bool.not_false, Bool.false_eq_true, decide_true, decide_false, if_true, if_false]))
      · refine x_ldc G d_N_item_36 kc_N_133 ?_
        exact m_iret E G d_N_item_38 hx rfl rfl (pi_of (by simp only [fItem, c5, ts, c22, c33, Bool.and_true, Bool.true_and, Bool.and_false, Bool.false_and, Bool.or_true, Bool.true_or, Bool.or_false, Bool.false_or, Bool.not_true, Bool.not_false, Bool.false_eq_true, decide_true, decide_false, if_true, if_false]))
    · refine x_ldc G d_N_item_25 kc_N_229 ?_
      exact m_iret E G d_N_item_27 hx rfl rfl (pi_of (by simp only [fItem, c5, ts, eq_true c22, Bool.and_true, Bool.true_and, Bool.and_false, Bool.false_and, Bool.or_true, Bool.true_or, Bool.or_false, Bool.false_or, Bool.not_true, Bool.not_false, Bool.false_eq_true, decide_true, decide_false, if_true, if_false]))
  · replace c5 := bI_0.mp c5
    refine x_ldc G d_N_item_8 kc_N_102 ?_
    exact m_iret E G d_N_item_10 hx rfl rfl (pi_of (by simp only [fItem, c5, Bool.and_true, Bool.true_and, Bool.and_false, Bool.false_and, Bool.or_true, Bool.true_or, Bool.or_false, Bool.false_or, Bool.not_true, Bool.not_false, Bool.false_eq_true, decide_true, decide_false, if_true, if_false]))
theorem p_N_rest (g : CX) (d : Nat) (hd : 1 ≤ d) (σ : Sg) (tH tK tW tG tR : Nat → Int32) (hT : SLO tH tK tW tG tR σ) (sl n : Int32) : RunM g d N_rest [.ref 0, .int sl, .int n] σ (PI (fRest tH tK sl n) σ) := by
  refine RunM.of 1 (by decide +kernel) rfl ?_
  intro κ hg hx hk0 G E
  subst hg
  have hk : 4 ≤ kn κ := Nat.le_of_eq hk0.symm
  show X κ NC 0 [some (.ref 0), some (.int sl), some (.int n), none] [] (hv σ)
  refine x_iload1 G d_N_rest_0 ?_
  refine x_iconst (v := nI 4) G d_N_rest_1 rfl ?_
  refine m_callS_pi (p_N_isUpTo (kg κ) (d - 1) (Nat.zero_le _) _ _ _) G d_N_rest_2 lk_N_98 (by omega) rfl (Nat.le_of_ble_eq_true rfl) hx ?_
  refine x_if_ne G d_N_rest_5 (fun c5 => ?_) (fun c5 => ?_)
  · replace c5 := bI_n0.mp c5
    obtain ⟨s, hs4, ts, rfl⟩ := upB_ex (by decide) c5
    have hs5 : s < 5 := by omega
    obtain ⟨hh, hh3, hh1, hh2, hh33, hhr⟩ := hT s hs5
    refine x_aload0 G d_N_rest_11 ?_
    refine m_getr G d_N_rest_12 fl_N_68 rfl (by decide) rfl ?_
    refine x_iload1 G d_N_rest_15 ?_
    refine m_aald s G d_N_rest_16 rfl (by decide) rfl ⟨hs5, by first | decide | omega⟩ (L_of hs5).2 ?_
    refine x_astore3 G d_N_rest_17 rfl hk ?_
    refine x_aload3 G d_N_rest_18 ?_
    refine m_geti G d_N_rest_19 fl_N_304 (L_o (L_of hs5).1) (L_l (L_of hs5).1) (L_i1 (L_of hs5).1) ?_
    rw [show σ (93 + 4 * s) 1 = tH s from hh]
    refine x_if_ne G d_N_rest_22 (fun c22 => ?_) (fun c22 => ?_)
    · refine x_aload3 G d_N_rest_28 ?_
      refine m_geti G d_N_rest_29 fl_N_304 (L_o (L_of hs5).1) (L_l (L_of hs5).1) (L_i1 (L_of hs5).1) ?_
      rw [show σ (93 + 4 * s) 1 = tH s from hh]
      refine x_iconst (v := nI 3) G d_N_rest_32 rfl ?_
      refine x_icmp_eq G d_N_rest_33 (fun c33 => ?_) (fun c33 => ?_)
      · have hnum := hh33 c33
        refine x_iload2 G d_N_rest_39 ?_
        refine x_if_ne G d_N_rest_40 (fun c40 => ?_) (fun c40 => ?_)
        · refine x_aload3 G d_N_rest_49 ?_
          refine m_geti G d_N_rest_50 fl_N_318 (L_o (L_of hs5).1) (L_l (L_of hs5).1) (L_i4 (L_of hs5).1) ?_
          rw [hnum]
          refine x_iload2 G d_N_rest_53 ?_
          refine x_irem G d_N_rest_54 c40 ?_
          rw [show tK s - tK s / n * n = irm (tK s) n from rfl]
          exact m_iret E G d_N_rest_55 hx rfl rfl (pi_of (by simp only [fRest, c5, ts, c22, eq_true c33, c40, Bool.and_true, Bool.true_and, Bool.and_false, Bool.false_and, Bool.or_true, Bool.true_or, Bool.or_false, Bool.false_or, Bool.not_true, Bool.not_false, Bool.false_eq_true, decide_true, decide_false, if_true, if_false]))
        · refine x_ldcw G d_N_rest_43 kc_N_331 ?_
          refine x_goto G d_N_rest_46 ?_
          exact m_iret E G d_N_rest_55 hx rfl rfl (pi_of (by simp only [fRest, c5, ts, c22, eq_true c33, eq_true c40, Bool.and_true, Bool.true_and, Bool.and_false, Bool.false_and, Bool.or_true, Bool.true_or, Bool.or_false, Bool.false_or, Bool.not_true, Bool.not_false, Bool.false_eq_true, decide_true, decide_false, if_true, if_false]))
      · refine x_ldc G d_N_rest_36 kc_N_133 ?_
        exact m_iret E G d_N_rest_38 hx rfl rfl (pi_of (by simp only [fRest, c5, ts, c22, c33, Bool.and_true, Bool.true_and, Bool.and_false, Bool.false_and, Bool.or_true, Bool.true_or, Bool.or_false, Bool.false_or, Bool.not_true, Bool.not_false, Bool.false_eq_true, decide_true, decide_false, if_true, if_false]))
    · refine x_ldc G d_N_rest_25 kc_N_229 ?_
      exact m_iret E G d_N_rest_27 hx rfl rfl (pi_of (by simp only [fRest, c5, ts, eq_true c22, Bool.and_true, Bool.true_and, Bool.and_false, Bool.false_and, Bool.or_true, Bool.true_or, Bool.or_false, Bool.false_or, Bool.not_true, Bool.not_false, Bool.false_eq_true, decide_true, decide_false, if_true, if_false]))
  · replace c5 := bI_0.mp c5
    refine x_ldc G d_N_rest_8 kc_N_102 ?_
    exact m_iret E G d_N_rest_10 hx rfl rfl (pi_of (by simp only [fRest, c5, Bool.and_true, Bool.true_and, Bool.and_false, Bool.false_and, Bool.or_true, Bool.true_or, Bool.or_false, Bool.false_or, Bool.not_true, Bool.not_false, Bool.false_eq_true, decide_true, decide_false, if_true, if_false]))
theorem PLC.no {S : Rw} {tS tZ tN : Nat → Int32} {slot thing k : Int32} {e : Int32 × Bool} {σ : Sg} {v : Int32} (h : e = (v, false)) : PLC S tS tZ tN slot thing k e σ v σ := by
  rw [h]; exact ⟨rfl, fun _ => rfl, fun z => by simp at z⟩
theorem PLC.yes {S : Rw} {tS tZ tN : Nat → Int32} {slot thing k : Int32} {e : Int32 × Bool} {σ σ1 : Sg} {v : Int32} (h : e = (v, true)) (g : ∃ s, s < 5 ∧ slot = nI s ∧ In thing 3 ∧ σ1 (93 + 4 * s) 1 = thing ∧ (thing = nI 1 → ∃ p, p < 8 ∧ k = nI p ∧ σ1 (93 + 4 * s) 2 = nI (2 + tn (S (ixP p 0))) ∧ σ1 (93 + 4 * s) 3 = S (ixP p 2)) ∧ (thing = nI 2 → ∃ k', k' < 4 ∧ k = nI k' ∧ SHC (93 + 4 * s + 1) (tS k') (tZ k') (shV tN k') σ1) ∧ (thing = nI 3 → σ1 (93 + 4 * s) 4 = k) ∧ (thing ≠ nI 2 → ∀ c, c ≠ 93 + 4 * s → σ1 c = σ c) ∧ ∀ c, (c < 93 + 4 * s ∨ 93 + 4 * s + 4 ≤ c) → σ1 c = σ c) : PLC S tS tZ tN slot thing k e σ v σ1 := by
  rw [h]; exact ⟨rfl, fun z => by simp at z, fun _ => g⟩
theorem p_N_lay (g : CX) (d : Nat) (hd : 4 ≤ d) (σ : Sg) (S : Rw) (hO : CO S σ) (tS tZ tN : Nat → Int32) (hTS : SO tS tZ tN σ) (tH tK tW tG tR : Nat → Int32) (hT : SLO tH tK tW tG tR σ) (sl th x : Int32) : RunM g d N_lay [.ref 0, .int sl, .int th, .int x] σ (PR (PLC S tS tZ tN sl th x (fLay S tS tH sl th x) σ)) := by
  refine RunM.of 1 (by decide +kernel) rfl ?_
  intro κ hg hx hk0 G E
  subst hg
  have hk : 5 ≤ kn κ := Nat.le_of_eq hk0.symm
  show X κ NC 0 [some (.ref 0), some (.int sl), some (.int th), some (.int x), none] [] (hv σ)
  obtain ⟨hR, hL, hI, hJ, h9⟩ := hO
  have hn8 := hI.n
  refine x_iload1 G d_N_lay_0 ?_
  refine x_iconst (v := nI 4) G d_N_lay_1 rfl ?_
  refine m_callS_pi (p_N_isUpTo (kg κ) (d - 1) (Nat.zero_le _) _ _ _) G d_N_lay_2 lk_N_98 (by omega) rfl (Nat.le_of_ble_eq_true rfl) hx ?_
  refine x_if_eq G d_N_lay_5 (fun c5 => ?_) (fun c5 => ?_)
  · replace c5 := bI_0.mp c5
    refine x_ldc G d_N_lay_16 kc_N_102 ?_
    exact m_iret E G d_N_lay_18 hx rfl rfl ⟨_, rfl, PLC.no (by simp only [fLay, c5, Bool.and_true, Bool.true_and, Bool.and_false, Bool.false_and, Bool.or_true, Bool.true_or, Bool.or_false, Bool.false_or, Bool.not_true, Bool.not_false, Bool.false_eq_true, decide_true, decide_false, if_true, if_false])⟩
  · replace c5 := bI_n0.mp c5
    obtain ⟨s, hs4, ts, rfl⟩ := upB_ex (by decide) c5
    have hs5 : s < 5 := by omega
    obtain ⟨hh, hh3, hh1, hh2, hh33, hhr⟩ := hT s hs5
    refine x_iload2 G d_N_lay_8 ?_
    refine x_iconst (v := nI 3) G d_N_lay_9 rfl ?_
    refine m_callS_pi (p_N_isUpTo (kg κ) (d - 1) (Nat.zero_le _) _ _ _) G d_N_lay_10 lk_N_98 (by omega) rfl (Nat.le_of_ble_eq_true rfl) hx ?_
    refine x_if_ne G d_N_lay_13 (fun c13 => ?_) (fun c13 => ?_)
    · replace c13 := bI_n0.mp c13
      have hth3 : In th 3 := upB_In (by decide) |>.mp c13
      refine x_iload2 G d_N_lay_19 ?_
      refine x_iconst (v := nI 1) G d_N_lay_20 rfl ?_
      refine x_icmp_ne G d_N_lay_21 (fun c21 => ?_) (fun c21 => ?_)
      · refine x_iload2 G d_N_lay_38 ?_
        refine x_iconst (v := nI 2) G d_N_lay_39 rfl ?_
        refine x_icmp_ne G d_N_lay_40 (fun c40 => ?_) (fun c40 => ?_)
        · refine x_iload2 G d_N_lay_54 ?_
          refine x_iconst (v := nI 2) G d_N_lay_55 rfl ?_
          refine x_icmp_ne G d_N_lay_56 (fun c56 => ?_) (fun c56 => ?_)
          · refine x_aload0 G d_N_lay_74 ?_
            refine m_getr G d_N_lay_75 fl_N_68 rfl (by decide) rfl ?_
            refine x_iload1 G d_N_lay_78 ?_
            refine m_aald s G d_N_lay_79 rfl (by decide) rfl ⟨hs5, by first | decide | omega⟩ (L_of hs5).2 ?_
            refine m_geti G d_N_lay_80 fl_N_304 (L_o (L_of hs5).1) (L_l (L_of hs5).1) (L_i1 (L_of hs5).1) ?_
            rw [show σ (93 + 4 * s) 1 = tH s from hh]
            refine x_istore4 G d_N_lay_83 rfl hk ?_
            refine x_aload0 G d_N_lay_85 ?_
            refine m_getr G d_N_lay_86 fl_N_68 rfl (by decide) rfl ?_
            refine x_iload1 G d_N_lay_89 ?_
            refine m_aald s G d_N_lay_90 rfl (by decide) rfl ⟨hs5, by first | decide | omega⟩ (L_of hs5).2 ?_
            refine x_iload2 G d_N_lay_91 ?_
            refine m_puti_n G d_N_lay_92 fl_N_304 (L_o (L_of hs5).1) (L_l (L_of hs5).1) (L_i1 (L_of hs5).1) rfl rfl (fun σ5 e5 => ?_)
            have hR5 : WRel 28 S σ5 := hR.frame (fun c a b _ => by rw [e5, updS_nk (by omega)])
            refine x_iload2 G d_N_lay_95 ?_
            refine x_iconst (v := nI 1) G d_N_lay_96 rfl ?_
            refine x_icmp_ne G d_N_lay_97 (fun c97 => ?_) (fun c97 => ?_)
            · refine x_iload2 G d_N_lay_131 ?_
              refine x_iconst (v := nI 2) G d_N_lay_132 rfl ?_
              refine x_icmp_ne G d_N_lay_133 (fun c133 => ?_) (fun c133 => ?_)
              · refine x_iload2 G d_N_lay_157 ?_
                refine x_iconst (v := nI 3) G d_N_lay_158 rfl ?_
                refine x_icmp_ne G d_N_lay_159 (fun c159 => ?_) (fun c159 => ?_)
                · refine x_iload4 G d_N_lay_172 ?_
                  exact m_iret E G d_N_lay_174 hx rfl rfl ⟨_, rfl, PLC.yes (by simp only [fLay, c5, ts, c13, c21, c40, c159, Bool.and_true, Bool.true_and, Bool.and_false, Bool.false_and, Bool.or_true, Bool.true_or, Bool.or_false, Bool.false_or, Bool.not_true, Bool.not_false, Bool.false_eq_true, decide_true, decide_false, if_true, if_false]) ⟨s, hs5, rfl, hth3, (by rw [e5, updS_at]), (fun z => absurd z c21), (fun z => absurd z c40), (fun z => absurd z c159), (fun _ c hc => by rw [e5, updS_nk hc]), (fun c hc => by rw [e5, updS_nk (by omega)])⟩⟩
                · refine x_aload0 G d_N_lay_162 ?_
                  refine m_getr G d_N_lay_163 fl_N_68 rfl (by decide) rfl ?_
                  refine x_iload1 G d_N_lay_166 ?_
                  refine m_aald s G d_N_lay_167 rfl (by decide) rfl ⟨hs5, by first | decide | omega⟩ (L_of hs5).2 ?_
                  refine x_iload3 G d_N_lay_168 ?_
                  refine m_puti_n G d_N_lay_169 fl_N_318 (L_o (L_of hs5).1) (L_l (L_of hs5).1) (L_i4 (L_of hs5).1) rfl rfl (fun σ6 e6 => ?_)
                  refine x_iload4 G d_N_lay_172 ?_
                  exact m_iret E G d_N_lay_174 hx rfl rfl ⟨_, rfl, PLC.yes (by simp only [fLay, c5, ts, c13, c21, c40, eq_true c159, Bool.and_true, Bool.true_and, Bool.and_false, Bool.false_and, Bool.or_true, Bool.true_or, Bool.or_false, Bool.false_or, Bool.not_true, Bool.not_false, Bool.false_eq_true, decide_true, decide_false, if_true, if_false]) ⟨s, hs5, rfl, hth3, (by rw [e6, updS_ne (by omega), e5, updS_at]), (fun z => absurd (c159.symm.trans z) (by decide)), (fun z => absurd (c159.symm.trans z) (by decide)), (fun _ => by rw [e6, updS_at]), (fun _ c hc => by rw [e6, updS_nk hc, e5, updS_nk hc]), (fun c hc => by rw [e6, updS_nk (by omega), e5, updS_nk (by omega)])⟩⟩
              · exact absurd c133 c40
            · exact absurd c97 c21
          · exact absurd c56 c40
        · refine x_iload3 G d_N_lay_43 ?_
          refine x_iconst (v := nI 3) G d_N_lay_44 rfl ?_
          refine m_callS_pi (p_N_isUpTo (kg κ) (d - 1) (Nat.zero_le _) _ _ _) G d_N_lay_45 lk_N_98 (by omega) rfl (Nat.le_of_ble_eq_true rfl) hx ?_
          refine x_if_ne G d_N_lay_48 (fun c48 => ?_) (fun c48 => ?_)
          · replace c48 := bI_n0.mp c48
            obtain ⟨k, hk3, tk, rfl⟩ := upB_ex (by decide) c48
            have hk4 : k < 4 := by omega
            obtain ⟨hH, hso, hsi⟩ := hTS k hk4
            refine x_iload2 G d_N_lay_54 ?_
            refine x_iconst (v := nI 2) G d_N_lay_55 rfl ?_
            refine x_icmp_ne G d_N_lay_56 (fun c56 => ?_) (fun c56 => ?_)
            · exact absurd c40 c56
            · refine x_aload0 G d_N_lay_59 ?_
              refine m_getr G d_N_lay_60 fl_N_62 rfl (by decide) rfl ?_
              refine x_iload3 G d_N_lay_63 ?_
              refine m_aald k G d_N_lay_64 rfl (by decide) rfl ⟨by omega, by first | decide | omega⟩ (S_of hk4).2 ?_
              refine m_callV_pi (p_Sh_isMissing (kg κ) (d - 1) (Nat.zero_le _) σ (81 + 3 * k) (S_of hk4).1) G d_N_lay_65 lk_N_225 (S_o (S_of hk4).1) ⟨by decide, rfl⟩ (S_l (S_of hk4).1) (by omega) rfl (Nat.le_of_ble_eq_true rfl) hx ?_
              rw [show σ (81 + 3 * k) 2 = tS k from hH.1]
              refine x_if_eq G d_N_lay_68 (fun c68 => ?_) (fun c68 => ?_)
              · replace c68 := bI_0.mp c68
                replace c68 : ¬ tS k = -1 := of_decide_eq_false c68
                refine x_aload0 G d_N_lay_74 ?_
                refine m_getr G d_N_lay_75 fl_N_68 rfl (by decide) rfl ?_
                refine x_iload1 G d_N_lay_78 ?_
                refine m_aald s G d_N_lay_79 rfl (by decide) rfl ⟨hs5, by first | decide | omega⟩ (L_of hs5).2 ?_
                refine m_geti G d_N_lay_80 fl_N_304 (L_o (L_of hs5).1) (L_l (L_of hs5).1) (L_i1 (L_of hs5).1) ?_
                rw [show σ (93 + 4 * s) 1 = tH s from hh]
                refine x_istore4 G d_N_lay_83 rfl hk ?_
                refine x_aload0 G d_N_lay_85 ?_
                refine m_getr G d_N_lay_86 fl_N_68 rfl (by decide) rfl ?_
                refine x_iload1 G d_N_lay_89 ?_
                refine m_aald s G d_N_lay_90 rfl (by decide) rfl ⟨hs5, by first | decide | omega⟩ (L_of hs5).2 ?_
                refine x_iload2 G d_N_lay_91 ?_
                refine m_puti_n G d_N_lay_92 fl_N_304 (L_o (L_of hs5).1) (L_l (L_of hs5).1) (L_i1 (L_of hs5).1) rfl rfl (fun σ5 e5 => ?_)
                have hR5 : WRel 28 S σ5 := hR.frame (fun c a b _ => by rw [e5, updS_nk (by omega)])
                refine x_iload2 G d_N_lay_95 ?_
                refine x_iconst (v := nI 1) G d_N_lay_96 rfl ?_
                refine x_icmp_ne G d_N_lay_97 (fun c97 => ?_) (fun c97 => ?_)
                · refine x_iload2 G d_N_lay_131 ?_
                  refine x_iconst (v := nI 2) G d_N_lay_132 rfl ?_
                  refine x_icmp_ne G d_N_lay_133 (fun c133 => ?_) (fun c133 => ?_)
                  · exact absurd c40 c133
                  · refine x_aload0 G d_N_lay_136 ?_
                    refine m_getr G d_N_lay_137 fl_N_68 rfl (by decide) rfl ?_
                    refine x_iload1 G d_N_lay_140 ?_
                    refine m_aald s G d_N_lay_141 rfl (by decide) rfl ⟨hs5, by first | decide | omega⟩ (L_of hs5).2 ?_
                    refine m_getr G d_N_lay_142 fl_N_311 (L_o (L_of hs5).1) (L_l (L_of hs5).1) (L_r0 (L_of hs5).1).1 ?_
                    obtain ⟨so9, si9, v9, hr9⟩ := hhr
                    have hr5 : SHC (93 + 4 * s + 1) so9 si9 v9 σ5 := hr9.frame (by rw [e5, updS_nk (by omega)]) (by rw [e5, updS_nk (by omega)]) (by rw [e5, updS_nk (by omega)])
                    have hH5 : SHC (81 + 3 * k) (tS k) (tZ k) (shV tN k) σ5 := hH.frame (by rw [e5, updS_nk (by omega)]) (by rw [e5, updS_nk (by omega)]) (by rw [e5, updS_nk (by omega)])
                    refine x_aload0 G d_N_lay_145 ?_
                    refine m_getr G d_N_lay_146 fl_N_62 rfl (by decide) rfl ?_
                    refine x_iload3 G d_N_lay_149 ?_
                    refine m_aald k G d_N_lay_150 rfl (by decide) rfl ⟨by omega, by first | decide | omega⟩ (S_of hk4).2 ?_
                    refine m_callV_pv (p_Sh_become (kg κ) (d - 1) (by omega) σ5 (93 + 4 * s + 1) (L_r0 (L_of hs5).1).2 so9 si9 (tS k) (tZ k) v9 (shV tN k) hr5 (81 + 3 * k) (S_of hk4).1 hH5 (by omega)) G d_N_lay_151 lk_N_315 (S_o (L_r0 (L_of hs5).1).2) ⟨by decide, rfl⟩ (S_l (L_r0 (L_of hs5).1).2) (by omega) rfl (Nat.le_of_ble_eq_true rfl) hx (fun σ2 ⟨g1, g2⟩ => ?_)
                    refine x_goto G d_N_lay_154 ?_
                    refine x_iload4 G d_N_lay_172 ?_
                    exact m_iret E G d_N_lay_174 hx rfl rfl ⟨_, rfl, PLC.yes (by simp only [fLay, c5, ts, c13, c21, eq_true c40, c48, tk, c68, Bool.and_true, Bool.true_and, Bool.and_false, Bool.false_and, Bool.or_true, Bool.true_or, Bool.or_false, Bool.false_or, Bool.not_true, Bool.not_false, Bool.false_eq_true, decide_true, decide_false, if_true, if_false]) ⟨s, hs5, rfl, hth3, (by rw [g2 _ (by omega) (by omega) (by omega), e5, updS_at]), (fun z => absurd (c40.symm.trans z) (by decide)), (fun _ => ⟨k, hk4, rfl, g1⟩), (fun z => absurd (c40.symm.trans z) (by decide)), (fun z => absurd c40 z), (fun c hc => by rw [g2 c (by omega) (by omega) (by omega), e5, updS_nk (by omega)])⟩⟩
                · exact absurd c97 c21
              · replace c68 := bI_n0.mp c68
                replace c68 := of_decide_eq_true c68
                refine x_ldc G d_N_lay_71 kc_N_229 ?_
                exact m_iret E G d_N_lay_73 hx rfl rfl ⟨_, rfl, PLC.no (by simp only [fLay, c5, ts, c13, c21, eq_true c40, c48, tk, eq_true c68, Bool.and_true, Bool.true_and, Bool.and_false, Bool.false_and, Bool.or_true, Bool.true_or, Bool.or_false, Bool.false_or, Bool.not_true, Bool.not_false, Bool.false_eq_true, decide_true, decide_false, if_true, if_false])⟩
          · replace c48 := bI_0.mp c48
            refine x_ldc G d_N_lay_51 kc_N_102 ?_
            exact m_iret E G d_N_lay_53 hx rfl rfl ⟨_, rfl, PLC.no (by simp only [fLay, c5, ts, c13, c21, eq_true c40, c48, Bool.and_true, Bool.true_and, Bool.and_false, Bool.false_and, Bool.or_true, Bool.true_or, Bool.or_false, Bool.false_or, Bool.not_true, Bool.not_false, Bool.false_eq_true, decide_true, decide_false, if_true, if_false])⟩
      · refine x_aload0 G d_N_lay_24 ?_
        refine m_getr G d_N_lay_25 fl_N_43 rfl (by decide) rfl ?_
        refine x_iload3 G d_N_lay_28 ?_
        refine m_callV_pi (p_isOn (kg κ) (d - 1) _ 28 hw28 S hR _) G d_N_lay_29 lk_N_107 rfl ⟨by decide, rfl⟩ (by decide) (by omega) rfl (Nat.le_of_ble_eq_true rfl) hx ?_
        refine x_if_ne G d_N_lay_32 (fun c32 => ?_) (fun c32 => ?_)
        · replace c32 := bI_n0.mp c32
          obtain ⟨p, hp, hpn, tp, rfl⟩ := one_ex hI c32
          refine x_iload2 G d_N_lay_38 ?_
          refine x_iconst (v := nI 2) G d_N_lay_39 rfl ?_
          refine x_icmp_ne G d_N_lay_40 (fun c40 => ?_) (fun c40 => ?_)
          · refine x_iload2 G d_N_lay_54 ?_
            refine x_iconst (v := nI 2) G d_N_lay_55 rfl ?_
            refine x_icmp_ne G d_N_lay_56 (fun c56 => ?_) (fun c56 => ?_)
            · refine x_aload0 G d_N_lay_74 ?_
              refine m_getr G d_N_lay_75 fl_N_68 rfl (by decide) rfl ?_
              refine x_iload1 G d_N_lay_78 ?_
              refine m_aald s G d_N_lay_79 rfl (by decide) rfl ⟨hs5, by first | decide | omega⟩ (L_of hs5).2 ?_
              refine m_geti G d_N_lay_80 fl_N_304 (L_o (L_of hs5).1) (L_l (L_of hs5).1) (L_i1 (L_of hs5).1) ?_
              rw [show σ (93 + 4 * s) 1 = tH s from hh]
              refine x_istore4 G d_N_lay_83 rfl hk ?_
              refine x_aload0 G d_N_lay_85 ?_
              refine m_getr G d_N_lay_86 fl_N_68 rfl (by decide) rfl ?_
              refine x_iload1 G d_N_lay_89 ?_
              refine m_aald s G d_N_lay_90 rfl (by decide) rfl ⟨hs5, by first | decide | omega⟩ (L_of hs5).2 ?_
              refine x_iload2 G d_N_lay_91 ?_
              refine m_puti_n G d_N_lay_92 fl_N_304 (L_o (L_of hs5).1) (L_l (L_of hs5).1) (L_i1 (L_of hs5).1) rfl rfl (fun σ5 e5 => ?_)
              have hR5 : WRel 28 S σ5 := hR.frame (fun c a b _ => by rw [e5, updS_nk (by omega)])
              refine x_iload2 G d_N_lay_95 ?_
              refine x_iconst (v := nI 1) G d_N_lay_96 rfl ?_
              refine x_icmp_ne G d_N_lay_97 (fun c97 => ?_) (fun c97 => ?_)
              · exact absurd c21 c97
              · refine x_aload0 G d_N_lay_100 ?_
                refine m_getr G d_N_lay_101 fl_N_68 rfl (by decide) rfl ?_
                refine x_iload1 G d_N_lay_104 ?_
                refine m_aald s G d_N_lay_105 rfl (by decide) rfl ⟨hs5, by first | decide | omega⟩ (L_of hs5).2 ?_
                refine x_aload0 G d_N_lay_106 ?_
                refine m_getr G d_N_lay_107 fl_N_43 rfl (by decide) rfl ?_
                refine x_iload3 G d_N_lay_110 ?_
                refine m_callV_pf (p_Wo_kindOf (kg κ) (d - 1) (by omega) σ5 28 hw28 S hR5 hI p (by omega)) G d_N_lay_111 lk_N_126 rfl ⟨by decide, rfl⟩ (by decide) (by omega) rfl (Nat.le_of_ble_eq_true rfl) hx ?_
                refine x_aload0 G d_N_lay_114 ?_
                refine m_getr G d_N_lay_115 fl_N_43 rfl (by decide) rfl ?_
                refine m_getr G d_N_lay_118 fl_N_115 rfl (by decide) rfl ?_
                refine x_iconst (v := nI 2) G d_N_lay_121 rfl ?_
                refine m_aald 2 G d_N_lay_122 rfl (by decide) rfl ⟨by omega, by first | decide | omega⟩ rfl ?_
                refine x_iload3 G d_N_lay_123 ?_
                refine m_iald p G d_N_lay_124 rfl rfl ⟨by omega, by first | decide | omega⟩ ?_
                rw [show σ5 (28 + 2 + 2) p = S (ixP p 2) from hR5.p 2 (by decide) (by omega)]
                refine m_callV_pv (p_Sl_holdOne (kg κ) (d - 1) (by omega) σ5 (93 + 4 * s) (L_of hs5).1 (2 + tn (S (ixP p 0))) (by omega) (by have := (hI.kind (show p < 8 by omega)).2; omega) _) G d_N_lay_125 lk_N_307 (L_o (L_of hs5).1) ⟨by decide, rfl⟩ (L_l (L_of hs5).1) (by omega) rfl (Nat.le_of_ble_eq_true rfl) hx (fun σ2 ⟨g1, g2, g3, g4⟩ => ?_)
                refine x_goto G d_N_lay_128 ?_
                refine x_iload4 G d_N_lay_172 ?_
                exact m_iret E G d_N_lay_174 hx rfl rfl ⟨_, rfl, PLC.yes (by simp only [fLay, c5, ts, c13, eq_true c21, c32, tp, Bool.and_true, Bool.true_and, Bool.and_false, Bool.false_and, Bool.or_true, Bool.true_or, Bool.or_false, Bool.false_or, Bool.not_true, Bool.not_false, Bool.false_eq_true, decide_true, decide_false, if_true, if_false]) ⟨s, hs5, rfl, hth3, (by rw [g3 1 (by decide) (by decide), e5, updS_at]), (fun _ => ⟨p, hp, rfl, g1, g2⟩), (fun z => absurd (c21.symm.trans z) (by decide)), (fun z => absurd (c21.symm.trans z) (by decide)), (fun _ c hc => by rw [g4 c hc, e5, updS_nk hc]), (fun c hc => by rw [g4 c (by omega), e5, updS_nk (by omega)])⟩⟩
            · exact absurd c56 c40
          · exact absurd (c21.symm.trans c40) (by decide)
        · replace c32 := bI_0.mp c32
          refine x_ldc G d_N_lay_35 kc_N_102 ?_
          exact m_iret E G d_N_lay_37 hx rfl rfl ⟨_, rfl, PLC.no (by simp only [fLay, c5, ts, c13, eq_true c21, c32, Bool.and_true, Bool.true_and, Bool.and_false, Bool.false_and, Bool.or_true, Bool.true_or, Bool.or_false, Bool.false_or, Bool.not_true, Bool.not_false, Bool.false_eq_true, decide_true, decide_false, if_true, if_false])⟩
    · replace c13 := bI_0.mp c13
      refine x_ldc G d_N_lay_16 kc_N_102 ?_
      exact m_iret E G d_N_lay_18 hx rfl rfl ⟨_, rfl, PLC.no (by simp only [fLay, c5, ts, c13, Bool.and_true, Bool.true_and, Bool.and_false, Bool.false_and, Bool.or_true, Bool.true_or, Bool.or_false, Bool.false_or, Bool.not_true, Bool.not_false, Bool.false_eq_true, decide_true, decide_false, if_true, if_false])⟩
