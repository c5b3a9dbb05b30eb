/-! SHEETS: what the calls answer, and make of them; the class's side -/
abbrev ShE : Type := Option (Nat × Int32 × Int32 × (Nat → Int32))
def shV (tN : Nat → Int32) (k : Nat) : Nat → Int32 := fun i => tN (24 * k + i)
/-- the class's sheets hold the rows tS, tZ, tN -/
def SO (tS tZ tN : Nat → Int32) (σ : Sg) : Prop := ∀ k, k < 4 → SHC (81 + 3 * k) (tS k) (tZ k) (shV tN k) σ ∧ (tS k = -1 ∨ tS k = 0 ∨ tS k = 1) ∧ In (tZ k) 24
def RS (e : Int32 × ShE) (σ : Sg) : Int32 → Sg → Prop := fun v σ1 => v = e.1 ∧ match e.2 with
  | none => σ1 = σ
  | some (k, so, si, w) => SHC (81 + 3 * k) so si w σ1 ∧ ∀ c, c ≠ 81 + 3 * k → c ≠ 81 + 3 * k + 1 → c ≠ 81 + 3 * k + 2 → σ1 c = σ c
theorem RS.none' {e : Int32 × ShE} {σ : Sg} {v : Int32} (h : e = (v, none)) : RS e σ v σ := by rw [h]; exact ⟨rfl, rfl⟩
theorem RS.some' {e : Int32 × ShE} {σ σ1 : Sg} {v : Int32} {k : Nat} {so si : Int32} {w : Nat → Int32} (h : e = (v, some (k, so, si, w))) (h1 : SHC (81 + 3 * k) so si w σ1) (h2 : ∀ c, c ≠ 81 + 3 * k → c ≠ 81 + 3 * k + 1 → c ≠ 81 + 3 * k + 2 → σ1 c = σ c) : RS e σ v σ1 := by
  rw [h]; exact ⟨rfl, h1, h2⟩
def fSheet (k sort n : Int32) : Int32 × ShE := if upB k (nI 3) && inB sort (-1) (nI 1) then (if sort = -1 then (nI 0, some (tn k, -1, nI 0, fun _ => 0)) else if nI 24 < n then (-1000000001, none) else if n < 0 then (-1000000014, none) else (n, some (tn k, sort, n, fun _ => 0))) else (-1000000001, none)
def fMark (tS tZ tN : Nat → Int32) (k p x : Int32) : Int32 × ShE :=
  if upB k (nI 3) then (if tS (tn k) = -1 then (-1000000011, none) else if isO (tZ (tn k)) p then (if tS (tn k) = 0 then (if x = NONEi then (-1000000012, none) else (nI 1, some (tn k, tS (tn k), tZ (tn k), upd (shV tN (tn k)) (tn p) x.toInt16.toInt32))) else (if x = NONEi then (nI 1, some (tn k, tS (tn k), tZ (tn k), upd (shV tN (tn k)) (tn p) x)) else if x < -99999 then (-1000000001, none) else if (99999 : Int32) < x then (-1000000001, none) else (nI 1, some (tn k, tS (tn k), tZ (tn k), upd (shV tN (tn k)) (tn p) x)))) else (-1000000013, none)) else (-1000000001, none)
def clI (x : Int32) : Int32 := if nI 0 < (if x < nI 99 then x else nI 99) then (if x < nI 99 then x else nI 99) else nI 0
def pourN (S : Rw) (m : Nat) (v : Nat → Int32) : Nat → Nat × Rw
  | 0 => (0, S)
  | f + 1 => if f < m ∧ v f ≠ NONEi then ((pourN S m v f).1 + (if (pourN S m v f).2 (ixF f 1) = clI (v f) then 0 else 1), upd (pourN S m v f).2 (ixF f 1) (clI (v f))) else pourN S m v f
def fPour (S : Rw) (tS tZ tN : Nat → Int32) (k : Int32) : Int32 × Rw := if upB k (nI 3) then (if tS (tn k) = -1 then (-1000000011, S) else (nI (pourN S (tn (tZ (tn k))) (shV tN (tn k)) 9).1, (pourN S (tn (tZ (tn k))) (shV tN (tn k)) 9).2)) else (-1000000001, S)
def rdN (S : Rw) (v : Nat → Int32) : Nat → Int32
  | 0 => -1
  | k + 1 => if rdN S v k = -1 then (if v k ≠ NONEi ∧ (¬ k < tn (S 0) ∨ v k ≠ S (ixP k 4)) then nI k else -1) else rdN S v k
def fReads (S : Rw) (tS tZ tN : Nat → Int32) (k : Int32) : Int32 × Rw := (if upB k (nI 3) then (if tS (tn k) = -1 then -1000000011 else if rdN S (shV tN (tn k)) (tn (tZ (tn k))) = -1 then -1000000005 else rdN S (shV tN (tn k)) (tn (tZ (tn k)))) else -1000000001, S)
def fCopy (tS tZ tN : Nat → Int32) (k p k2 a m : Int32) : Int32 × ShE :=
  if upB k (nI 3) && upB k2 (nI 3) then (if tS (tn k) = -1 then (-1000000011, none) else if tS (tn k2) = -1 then (-1000000011, none) else if tS (tn k) = tS (tn k2) then (if hpB (tZ (tn k)) p m && hpB (tZ (tn k2)) a m then (m, some (tn k2, tS (tn k2), tZ (tn k2), va_cpy (shV tN (tn k)) (shV tN (tn k2)) (tn p) (tn a) (tn m))) else (-1000000013, none)) else (-1000000012, none)) else (-1000000001, none)
def hmV (S : Rw) (v : Nat → Int32) (m n p : Nat) : Int32 := dfN v (fun f => passN S (nI p) n (ixF f 1)) m
def hmN (S : Rw) (v : Nat → Int32) (m n : Nat) : Nat → Int32 × Int32
  | 0 => (-1, nI 0)
  | p + 1 => if (hmN S v m n p).1 = -1 ∨ hmV S v m n p < (hmN S v m n p).2 then (nI p, hmV S v m n p) else hmN S v m n p
def fAtHome (S : Rw) (tS tZ tN : Nat → Int32) (k n what : Int32) : Int32 × Rw := (if upB k (nI 3) && upB n (nI 60) && upB what (nI 1) then (if tS (tn k) = -1 then -1000000011 else if (hmN S (shV tN (tn k)) (tn (tZ (tn k))) (tn n) (tn (S 0))).1 = -1 then -1000000005 else if what = 0 then (hmN S (shV tN (tn k)) (tn (tZ (tn k))) (tn n) (tn (S 0))).1 else (hmN S (shV tN (tn k)) (tn (tZ (tn k))) (tn n) (tn (S 0))).2) else -1000000001, S)
theorem dfN_cong {v c c' : Nat → Int32} (h : ∀ f, f < 9 → c f = c' f) : ∀ m, dfN v c m = dfN v c' m
  | 0 => rfl
  | k + 1 => by
    rw [dfN, dfN, dfN_cong h k]
    by_cases q : k < 9
    · rw [if_pos q, if_pos q, h k q]
    · rw [if_neg q, if_neg q]
theorem rdN_stay {S : Rw} {v : Nat → Int32} {k : Nat} {r : Int32} (h : rdN S v k = r) (hr : r ≠ -1) : ∀ j, rdN S v (k + j) = r
  | 0 => h
  | j + 1 => by
    show rdN S v (k + j + 1) = r
    rw [rdN, rdN_stay h hr j, if_neg hr]
theorem pour_AgT (S : Rw) (m : Nat) (v : Nat → Int32) : ∀ f, f ≤ 9 → AgT S (pourN S m v f).2
  | 0, _ => AgT.refl
  | f + 1, h => by
    have ih := pour_AgT S m v f (by omega)
    unfold pourN
    split
    · exact ih.upd (by unfold ixF; omega) (by unfold ixF; omega)
    · exact ih
theorem pour_le (S : Rw) (m : Nat) (v : Nat → Int32) : ∀ f, (pourN S m v f).1 ≤ f
  | 0 => Nat.le_refl _
  | f + 1 => by
    have ih := pour_le S m v f
    unfold pourN
    split
    · dsimp only; split <;> omega
    · omega
theorem hpB_ex {m : Nat} (hm : m ≤ 24) {p n : Int32} (h : hpB (nI m) p n = true) : ∃ a b, a + b ≤ m ∧ tn (nI a) = a ∧ tn (nI b) = b ∧ p = nI a ∧ n = nI b := by
  simp only [hpB, Bool.and_eq_true, Bool.not_eq_true', decide_eq_false_iff_not] at h
  obtain ⟨⟨⟨h1, h2⟩, h3⟩, h4⟩ := h
  obtain ⟨a, ha, rfl⟩ := nI_of h1
  obtain ⟨b, hb, rfl⟩ := nI_of h3
  rw [nlt (by omega) ha] at h2
  rw [pk_sub (by omega), nlt (by omega) hb] at h4
  exact ⟨a, b, by omega, tn_nI ha, tn_nI hb, rfl, rfl⟩
theorem p_N_sheet (g : CX) (d : Nat) (hd : 1 ≤ d) (σ : Sg) (sh sort n : Int32) : RunM g d N_sheet [.ref 0, .int sh, .int sort, .int n] σ (PR (RS (fSheet sh sort n) σ)) := by
  refine RunM.of 0 (by decide +kernel) rfl ?_
  intro κ hg hx hk0 G E
  subst hg
  have hk : 4 ≤ kn κ := Nat.le_of_eq hk0.symm
  show X κ NC 0 [some (.ref 0), some (.int sh), some (.int sort), some (.int n)] [] (hv σ)
  refine x_iload1 G d_N_sheet_0 ?_
  refine x_iconst (v := nI 3) G d_N_sheet_1 rfl ?_
  refine m_callS_pi (p_N_isUpTo (kg κ) (d - 1) (Nat.zero_le _) _ _ _) G d_N_sheet_2 lk_N_98 (by omega) rfl (Nat.le_of_ble_eq_true rfl) hx ?_
  refine x_if_eq G d_N_sheet_5 (fun c5 => ?_) (fun c5 => ?_)
  · replace c5 := bI_0.mp c5
    refine x_ldc G d_N_sheet_18 kc_N_102 ?_
    exact m_iret E G d_N_sheet_20 hx rfl rfl ⟨_, rfl, RS.none' (by simp only [fSheet, c5, Bool.and_true, Bool.true_and, Bool.and_false, Bool.false_and, Bool.or_true, Bool.true_or, Bool.or_false, Bool.false_or, Bool.not_true, Bool.not_false, Bool.false_eq_true, decide_true, decide_false, if_true, if_false])⟩
  · replace c5 := bI_n0.mp c5
    obtain ⟨k, hk3, tk, rfl⟩ := upB_ex (by decide) c5
    have hk4 : k < 4 := by omega
    refine x_iload2 G d_N_sheet_8 ?_
    refine x_iconst (v := (-1)) G d_N_sheet_9 rfl ?_
    refine x_icmp_lt G d_N_sheet_10 (fun c10 => ?_) (fun c10 => ?_)
    · have cin : inB sort (-1) (nI 1) = false := by simp only [inB, c10, decide_true, decide_false, Bool.not_false, Bool.not_true, Bool.and_true, Bool.and_false, Bool.false_and]
      refine x_ldc G d_N_sheet_18 kc_N_102 ?_
      exact m_iret E G d_N_sheet_20 hx rfl rfl ⟨_, rfl, RS.none' (by simp only [fSheet, c5, tk, cin, Bool.and_true, Bool.true_and, Bool.and_false, Bool.false_and, Bool.or_true, Bool.true_or, Bool.or_false, Bool.false_or, Bool.not_true, Bool.not_false, Bool.false_eq_true, decide_true, decide_false, if_true, if_false])⟩
    · refine x_iload2 G d_N_sheet_13 ?_
      refine x_iconst (v := nI 1) G d_N_sheet_14 rfl ?_
      refine x_icmp_le G d_N_sheet_15 (fun c15 => ?_) (fun c15 => ?_)
      · replace c15 := Int32.not_lt.mpr c15
        have cin : inB sort (-1) (nI 1) = true := by simp only [inB, c10, c15, decide_true, decide_false, Bool.not_false, Bool.not_true, Bool.and_true, Bool.and_false, Bool.false_and]
        refine x_iload2 G d_N_sheet_21 ?_
        refine x_iconst (v := (-1)) G d_N_sheet_22 rfl ?_
        refine x_icmp_ne G d_N_sheet_23 (fun c23 => ?_) (fun c23 => ?_)
        · refine x_iload3 G d_N_sheet_39 ?_
          refine x_bipush (v := nI 24) G d_N_sheet_40 rfl ?_
          refine x_icmp_le G d_N_sheet_42 (fun c42 => ?_) (fun c42 => ?_)
          · replace c42 := Int32.not_lt.mpr c42
            refine x_iload3 G d_N_sheet_48 ?_
            refine x_if_ge G d_N_sheet_49 (fun c49 => ?_) (fun c49 => ?_)
            · replace c49 := Int32.not_lt.mpr c49
              refine x_aload0 G d_N_sheet_56 ?_
              refine m_getr G d_N_sheet_57 fl_N_62 rfl (by decide) rfl ?_
              refine x_iload1 G d_N_sheet_60 ?_
              refine m_aald k G d_N_sheet_61 rfl (by decide) rfl ⟨by omega, by first | decide | omega⟩ (S_of hk4).2 ?_
              refine x_iload2 G d_N_sheet_62 ?_
              refine x_iload3 G d_N_sheet_63 ?_
              refine m_callV_pv (p_Sh_clear (kg κ) (d - 1) (by omega) σ (81 + 3 * k) (S_of hk4).1 sort n) G d_N_sheet_64 lk_N_269 (S_o (S_of hk4).1) ⟨by decide, rfl⟩ (S_l (S_of hk4).1) (by omega) rfl (Nat.le_of_ble_eq_true rfl) hx (fun σ1 ⟨g1, g2⟩ => ?_)
              refine x_iload3 G d_N_sheet_67 ?_
              exact m_iret E G d_N_sheet_68 hx rfl rfl ⟨_, rfl, RS.some' (by simp only [fSheet, c5, tk, cin, c23, c42, c49, Bool.and_true, Bool.true_and, Bool.and_false, Bool.false_and, Bool.or_true, Bool.true_or, Bool.or_false, Bool.false_or, Bool.not_true, Bool.not_false, Bool.false_eq_true, decide_true, decide_false, if_true, if_false]) g1 g2⟩
            · replace c49 := Int32.not_le.mp c49
              refine x_ldcw G d_N_sheet_52 kc_N_272 ?_
              exact m_iret E G d_N_sheet_55 hx rfl rfl ⟨_, rfl, RS.none' (by simp only [fSheet, c5, tk, cin, c23, c42, c49, Bool.and_true, Bool.true_and, Bool.and_false, Bool.false_and, Bool.or_true, Bool.true_or, Bool.or_false, Bool.false_or, Bool.not_true, Bool.not_false, Bool.false_eq_true, decide_true, decide_false, if_true, if_false])⟩
          · replace c42 := Int32.not_le.mp c42
            refine x_ldc G d_N_sheet_45 kc_N_102 ?_
            exact m_iret E G d_N_sheet_47 hx rfl rfl ⟨_, rfl, RS.none' (by simp only [fSheet, c5, tk, cin, c23, c42, Bool.and_true, Bool.true_and, Bool.and_false, Bool.false_and, Bool.or_true, Bool.true_or, Bool.or_false, Bool.false_or, Bool.not_true, Bool.not_false, Bool.false_eq_true, decide_true, decide_false, if_true, if_false])⟩
        · refine x_aload0 G d_N_sheet_26 ?_
          refine m_getr G d_N_sheet_27 fl_N_62 rfl (by decide) rfl ?_
          refine x_iload1 G d_N_sheet_30 ?_
          refine m_aald k G d_N_sheet_31 rfl (by decide) rfl ⟨by omega, by first | decide | omega⟩ (S_of hk4).2 ?_
          refine x_iconst (v := (-1)) G d_N_sheet_32 rfl ?_
          refine x_iconst (v := nI 0) G d_N_sheet_33 rfl ?_
          refine m_callV_pv (p_Sh_clear (kg κ) (d - 1) (by omega) σ (81 + 3 * k) (S_of hk4).1 (-1) (nI 0)) G d_N_sheet_34 lk_N_269 (S_o (S_of hk4).1) ⟨by decide, rfl⟩ (S_l (S_of hk4).1) (by omega) rfl (Nat.le_of_ble_eq_true rfl) hx (fun σ1 ⟨g1, g2⟩ => ?_)
          refine x_iconst (v := nI 0) G d_N_sheet_37 rfl ?_
          exact m_iret E G d_N_sheet_38 hx rfl rfl ⟨_, rfl, RS.some' (by simp only [fSheet, c5, tk, cin, eq_true c23, Bool.and_true, Bool.true_and, Bool.and_false, Bool.false_and, Bool.or_true, Bool.true_or, Bool.or_false, Bool.false_or, Bool.not_true, Bool.not_false, Bool.false_eq_true, decide_true, decide_false, if_true, if_false]) g1 g2⟩
      · replace c15 := Int32.not_le.mp c15
        have cin : inB sort (-1) (nI 1) = false := by simp only [inB, c10, c15, decide_true, decide_false, Bool.not_false, Bool.not_true, Bool.and_true, Bool.and_false, Bool.false_and]
        refine x_ldc G d_N_sheet_18 kc_N_102 ?_
        exact m_iret E G d_N_sheet_20 hx rfl rfl ⟨_, rfl, RS.none' (by simp only [fSheet, c5, tk, cin, Bool.and_true, Bool.true_and, Bool.and_false, Bool.false_and, Bool.or_true, Bool.true_or, Bool.or_false, Bool.false_or, Bool.not_true, Bool.not_false, Bool.false_eq_true, decide_true, decide_false, if_true, if_false])⟩
theorem p_N_mark (g : CX) (d : Nat) (hd : 1 ≤ d) (σ : Sg) (tS tZ tN : Nat → Int32) (hT : SO tS tZ tN σ) (sh pl v : Int32) : RunM g d N_mark [.ref 0, .int sh, .int pl, .int v] σ (PR (RS (fMark tS tZ tN sh pl v) σ)) := by
  refine RunM.of 1 (by decide +kernel) rfl ?_
  intro κ hg hx hk0 G E
  subst hg
  have hk : 5 ≤ kn κ := Nat.le_of_eq hk0.symm
  show X κ NC 0 [some (.ref 0), some (.int sh), some (.int pl), some (.int v), none] [] (hv σ)
  refine x_iload1 G d_N_mark_0 ?_
  refine x_iconst (v := nI 3) G d_N_mark_1 rfl ?_
  refine m_callS_pi (p_N_isUpTo (kg κ) (d - 1) (Nat.zero_le _) _ _ _) G d_N_mark_2 lk_N_98 (by omega) rfl (Nat.le_of_ble_eq_true rfl) hx ?_
  refine x_if_ne G d_N_mark_5 (fun c5 => ?_) (fun c5 => ?_)
  · replace c5 := bI_n0.mp c5
    obtain ⟨k, hk3, tk, rfl⟩ := upB_ex (by decide) c5
    have hk4 : k < 4 := by omega
    obtain ⟨hH, hso, hsi⟩ := hT k hk4
    obtain ⟨m, hm⟩ : ∃ z, z = tn (tZ k) := ⟨_, rfl⟩
    have hsi1 : tZ k = nI m := by rw [hm]; exact hsi.1
    have hm24 : m ≤ 24 := by rw [hm]; exact hsi.2
    rw [hsi1] at hH
    refine x_aload0 G d_N_mark_11 ?_
    refine m_getr G d_N_mark_12 fl_N_62 rfl (by decide) rfl ?_
    refine x_iload1 G d_N_mark_15 ?_
    refine m_aald k G d_N_mark_16 rfl (by decide) rfl ⟨by omega, by first | decide | omega⟩ (S_of hk4).2 ?_
    refine x_astore4 G d_N_mark_17 rfl hk ?_
    refine x_aload4 G d_N_mark_19 ?_
    refine m_callV_pi (p_Sh_isMissing (kg κ) (d - 1) (Nat.zero_le _) σ (81 + 3 * k) (S_of hk4).1) G d_N_mark_21 lk_N_225 (S_o (S_of hk4).1) ⟨by decide, rfl⟩ (S_l (S_of hk4).1) (by omega) rfl (Nat.le_of_ble_eq_true rfl) hx ?_
    rw [show σ (81 + 3 * k) 2 = tS k from hH.1]
    refine x_if_eq G d_N_mark_24 (fun c24 => ?_) (fun c24 => ?_)
    · replace c24 := bI_0.mp c24
      replace c24 : ¬ tS k = -1 := of_decide_eq_false c24
      refine x_aload4 G d_N_mark_30 ?_
      refine x_iload2 G d_N_mark_32 ?_
      refine m_callV_pi (p_Sh_hasPlace (kg κ) (d - 1) (Nat.zero_le _) σ (81 + 3 * k) (S_of hk4).1 _) G d_N_mark_33 lk_N_273 (S_o (S_of hk4).1) ⟨by decide, rfl⟩ (S_l (S_of hk4).1) (by omega) rfl (Nat.le_of_ble_eq_true rfl) hx ?_
      rw [show σ (81 + 3 * k) 3 = tZ k by rw [hsi1]; exact hH.2.1]
      refine x_if_ne G d_N_mark_36 (fun c36 => ?_) (fun c36 => ?_)
      · replace c36 := bI_n0.mp c36
        obtain ⟨p, hp, tp, rfl⟩ := isO_ex (by omega) (show isO (nI m) pl = true by rw [← hsi1]; exact c36)
        refine x_aload4 G d_N_mark_43 ?_
        refine m_geti G d_N_mark_45 fl_N_277 (S_o (S_of hk4).1) (S_l (S_of hk4).1) (S_ij (S_of hk4).1 2 (by decide) (by decide)) ?_
        rw [show σ (81 + 3 * k) 2 = tS k from hH.1]
        refine x_if_ne G d_N_mark_48 (fun c48 => ?_) (fun c48 => ?_)
        · refine x_aload4 G d_N_mark_60 ?_
          refine m_geti G d_N_mark_62 fl_N_277 (S_o (S_of hk4).1) (S_l (S_of hk4).1) (S_ij (S_of hk4).1 2 (by decide) (by decide)) ?_
          rw [show σ (81 + 3 * k) 2 = tS k from hH.1]
          refine x_iconst (v := nI 1) G d_N_mark_65 rfl ?_
          refine x_icmp_ne G d_N_mark_66 (fun c66 => ?_) (fun c66 => ?_)
          · exact absurd (hso.resolve_left c24) (fun z => z.elim c48 c66)
          · refine x_iload3 G d_N_mark_69 ?_
            refine x_ldc G d_N_mark_70 kc_N_185 ?_
            refine x_icmp_eq G d_N_mark_72 (fun c72 => ?_) (fun c72 => ?_)
            · refine x_aload4 G d_N_mark_92 ?_
              refine x_iload2 G d_N_mark_94 ?_
              refine x_iload3 G d_N_mark_95 ?_
              refine m_callV_pv (p_Sh_put (kg κ) (d - 1) (by omega) σ (81 + 3 * k) (S_of hk4).1 (tS k) (nI m) (shV tN k) hH p (by omega) v (fun z => absurd z c48)) G d_N_mark_96 lk_N_282 (S_o (S_of hk4).1) ⟨by decide, rfl⟩ (S_l (S_of hk4).1) (by omega) rfl (Nat.le_of_ble_eq_true rfl) hx (fun σ1 ⟨g1, g2⟩ => ?_)
              refine x_iconst (v := nI 1) G d_N_mark_99 rfl ?_
              exact m_iret E G d_N_mark_100 hx rfl rfl ⟨_, rfl, RS.some' (k := k) (so := tS k) (si := tZ k) (w := upd (shV tN k) p (if tS k = 0 then v.toInt16.toInt32 else v)) (by simp only [fMark, c5, tk, c24, c36, tp, c48, eq_true c72, Bool.and_true, Bool.true_and, Bool.and_false, Bool.false_and, Bool.or_true, Bool.true_or, Bool.or_false, Bool.false_or, Bool.not_true, Bool.not_false, Bool.false_eq_true, decide_true, decide_false, if_true, if_false]) (by rw [hsi1]; exact g1) g2⟩
            · refine x_iload3 G d_N_mark_75 ?_
              refine x_ldcw G d_N_mark_76 kc_N_280 ?_
              refine x_icmp_lt G d_N_mark_79 (fun c79 => ?_) (fun c79 => ?_)
              · refine x_ldc G d_N_mark_89 kc_N_102 ?_
                exact m_iret E G d_N_mark_91 hx rfl rfl ⟨_, rfl, RS.none' (by simp only [fMark, c5, tk, c24, c36, tp, c48, c72, c79, Bool.and_true, Bool.true_and, Bool.and_false, Bool.false_and, Bool.or_true, Bool.true_or, Bool.or_false, Bool.false_or, Bool.not_true, Bool.not_false, Bool.false_eq_true, decide_true, decide_false, if_true, if_false])⟩
              · refine x_iload3 G d_N_mark_82 ?_
                refine x_ldcw G d_N_mark_83 kc_N_281 ?_
                refine x_icmp_le G d_N_mark_86 (fun c86 => ?_) (fun c86 => ?_)
                · replace c86 := Int32.not_lt.mpr c86
                  refine x_aload4 G d_N_mark_92 ?_
                  refine x_iload2 G d_N_mark_94 ?_
                  refine x_iload3 G d_N_mark_95 ?_
                  refine m_callV_pv (p_Sh_put (kg κ) (d - 1) (by omega) σ (81 + 3 * k) (S_of hk4).1 (tS k) (nI m) (shV tN k) hH p (by omega) v (fun z => absurd z c48)) G d_N_mark_96 lk_N_282 (S_o (S_of hk4).1) ⟨by decide, rfl⟩ (S_l (S_of hk4).1) (by omega) rfl (Nat.le_of_ble_eq_true rfl) hx (fun σ1 ⟨g1, g2⟩ => ?_)
                  refine x_iconst (v := nI 1) G d_N_mark_99 rfl ?_
                  exact m_iret E G d_N_mark_100 hx rfl rfl ⟨_, rfl, RS.some' (k := k) (so := tS k) (si := tZ k) (w := upd (shV tN k) p (if tS k = 0 then v.toInt16.toInt32 else v)) (by simp only [fMark, c5, tk, c24, c36, tp, c48, c72, c79, c86, Bool.and_true, Bool.true_and, Bool.and_false, Bool.false_and, Bool.or_true, Bool.true_or, Bool.or_false, Bool.false_or, Bool.not_true, Bool.not_false, Bool.false_eq_true, decide_true, decide_false, if_true, if_false]) (by rw [hsi1]; exact g1) g2⟩
                · replace c86 := Int32.not_le.mp c86
                  refine x_ldc G d_N_mark_89 kc_N_102 ?_
                  exact m_iret E G d_N_mark_91 hx rfl rfl ⟨_, rfl, RS.none' (by simp only [fMark, c5, tk, c24, c36, tp, c48, c72, c79, c86, Bool.and_true, Bool.true_and, Bool.and_false, Bool.false_and, Bool.or_true, Bool.true_or, Bool.or_false, Bool.false_or, Bool.not_true, Bool.not_false, Bool.false_eq_true, decide_true, decide_false, if_true, if_false])⟩
        · refine x_iload3 G d_N_mark_51 ?_
          refine x_ldc G d_N_mark_52 kc_N_185 ?_
          refine x_icmp_ne G d_N_mark_54 (fun c54 => ?_) (fun c54 => ?_)
          · refine x_aload4 G d_N_mark_60 ?_
            refine m_geti G d_N_mark_62 fl_N_277 (S_o (S_of hk4).1) (S_l (S_of hk4).1) (S_ij (S_of hk4).1 2 (by decide) (by decide)) ?_
            rw [show σ (81 + 3 * k) 2 = tS k from hH.1]
            refine x_iconst (v := nI 1) G d_N_mark_65 rfl ?_
            refine x_icmp_ne G d_N_mark_66 (fun c66 => ?_) (fun c66 => ?_)
            · refine x_aload4 G d_N_mark_92 ?_
              refine x_iload2 G d_N_mark_94 ?_
              refine x_iload3 G d_N_mark_95 ?_
              refine m_callV_pv (p_Sh_put (kg κ) (d - 1) (by omega) σ (81 + 3 * k) (S_of hk4).1 (tS k) (nI m) (shV tN k) hH p (by omega) v (fun _ => c54)) G d_N_mark_96 lk_N_282 (S_o (S_of hk4).1) ⟨by decide, rfl⟩ (S_l (S_of hk4).1) (by omega) rfl (Nat.le_of_ble_eq_true rfl) hx (fun σ1 ⟨g1, g2⟩ => ?_)
              refine x_iconst (v := nI 1) G d_N_mark_99 rfl ?_
              exact m_iret E G d_N_mark_100 hx rfl rfl ⟨_, rfl, RS.some' (k := k) (so := tS k) (si := tZ k) (w := upd (shV tN k) p (if tS k = 0 then v.toInt16.toInt32 else v)) (by simp only [fMark, c5, tk, c24, c36, tp, eq_true c48, c54, Bool.and_true, Bool.true_and, Bool.and_false, Bool.false_and, Bool.or_true, Bool.true_or, Bool.or_false, Bool.false_or, Bool.not_true, Bool.not_false, Bool.false_eq_true, decide_true, decide_false, if_true, if_false]) (by rw [hsi1]; exact g1) g2⟩
            · exact absurd (c48.symm.trans c66) (by decide)
          · refine x_ldc G d_N_mark_57 kc_N_133 ?_
            exact m_iret E G d_N_mark_59 hx rfl rfl ⟨_, rfl, RS.none' (by simp only [fMark, c5, tk, c24, c36, tp, eq_true c48, eq_true c54, Bool.and_true, Bool.true_and, Bool.and_false, Bool.false_and, Bool.or_true, Bool.true_or, Bool.or_false, Bool.false_or, Bool.not_true, Bool.not_false, Bool.false_eq_true, decide_true, decide_false, if_true, if_false])⟩
      · replace c36 := bI_0.mp c36
        refine x_ldcw G d_N_mark_39 kc_N_276 ?_
        exact m_iret E G d_N_mark_42 hx rfl rfl ⟨_, rfl, RS.none' (by simp only [fMark, c5, tk, c24, c36, Bool.and_true, Bool.true_and, Bool.and_false, Bool.false_and, Bool.or_true, Bool.true_or, Bool.or_false, Bool.false_or, Bool.not_true, Bool.not_false, Bool.false_eq_true, decide_true, decide_false, if_true, if_false])⟩
    · replace c24 := bI_n0.mp c24
      replace c24 := of_decide_eq_true c24
      refine x_ldc G d_N_mark_27 kc_N_229 ?_
      exact m_iret E G d_N_mark_29 hx rfl rfl ⟨_, rfl, RS.none' (by simp only [fMark, c5, tk, eq_true c24, Bool.and_true, Bool.true_and, Bool.and_false, Bool.false_and, Bool.or_true, Bool.true_or, Bool.or_false, Bool.false_or, Bool.not_true, Bool.not_false, Bool.false_eq_true, decide_true, decide_false, if_true, if_false])⟩
  · replace c5 := bI_0.mp c5
    refine x_ldc G d_N_mark_8 kc_N_102 ?_
    exact m_iret E G d_N_mark_10 hx rfl rfl ⟨_, rfl, RS.none' (by simp only [fMark, c5, Bool.and_true, Bool.true_and, Bool.and_false, Bool.false_and, Bool.or_true, Bool.true_or, Bool.or_false, Bool.false_or, Bool.not_true, Bool.not_false, Bool.false_eq_true, decide_true, decide_false, if_true, if_false])⟩
theorem p_N_pour (g : CX) (d : Nat) (hd : 2 ≤ d) (σ : Sg) (S : Rw) (hO : CO S σ) (tS tZ tN : Nat → Int32) (hT : SO tS tZ tN σ) (sh : Int32) : RunM g d N_pour [.ref 0, .int sh] σ (PR (RC (fPour S tS tZ tN sh) σ)) := by
  refine RunM.of 4 (by decide +kernel) rfl ?_
  intro κ hg hx hk0 G E
  subst hg
  have hk : 6 ≤ kn κ := Nat.le_of_eq hk0.symm
  show X κ NC 0 [some (.ref 0), some (.int sh), none, none, none, none] [] (hv σ)
  obtain ⟨hR, hL, hI, hJ, h9⟩ := hO
  have hn8 := hI.n
  refine x_iload1 G d_N_pour_0 ?_
  refine x_iconst (v := nI 3) G d_N_pour_1 rfl ?_
  refine m_callS_pi (p_N_isUpTo (kg κ) (d - 1) (Nat.zero_le _) _ _ _) G d_N_pour_2 lk_N_98 (by omega) rfl (Nat.le_of_ble_eq_true rfl) hx ?_
  refine x_if_ne G d_N_pour_5 (fun c5 => ?_) (fun c5 => ?_)
  · replace c5 := bI_n0.mp c5
    obtain ⟨k, hk3, tk, rfl⟩ := upB_ex (by decide) c5
    have hk4 : k < 4 := by omega
    obtain ⟨hH, hso, hsi⟩ := hT k hk4
    obtain ⟨m, hm⟩ : ∃ z, z = tn (tZ k) := ⟨_, rfl⟩
    have hsi1 : tZ k = nI m := by rw [hm]; exact hsi.1
    have hm24 : m ≤ 24 := by rw [hm]; exact hsi.2
    rw [hsi1] at hH
    refine x_aload0 G d_N_pour_11 ?_
    refine m_getr G d_N_pour_12 fl_N_62 rfl (by decide) rfl ?_
    refine x_iload1 G d_N_pour_15 ?_
    refine m_aald k G d_N_pour_16 rfl (by decide) rfl ⟨by omega, by first | decide | omega⟩ (S_of hk4).2 ?_
    refine x_astore2 G d_N_pour_17 rfl hk ?_
    refine x_aload2 G d_N_pour_18 ?_
    refine m_callV_pi (p_Sh_isMissing (kg κ) (d - 1) (Nat.zero_le _) σ (81 + 3 * k) (S_of hk4).1) G d_N_pour_19 lk_N_225 (S_o (S_of hk4).1) ⟨by decide, rfl⟩ (S_l (S_of hk4).1) (by omega) rfl (Nat.le_of_ble_eq_true rfl) hx ?_
    rw [show σ (81 + 3 * k) 2 = tS k from hH.1]
    refine x_if_eq G d_N_pour_22 (fun c22 => ?_) (fun c22 => ?_)
    · replace c22 := bI_0.mp c22
      replace c22 : ¬ tS k = -1 := of_decide_eq_false c22
      refine x_iconst (v := nI 0) G d_N_pour_28 rfl ?_
      refine x_istore3 G d_N_pour_29 rfl hk ?_
      refine x_iconst (v := nI 0) G d_N_pour_30 rfl ?_
      refine x_istore4 G d_N_pour_31 rfl hk ?_
      have hloop : ∀ (z f : Nat) (σ1 : Sg) (o5 : Option Value), f ≤ 9 → 9 < f + z → WRel 28 (pourN S m (shV tN k) f).2 σ1 → OutW 28 σ σ1 → X κ NC 33 [some (.ref 0), some (.int (nI k)), some (.ref (81 + 3 * k)), some (.int (nI (pourN S m (shV tN k) f).1)), some (.int (nI f)), o5] [] (hv σ1) := by
        intro z
        induction z with
        | zero => intro f σ1 o5 h1 h2; omega
        | succ z ih =>
          intro f σ1 o5 hf1 hf2 hR1 hO1
          have hH1 : SHC (81 + 3 * k) (tS k) (nI m) (shV tN k) σ1 := hH.frame (hO1 _ (by omega) (by omega)) (hO1 _ (by omega) (by omega)) (hO1 _ (by omega) (by omega))
          refine x_iload4 G d_N_pour_33 ?_
          refine x_bipush (v := nI 9) G d_N_pour_35 rfl ?_
          refine x_icmp_ge G d_N_pour_37 (fun c37 => ?_) (fun c37 => ?_)
          · have hf9 : f = 9 := by rw [nle (by omega) (by omega)] at c37; omega
            refine x_iload3 G d_N_pour_102 ?_
            exact m_iret E G d_N_pour_103 hx rfl rfl ⟨_, rfl, RC.mk' (S1 := (pourN S m (shV tN k) 9).2) (v1 := nI (pourN S m (shV tN k) 9).1) (by simp only [fPour, ← hm, c5, tk, c22, Bool.and_true, Bool.true_and, Bool.and_false, Bool.false_and, Bool.or_true, Bool.true_or, Bool.or_false, Bool.false_or, Bool.not_true, Bool.not_false, Bool.false_eq_true, decide_true, decide_false, if_true, if_false]) (by rw [hf9]) (by rw [← hf9]; exact hR1) (OutC.of (Or.inl rfl) hO1)⟩
          · have hf9 : f < 9 := by rw [nle (by omega) (by omega)] at c37; omega
            have tnf : tn (nI f) = f := tn_nI (by omega)
            refine x_aload2 G d_N_pour_40 ?_
            refine x_iload4 G d_N_pour_41 ?_
            refine m_callV_pi (p_Sh_isNumber (kg κ) (d - 1) (by omega) σ1 (81 + 3 * k) (S_of hk4).1 (tS k) m hm24 (shV tN k) hH1 _) G d_N_pour_43 lk_N_285 (S_o (S_of hk4).1) ⟨by decide, rfl⟩ (S_l (S_of hk4).1) (by omega) rfl (Nat.le_of_ble_eq_true rfl) hx ?_
            refine x_if_eq G d_N_pour_46 (fun c46 => ?_) (fun c46 => ?_)
            · replace c46 := bI_0.mp c46
              have hN : ¬ (f < m ∧ shV tN k f ≠ NONEi) := by
                rintro ⟨z1, z2⟩
                unfold numB at c46
                rw [tnf, isO_nI (by omega) (by omega), decide_eq_true z1, decide_eq_false z2] at c46
                exact absurd c46 (by decide)
              have ep : pourN S m (shV tN k) (f + 1) = pourN S m (shV tN k) f := by rw [pourN, if_neg hN]
              refine x_iinc4 (v := nI (f + 1)) G d_N_pour_96 rfl hk (nI_1 _) ?_
              refine x_goto G d_N_pour_99 ?_
              have ih2 := ih (f + 1) σ1 o5 (by omega) (by omega) (by rw [ep]; exact hR1) hO1; rw [ep] at ih2; exact ih2
            · replace c46 := bI_n0.mp c46
              have hN : f < m ∧ shV tN k f ≠ NONEi := by
                unfold numB at c46
                rw [tnf, isO_nI (by omega) (by omega), Bool.and_eq_true, decide_eq_true_eq, Bool.not_eq_true', decide_eq_false_iff_not] at c46
                exact c46
              refine x_iconst (v := nI 0) G d_N_pour_49 rfl ?_
              refine x_bipush (v := nI 99) G d_N_pour_50 rfl ?_
              refine x_aload2 G d_N_pour_52 ?_
              refine m_getr G d_N_pour_53 fl_N_288 (S_o (S_of hk4).1) (S_l (S_of hk4).1) (S_r0 (S_of hk4).1) ?_
              refine x_iload4 G d_N_pour_56 ?_
              refine m_iald f G d_N_pour_58 (S_s1 (S_of hk4).1) rfl ⟨by omega, by first | decide | omega⟩ ?_
              rw [hH1.v (show f < 24 by omega) hN.2]
              refine x_min lm_N_156 G d_N_pour_59 (by omega) (Nat.le_of_ble_eq_true rfl) (Nat.le_of_eq hx.symm) ?_
              refine x_max lm_N_291 G d_N_pour_62 (by omega) (Nat.le_of_ble_eq_true rfl) (Nat.le_of_eq hx.symm) ?_
              rw [show (if nI 0 < (if shV tN k f < nI 99 then shV tN k f else nI 99) then (if shV tN k f < nI 99 then shV tN k f else nI 99) else nI 0) = clI (shV tN k f) from rfl]
              refine x_istore5 G d_N_pour_65 rfl hk ?_
              refine x_iload3 G d_N_pour_67 ?_
              refine x_aload0 G d_N_pour_68 ?_
              refine m_getr G d_N_pour_69 fl_N_43 rfl (by decide) rfl ?_
              refine m_getr G d_N_pour_72 fl_N_144 rfl (by decide) rfl ?_
              refine x_iconst (v := nI 1) G d_N_pour_75 rfl ?_
              refine m_aald 1 G d_N_pour_76 rfl (by decide) rfl ⟨by omega, by first | decide | omega⟩ rfl ?_
              refine x_iload4 G d_N_pour_77 ?_
              refine x_iload5 G d_N_pour_79 ?_
              refine m_callS_pi (p_N_exchange (kg κ) (d - 1) (by omega) σ1 (28 + 9 + 1) 9 f rfl (by omega) (by decide) _) G d_N_pour_81 lk_N_134 (by omega) rfl (Nat.le_of_ble_eq_true rfl) hx ?_
              rw [show σ1 (28 + 9 + 1) f = (pourN S m (shV tN k) f).2 (ixF f 1) from hR1.f 1 (by decide) (by omega)]
              obtain ⟨σ2, e2⟩ : ∃ z, z = updS σ1 (28 + 9 + 1) f (clI (shV tN k f)) := ⟨_, rfl⟩
              rw [← e2]
              have hR2 : WRel 28 (upd (pourN S m (shV tN k) f).2 (ixF f 1) (clI (shV tN k f))) σ2 := by rw [e2]; exact hR1.setf (by decide) (by omega) _
              have hO2 : OutW 28 σ σ2 := by rw [e2]; exact hO1.upd (by omega)
              refine x_iload5 G d_N_pour_84 ?_
              refine x_icmp_ne G d_N_pour_86 (fun c86 => ?_) (fun c86 => ?_)
              · have ep : pourN S m (shV tN k) (f + 1) = ((pourN S m (shV tN k) f).1 + 1, upd (pourN S m (shV tN k) f).2 (ixF f 1) (clI (shV tN k f))) := by rw [pourN, if_pos hN, if_neg c86]
                refine x_iconst (v := nI 1) G d_N_pour_93 rfl ?_
                refine x_iadd G d_N_pour_94 ?_
                rw [nI_add]
                refine x_istore3 G d_N_pour_95 rfl hk ?_
                refine x_iinc4 (v := nI (f + 1)) G d_N_pour_96 rfl hk (nI_1 _) ?_
                refine x_goto G d_N_pour_99 ?_
                have ih2 := ih (f + 1) σ2 (some (.int (clI (shV tN k f)))) (by omega) (by omega) (by rw [ep]; exact hR2) hO2; rw [ep] at ih2; exact ih2
              · have ep : pourN S m (shV tN k) (f + 1) = ((pourN S m (shV tN k) f).1 + 0, upd (pourN S m (shV tN k) f).2 (ixF f 1) (clI (shV tN k f))) := by rw [pourN, if_pos hN, if_pos c86]
                refine x_iconst (v := nI 0) G d_N_pour_89 rfl ?_
                refine x_goto G d_N_pour_90 ?_
                refine x_iadd G d_N_pour_94 ?_
                rw [nI_add]
                refine x_istore3 G d_N_pour_95 rfl hk ?_
                refine x_iinc4 (v := nI (f + 1)) G d_N_pour_96 rfl hk (nI_1 _) ?_
                refine x_goto G d_N_pour_99 ?_
                have ih2 := ih (f + 1) σ2 (some (.int (clI (shV tN k f)))) (by omega) (by omega) (by rw [ep]; exact hR2) hO2; rw [ep] at ih2; exact ih2
      exact hloop 10 0 σ none (by decide) (by decide) hR OutW.refl
    · replace c22 := bI_n0.mp c22
      replace c22 := of_decide_eq_true c22
      refine x_ldc G d_N_pour_25 kc_N_229 ?_
      exact m_iret E G d_N_pour_27 hx rfl rfl ⟨_, rfl, RC.same hR (by simp only [fPour, c5, tk, eq_true c22, Bool.and_true, Bool.true_and, Bool.and_false, Bool.false_and, Bool.or_true, Bool.true_or, Bool.or_false, Bool.false_or, Bool.not_true, Bool.not_false, Bool.false_eq_true, decide_true, decide_false, if_true, if_false])⟩
  · replace c5 := bI_0.mp c5
    refine x_ldc G d_N_pour_8 kc_N_102 ?_
    exact m_iret E G d_N_pour_10 hx rfl rfl ⟨_, rfl, RC.same hR (by simp only [fPour, c5, Bool.and_true, Bool.true_and, Bool.and_false, Bool.false_and, Bool.or_true, Bool.true_or, Bool.or_false, Bool.false_or, Bool.not_true, Bool.not_false, Bool.false_eq_true, decide_true, decide_false, if_true, if_false])⟩
theorem p_N_reads (g : CX) (d : Nat) (hd : 2 ≤ d) (σ : Sg) (S : Rw) (hO : CO S σ) (tS tZ tN : Nat → Int32) (hT : SO tS tZ tN σ) (sh : Int32) : RunM g d N_reads [.ref 0, .int sh] σ (PR (RC (fReads S tS tZ tN sh) σ)) := by
  refine RunM.of 2 (by decide +kernel) rfl ?_
  intro κ hg hx hk0 G E
  subst hg
  have hk : 4 ≤ kn κ := Nat.le_of_eq hk0.symm
  show X κ NC 0 [some (.ref 0), some (.int sh), none, none] [] (hv σ)
  obtain ⟨hR, hL, hI, hJ, h9⟩ := hO
  have hn8 := hI.n
  refine x_iload1 G d_N_reads_0 ?_
  refine x_iconst (v := nI 3) G d_N_reads_1 rfl ?_
  refine m_callS_pi (p_N_isUpTo (kg κ) (d - 1) (Nat.zero_le _) _ _ _) G d_N_reads_2 lk_N_98 (by omega) rfl (Nat.le_of_ble_eq_true rfl) hx ?_
  refine x_if_ne G d_N_reads_5 (fun c5 => ?_) (fun c5 => ?_)
  · replace c5 := bI_n0.mp c5
    obtain ⟨k, hk3, tk, rfl⟩ := upB_ex (by decide) c5
    have hk4 : k < 4 := by omega
    obtain ⟨hH, hso, hsi⟩ := hT k hk4
    obtain ⟨m, hm⟩ : ∃ z, z = tn (tZ k) := ⟨_, rfl⟩
    have hsi1 : tZ k = nI m := by rw [hm]; exact hsi.1
    have hm24 : m ≤ 24 := by rw [hm]; exact hsi.2
    rw [hsi1] at hH
    refine x_aload0 G d_N_reads_11 ?_
    refine m_getr G d_N_reads_12 fl_N_62 rfl (by decide) rfl ?_
    refine x_iload1 G d_N_reads_15 ?_
    refine m_aald k G d_N_reads_16 rfl (by decide) rfl ⟨by omega, by first | decide | omega⟩ (S_of hk4).2 ?_
    refine x_astore2 G d_N_reads_17 rfl hk ?_
    refine x_aload2 G d_N_reads_18 ?_
    refine m_callV_pi (p_Sh_isMissing (kg κ) (d - 1) (Nat.zero_le _) σ (81 + 3 * k) (S_of hk4).1) G d_N_reads_19 lk_N_225 (S_o (S_of hk4).1) ⟨by decide, rfl⟩ (S_l (S_of hk4).1) (by omega) rfl (Nat.le_of_ble_eq_true rfl) hx ?_
    rw [show σ (81 + 3 * k) 2 = tS k from hH.1]
    refine x_if_eq G d_N_reads_22 (fun c22 => ?_) (fun c22 => ?_)
    · replace c22 := bI_0.mp c22
      replace c22 : ¬ tS k = -1 := of_decide_eq_false c22
      refine x_iconst (v := nI 0) G d_N_reads_28 rfl ?_
      refine x_istore3 G d_N_reads_29 rfl hk ?_
      have hloop : ∀ (z i : Nat), i ≤ m → m < i + z → rdN S (shV tN k) i = -1 → X κ NC 30 [some (.ref 0), some (.int (nI k)), some (.ref (81 + 3 * k)), some (.int (nI i))] [] (hv σ) := by
        intro z
        induction z with
        | zero => intro i h1 h2; omega
        | succ z ih =>
          intro i hi1 hi2 hrd
          refine x_iload3 G d_N_reads_30 ?_
          refine x_aload2 G d_N_reads_31 ?_
          refine m_geti G d_N_reads_32 fl_N_294 (S_o (S_of hk4).1) (S_l (S_of hk4).1) (S_ij (S_of hk4).1 3 (by decide) (by decide)) ?_
          rw [show σ (81 + 3 * k) 3 = nI m from hH.2.1]
          refine x_icmp_ge G d_N_reads_35 (fun c35 => ?_) (fun c35 => ?_)
          · have him : i = m := by rw [nle (by omega) (by omega)] at c35; omega
            refine x_ldc G d_N_reads_85 kc_N_185 ?_
            exact m_iret E G d_N_reads_87 hx rfl rfl ⟨_, rfl, RC.same hR (by simp only [fReads, ← hm, c5, tk, c22, Bool.and_true, Bool.true_and, Bool.and_false, Bool.false_and, Bool.or_true, Bool.true_or, Bool.or_false, Bool.false_or, Bool.not_true, Bool.not_false, Bool.false_eq_true, decide_true, decide_false, if_true, if_false]; rw [← him, hrd]; rfl)⟩
          · have him : i < m := by rw [nle (by omega) (by omega)] at c35; omega
            have tni : tn (nI i) = i := tn_nI (by omega)
            refine x_aload2 G d_N_reads_38 ?_
            refine x_iload3 G d_N_reads_39 ?_
            refine m_callV_pi (p_Sh_isNumber (kg κ) (d - 1) (by omega) σ (81 + 3 * k) (S_of hk4).1 (tS k) m hm24 (shV tN k) hH _) G d_N_reads_40 lk_N_285 (S_o (S_of hk4).1) ⟨by decide, rfl⟩ (S_l (S_of hk4).1) (by omega) rfl (Nat.le_of_ble_eq_true rfl) hx ?_
            refine x_if_eq G d_N_reads_43 (fun c43 => ?_) (fun c43 => ?_)
            · replace c43 := bI_0.mp c43
              have hno : ¬ (shV tN k i ≠ NONEi ∧ (¬ i < tn (S 0) ∨ shV tN k i ≠ S (ixP i 4))) := by
                rintro ⟨z2, -⟩
                unfold numB at c43
                rw [tni, isO_nI (by omega) (by omega), decide_eq_true him, decide_eq_false z2] at c43
                exact absurd c43 (by decide)
              refine x_iinc3 (v := nI (i + 1)) G d_N_reads_79 rfl hk (nI_1 _) ?_
              refine x_goto G d_N_reads_82 ?_
              exact ih (i + 1) (by omega) (by omega) (by rw [rdN, if_pos hrd, if_neg hno])
            · replace c43 := bI_n0.mp c43
              have hN : shV tN k i ≠ NONEi := by
                unfold numB at c43
                rw [tni, isO_nI (by omega) (by omega), Bool.and_eq_true, decide_eq_true_eq, Bool.not_eq_true', decide_eq_false_iff_not] at c43
                exact c43.2
              refine x_aload0 G d_N_reads_46 ?_
              refine m_getr G d_N_reads_47 fl_N_43 rfl (by decide) rfl ?_
              refine x_iload3 G d_N_reads_50 ?_
              refine m_callV_pi (p_isOn (kg κ) (d - 1) _ 28 hw28 S hR _) G d_N_reads_51 lk_N_107 rfl ⟨by decide, rfl⟩ (by decide) (by omega) rfl (Nat.le_of_ble_eq_true rfl) hx ?_
              refine x_if_eq G d_N_reads_54 (fun c54 => ?_) (fun c54 => ?_)
              · replace c54 := bI_0.mp c54
                have hye : shV tN k i ≠ NONEi ∧ (¬ i < tn (S 0) ∨ shV tN k i ≠ S (ixP i 4)) := ⟨hN, Or.inl (fun z => by rw [hn8.1, isO_nI (by omega) (by omega), decide_eq_true z] at c54; exact absurd c54 (by decide))⟩
                refine x_iload3 G d_N_reads_77 ?_
                exact m_iret E G d_N_reads_78 hx rfl rfl ⟨_, rfl, RC.same hR (by simp only [fReads, ← hm, c5, tk, c22, Bool.and_true, Bool.true_and, Bool.and_false, Bool.false_and, Bool.or_true, Bool.true_or, Bool.or_false, Bool.false_or, Bool.not_true, Bool.not_false, Bool.false_eq_true, decide_true, decide_false, if_true, if_false]; rw [show rdN S (shV tN k) m = nI i from by have := rdN_stay (j := m - (i + 1)) (show rdN S (shV tN k) (i + 1) = nI i by rw [rdN, if_pos hrd, if_pos hye]) (nI_m1 (by omega)); rw [show i + 1 + (m - (i + 1)) = m by omega] at this; exact this, if_neg (nI_m1 (by omega))])⟩
              · replace c54 := bI_n0.mp c54
                have hin : i < tn (S 0) := by rw [hn8.1, isO_nI (by omega) (by omega), decide_eq_true_eq] at c54; exact c54
                refine x_aload2 G d_N_reads_57 ?_
                refine m_getr G d_N_reads_58 fl_N_288 (S_o (S_of hk4).1) (S_l (S_of hk4).1) (S_r0 (S_of hk4).1) ?_
                refine x_iload3 G d_N_reads_61 ?_
                refine m_iald i G d_N_reads_62 (S_s1 (S_of hk4).1) rfl ⟨by omega, by first | decide | omega⟩ ?_
                rw [hH.v (show i < 24 by omega) hN]
                refine x_aload0 G d_N_reads_63 ?_
                refine m_getr G d_N_reads_64 fl_N_43 rfl (by decide) rfl ?_
                refine m_getr G d_N_reads_67 fl_N_115 rfl (by decide) rfl ?_
                refine x_iconst (v := nI 4) G d_N_reads_70 rfl ?_
                refine m_aald 4 G d_N_reads_71 rfl (by decide) rfl ⟨by omega, by first | decide | omega⟩ rfl ?_
                refine x_iload3 G d_N_reads_72 ?_
                refine m_iald i G d_N_reads_73 rfl rfl ⟨by omega, by first | decide | omega⟩ ?_
                rw [show σ (28 + 2 + 4) i = S (ixP i 4) from hR.p 4 (by decide) (by omega)]
                refine x_icmp_eq G d_N_reads_74 (fun c74 => ?_) (fun c74 => ?_)
                · have hno : ¬ (shV tN k i ≠ NONEi ∧ (¬ i < tn (S 0) ∨ shV tN k i ≠ S (ixP i 4))) := fun z => z.2.elim (fun y => y hin) (fun y => y c74)
                  refine x_iinc3 (v := nI (i + 1)) G d_N_reads_79 rfl hk (nI_1 _) ?_
                  refine x_goto G d_N_reads_82 ?_
                  exact ih (i + 1) (by omega) (by omega) (by rw [rdN, if_pos hrd, if_neg hno])
                · have hye : shV tN k i ≠ NONEi ∧ (¬ i < tn (S 0) ∨ shV tN k i ≠ S (ixP i 4)) := ⟨hN, Or.inr c74⟩
                  refine x_iload3 G d_N_reads_77 ?_
                  exact m_iret E G d_N_reads_78 hx rfl rfl ⟨_, rfl, RC.same hR (by simp only [fReads, ← hm, c5, tk, c22, Bool.and_true, Bool.true_and, Bool.and_false, Bool.false_and, Bool.or_true, Bool.true_or, Bool.or_false, Bool.false_or, Bool.not_true, Bool.not_false, Bool.false_eq_true, decide_true, decide_false, if_true, if_false]; rw [show rdN S (shV tN k) m = nI i from by have := rdN_stay (j := m - (i + 1)) (show rdN S (shV tN k) (i + 1) = nI i by rw [rdN, if_pos hrd, if_pos hye]) (nI_m1 (by omega)); rw [show i + 1 + (m - (i + 1)) = m by omega] at this; exact this, if_neg (nI_m1 (by omega))])⟩
      exact hloop (m + 1) 0 (Nat.zero_le _) (by omega) rfl
    · replace c22 := bI_n0.mp c22
      replace c22 := of_decide_eq_true c22
      refine x_ldc G d_N_reads_25 kc_N_229 ?_
      exact m_iret E G d_N_reads_27 hx rfl rfl ⟨_, rfl, RC.same hR (by simp only [fReads, c5, tk, eq_true c22, Bool.and_true, Bool.true_and, Bool.and_false, Bool.false_and, Bool.or_true, Bool.true_or, Bool.or_false, Bool.false_or, Bool.not_true, Bool.not_false, Bool.false_eq_true, decide_true, decide_false, if_true, if_false])⟩
  · replace c5 := bI_0.mp c5
    refine x_ldc G d_N_reads_8 kc_N_102 ?_
    exact m_iret E G d_N_reads_10 hx rfl rfl ⟨_, rfl, RC.same hR (by simp only [fReads, c5, Bool.and_true, Bool.true_and, Bool.and_false, Bool.false_and, Bool.or_true, Bool.true_or, Bool.or_false, Bool.false_or, Bool.not_true, Bool.not_false, Bool.false_eq_true, decide_true, decide_false, if_true, if_false])⟩
theorem p_N_copy (g : CX) (d : Nat) (hd : 2 ≤ d) (σ : Sg) (tS tZ tN : Nat → Int32) (hT : SO tS tZ tN σ) (sh pl sh2 at9 mn : Int32) : RunM g d N_copy [.ref 0, .int sh, .int pl, .int sh2, .int at9, .int mn] σ (PR (RS (fCopy tS tZ tN sh pl sh2 at9 mn) σ)) := by
  refine RunM.of 2 (by decide +kernel) rfl ?_
  intro κ hg hx hk0 G E
  subst hg
  have hk : 8 ≤ kn κ := Nat.le_of_eq hk0.symm
  show X κ NC 0 [some (.ref 0), some (.int sh), some (.int pl), some (.int sh2), some (.int at9), some (.int mn), none, none] [] (hv σ)
  refine x_iload1 G d_N_copy_0 ?_
  refine x_iconst (v := nI 3) G d_N_copy_1 rfl ?_
  refine m_callS_pi (p_N_isUpTo (kg κ) (d - 1) (Nat.zero_le _) _ _ _) G d_N_copy_2 lk_N_98 (by omega) rfl (Nat.le_of_ble_eq_true rfl) hx ?_
  refine x_if_eq G d_N_copy_5 (fun c5 => ?_) (fun c5 => ?_)
  · replace c5 := bI_0.mp c5
    refine x_ldc G d_N_copy_16 kc_N_102 ?_
    exact m_iret E G d_N_copy_18 hx rfl rfl ⟨_, rfl, RS.none' (by simp only [fCopy, c5, Bool.and_true, Bool.true_and, Bool.and_false, Bool.false_and, Bool.or_true, Bool.true_or, Bool.or_false, Bool.false_or, Bool.not_true, Bool.not_false, Bool.false_eq_true, decide_true, decide_false, if_true, if_false])⟩
  · replace c5 := bI_n0.mp c5
    obtain ⟨k, hk3, tk, rfl⟩ := upB_ex (by decide) c5
    have hk4 : k < 4 := by omega
    obtain ⟨hH, hso, hsi⟩ := hT k hk4
    obtain ⟨m, hm⟩ : ∃ z, z = tn (tZ k) := ⟨_, rfl⟩
    have hsi1 : tZ k = nI m := by rw [hm]; exact hsi.1
    have hm24 : m ≤ 24 := by rw [hm]; exact hsi.2
    rw [hsi1] at hH
    refine x_iload3 G d_N_copy_8 ?_
    refine x_iconst (v := nI 3) G d_N_copy_9 rfl ?_
    refine m_callS_pi (p_N_isUpTo (kg κ) (d - 1) (Nat.zero_le _) _ _ _) G d_N_copy_10 lk_N_98 (by omega) rfl (Nat.le_of_ble_eq_true rfl) hx ?_
    refine x_if_ne G d_N_copy_13 (fun c13 => ?_) (fun c13 => ?_)
    · replace c13 := bI_n0.mp c13
      obtain ⟨k2, hk23, tk2, rfl⟩ := upB_ex (by decide) c13
      have hk24 : k2 < 4 := by omega
      obtain ⟨hH2, hso2, hsi2⟩ := hT k2 hk24
      obtain ⟨m2, hm2⟩ : ∃ z, z = tn (tZ k2) := ⟨_, rfl⟩
      have hsi12 : tZ k2 = nI m2 := by rw [hm2]; exact hsi2.1
      have hm242 : m2 ≤ 24 := by rw [hm2]; exact hsi2.2
      rw [hsi12] at hH2
      refine x_aload0 G d_N_copy_19 ?_
      refine m_getr G d_N_copy_20 fl_N_62 rfl (by decide) rfl ?_
      refine x_iload1 G d_N_copy_23 ?_
      refine m_aald k G d_N_copy_24 rfl (by decide) rfl ⟨by omega, by first | decide | omega⟩ (S_of hk4).2 ?_
      refine x_astore6 G d_N_copy_25 rfl hk ?_
      refine x_aload0 G d_N_copy_27 ?_
      refine m_getr G d_N_copy_28 fl_N_62 rfl (by decide) rfl ?_
      refine x_iload3 G d_N_copy_31 ?_
      refine m_aald k2 G d_N_copy_32 rfl (by decide) rfl ⟨by omega, by first | decide | omega⟩ (S_of hk24).2 ?_
      refine x_astore7 G d_N_copy_33 rfl hk ?_
      refine x_aload6 G d_N_copy_35 ?_
      refine m_callV_pi (p_Sh_isMissing (kg κ) (d - 1) (Nat.zero_le _) σ (81 + 3 * k) (S_of hk4).1) G d_N_copy_37 lk_N_225 (S_o (S_of hk4).1) ⟨by decide, rfl⟩ (S_l (S_of hk4).1) (by omega) rfl (Nat.le_of_ble_eq_true rfl) hx ?_
      rw [show σ (81 + 3 * k) 2 = tS k from hH.1]
      refine x_if_ne G d_N_copy_40 (fun c40 => ?_) (fun c40 => ?_)
      · replace c40 := bI_n0.mp c40
        replace c40 := of_decide_eq_true c40
        refine x_ldc G d_N_copy_51 kc_N_229 ?_
        exact m_iret E G d_N_copy_53 hx rfl rfl ⟨_, rfl, RS.none' (by simp only [fCopy, c5, tk, c13, tk2, eq_true c40, Bool.and_true, Bool.true_and, Bool.and_false, Bool.false_and, Bool.or_true, Bool.true_or, Bool.or_false, Bool.false_or, Bool.not_true, Bool.not_false, Bool.false_eq_true, decide_true, decide_false, if_true, if_false])⟩
      · replace c40 := bI_0.mp c40
        replace c40 : ¬ tS k = -1 := of_decide_eq_false c40
        refine x_aload7 G d_N_copy_43 ?_
        refine m_callV_pi (p_Sh_isMissing (kg κ) (d - 1) (Nat.zero_le _) σ (81 + 3 * k2) (S_of hk24).1) G d_N_copy_45 lk_N_225 (S_o (S_of hk24).1) ⟨by decide, rfl⟩ (S_l (S_of hk24).1) (by omega) rfl (Nat.le_of_ble_eq_true rfl) hx ?_
        rw [show σ (81 + 3 * k2) 2 = tS k2 from hH2.1]
        refine x_if_eq G d_N_copy_48 (fun c48 => ?_) (fun c48 => ?_)
        · replace c48 := bI_0.mp c48
          replace c48 : ¬ tS k2 = -1 := of_decide_eq_false c48
          refine x_aload6 G d_N_copy_54 ?_
          refine m_geti G d_N_copy_56 fl_N_277 (S_o (S_of hk4).1) (S_l (S_of hk4).1) (S_ij (S_of hk4).1 2 (by decide) (by decide)) ?_
          rw [show σ (81 + 3 * k) 2 = tS k from hH.1]
          refine x_aload7 G d_N_copy_59 ?_
          refine m_geti G d_N_copy_61 fl_N_277 (S_o (S_of hk24).1) (S_l (S_of hk24).1) (S_ij (S_of hk24).1 2 (by decide) (by decide)) ?_
          rw [show σ (81 + 3 * k2) 2 = tS k2 from hH2.1]
          refine x_icmp_eq G d_N_copy_64 (fun c64 => ?_) (fun c64 => ?_)
          · refine x_aload6 G d_N_copy_70 ?_
            refine x_iload2 G d_N_copy_72 ?_
            refine x_iload5 G d_N_copy_73 ?_
            refine m_callV_pi (p_Sh_hasPlaces (kg κ) (d - 1) (Nat.zero_le _) σ (81 + 3 * k) (S_of hk4).1 _ _) G d_N_copy_75 lk_N_297 (S_o (S_of hk4).1) ⟨by decide, rfl⟩ (S_l (S_of hk4).1) (by omega) rfl (Nat.le_of_ble_eq_true rfl) hx ?_
            rw [show σ (81 + 3 * k) 3 = tZ k by rw [hsi1]; exact hH.2.1]
            refine x_if_eq G d_N_copy_78 (fun c78 => ?_) (fun c78 => ?_)
            · replace c78 := bI_0.mp c78
              refine x_ldcw G d_N_copy_93 kc_N_276 ?_
              exact m_iret E G d_N_copy_96 hx rfl rfl ⟨_, rfl, RS.none' (by simp only [fCopy, c5, tk, c13, tk2, c40, c48, eq_true c64, c78, Bool.and_true, Bool.true_and, Bool.and_false, Bool.false_and, Bool.or_true, Bool.true_or, Bool.or_false, Bool.false_or, Bool.not_true, Bool.not_false, Bool.false_eq_true, decide_true, decide_false, if_true, if_false])⟩
            · replace c78 := bI_n0.mp c78
              refine x_aload7 G d_N_copy_81 ?_
              refine x_iload4 G d_N_copy_83 ?_
              refine x_iload5 G d_N_copy_85 ?_
              refine m_callV_pi (p_Sh_hasPlaces (kg κ) (d - 1) (Nat.zero_le _) σ (81 + 3 * k2) (S_of hk24).1 _ _) G d_N_copy_87 lk_N_297 (S_o (S_of hk24).1) ⟨by decide, rfl⟩ (S_l (S_of hk24).1) (by omega) rfl (Nat.le_of_ble_eq_true rfl) hx ?_
              rw [show σ (81 + 3 * k2) 3 = tZ k2 by rw [hsi12]; exact hH2.2.1]
              refine x_if_ne G d_N_copy_90 (fun c90 => ?_) (fun c90 => ?_)
              · replace c90 := bI_n0.mp c90
                obtain ⟨p, b, hpb, tp, tb, rfl, rfl⟩ := hpB_ex hm24 (by rw [← hsi1]; exact c78)
                obtain ⟨a, b9, hab, ta, tb9, rfl, hbb⟩ := hpB_ex hm242 (by rw [← hsi12]; exact c90)
                have hb9 : b9 = b := by rw [← tb9, ← hbb, tb]
                subst hb9
                refine x_aload7 G d_N_copy_97 ?_
                refine x_aload6 G d_N_copy_99 ?_
                refine x_iload2 G d_N_copy_101 ?_
                refine x_iload4 G d_N_copy_102 ?_
                refine x_iload5 G d_N_copy_104 ?_
                refine m_callV_pv (p_Sh_take (kg κ) (d - 1) (by omega) σ (81 + 3 * k2) (S_of hk24).1 (tS k2) (nI m2) (tS k) (nI m) (shV tN k2) (shV tN k) hH2 (81 + 3 * k) (S_of hk4).1 hH p a b9 (by omega) (by omega)) G d_N_copy_106 lk_N_300 (S_o (S_of hk24).1) ⟨by decide, rfl⟩ (S_l (S_of hk24).1) (by omega) rfl (Nat.le_of_ble_eq_true rfl) hx (fun σ1 ⟨g1, g2⟩ => ?_)
                refine x_iload5 G d_N_copy_109 ?_
                exact m_iret E G d_N_copy_111 hx rfl rfl ⟨_, rfl, RS.some' (k := k2) (so := tS k2) (si := tZ k2) (w := va_cpy (shV tN k) (shV tN k2) p a b9) (by simp only [fCopy, c5, tk, c13, tk2, c40, c48, eq_true c64, c78, c90, tp, tb, ta, Bool.and_true, Bool.true_and, Bool.and_false, Bool.false_and, Bool.or_true, Bool.true_or, Bool.or_false, Bool.false_or, Bool.not_true, Bool.not_false, Bool.false_eq_true, decide_true, decide_false, if_true, if_false]) (by rw [hsi12]; exact g1) (fun c _ y z => g2 c y z)⟩
              · replace c90 := bI_0.mp c90
                refine x_ldcw G d_N_copy_93 kc_N_276 ?_
                exact m_iret E G d_N_copy_96 hx rfl rfl ⟨_, rfl, RS.none' (by simp only [fCopy, c5, tk, c13, tk2, c40, c48, eq_true c64, c78, c90, Bool.and_true, Bool.true_and, Bool.and_false, Bool.false_and, Bool.or_true, Bool.true_or, Bool.or_false, Bool.false_or, Bool.not_true, Bool.not_false, Bool.false_eq_true, decide_true, decide_false, if_true, if_false])⟩
          · refine x_ldc G d_N_copy_67 kc_N_133 ?_
            exact m_iret E G d_N_copy_69 hx rfl rfl ⟨_, rfl, RS.none' (by simp only [fCopy, c5, tk, c13, tk2, c40, c48, c64, Bool.and_true, Bool.true_and, Bool.and_false, Bool.false_and, Bool.or_true, Bool.true_or, Bool.or_false, Bool.false_or, Bool.not_true, Bool.not_false, Bool.false_eq_true, decide_true, decide_false, if_true, if_false])⟩
        · replace c48 := bI_n0.mp c48
          replace c48 := of_decide_eq_true c48
          refine x_ldc G d_N_copy_51 kc_N_229 ?_
          exact m_iret E G d_N_copy_53 hx rfl rfl ⟨_, rfl, RS.none' (by simp only [fCopy, c5, tk, c13, tk2, c40, eq_true c48, Bool.and_true, Bool.true_and, Bool.and_false, Bool.false_and, Bool.or_true, Bool.true_or, Bool.or_false, Bool.false_or, Bool.not_true, Bool.not_false, Bool.false_eq_true, decide_true, decide_false, if_true, if_false])⟩
    · replace c13 := bI_0.mp c13
      refine x_ldc G d_N_copy_16 kc_N_102 ?_
      exact m_iret E G d_N_copy_18 hx rfl rfl ⟨_, rfl, RS.none' (by simp only [fCopy, c5, tk, c13, Bool.and_true, Bool.true_and, Bool.and_false, Bool.false_and, Bool.or_true, Bool.true_or, Bool.or_false, Bool.false_or, Bool.not_true, Bool.not_false, Bool.false_eq_true, decide_true, decide_false, if_true, if_false])⟩
theorem p_N_atHome (g : CX) (d : Nat) (hd : 7 ≤ d) (σ : Sg) (S : Rw) (hO : CO S σ) (tS tZ tN : Nat → Int32) (hT : SO tS tZ tN σ) (sh n what : Int32) : RunM g d N_atHome [.ref 0, .int sh, .int n, .int what] σ (PR (RC (fAtHome S tS tZ tN sh n what) σ)) := by
  refine RunM.of 4 (by decide +kernel) rfl ?_
  intro κ hg hx hk0 G E
  subst hg
  have hk : 8 ≤ kn κ := Nat.le_of_eq hk0.symm
  show X κ NC 0 [some (.ref 0), some (.int sh), some (.int n), some (.int what), none, none, none, none] [] (hv σ)
  obtain ⟨hR, hL, hI, hJ, h9⟩ := hO
  have hn8 := hI.n
  refine x_iload1 G d_N_atHome_0 ?_
  refine x_iconst (v := nI 3) G d_N_atHome_1 rfl ?_
  refine m_callS_pi (p_N_isUpTo (kg κ) (d - 1) (Nat.zero_le _) _ _ _) G d_N_atHome_2 lk_N_98 (by omega) rfl (Nat.le_of_ble_eq_true rfl) hx ?_
  refine x_if_eq G d_N_atHome_5 (fun c5 => ?_) (fun c5 => ?_)
  · replace c5 := bI_0.mp c5
    refine x_ldc G d_N_atHome_25 kc_N_102 ?_
    exact m_iret E G d_N_atHome_27 hx rfl rfl ⟨_, rfl, RC.same hR (by simp only [fAtHome, c5, Bool.and_true, Bool.true_and, Bool.and_false, Bool.false_and, Bool.or_true, Bool.true_or, Bool.or_false, Bool.false_or, Bool.not_true, Bool.not_false, Bool.false_eq_true, decide_true, decide_false, if_true, if_false])⟩
  · replace c5 := bI_n0.mp c5
    obtain ⟨k, hk3, tk, rfl⟩ := upB_ex (by decide) c5
    have hk4 : k < 4 := by omega
    obtain ⟨hH, hso, hsi⟩ := hT k hk4
    obtain ⟨m, hm⟩ : ∃ z, z = tn (tZ k) := ⟨_, rfl⟩
    have hsi1 : tZ k = nI m := by rw [hm]; exact hsi.1
    have hm24 : m ≤ 24 := by rw [hm]; exact hsi.2
    rw [hsi1] at hH
    refine x_iload2 G d_N_atHome_8 ?_
    refine x_bipush (v := nI 60) G d_N_atHome_9 rfl ?_
    refine m_callS_pi (p_N_isUpTo (kg κ) (d - 1) (Nat.zero_le _) _ _ _) G d_N_atHome_11 lk_N_98 (by omega) rfl (Nat.le_of_ble_eq_true rfl) hx ?_
    refine x_if_eq G d_N_atHome_14 (fun c14 => ?_) (fun c14 => ?_)
    · replace c14 := bI_0.mp c14
      refine x_ldc G d_N_atHome_25 kc_N_102 ?_
      exact m_iret E G d_N_atHome_27 hx rfl rfl ⟨_, rfl, RC.same hR (by simp only [fAtHome, c5, tk, c14, Bool.and_true, Bool.true_and, Bool.and_false, Bool.false_and, Bool.or_true, Bool.true_or, Bool.or_false, Bool.false_or, Bool.not_true, Bool.not_false, Bool.false_eq_true, decide_true, decide_false, if_true, if_false])⟩
    · replace c14 := bI_n0.mp c14
      obtain ⟨j, hj, tj, rfl⟩ := upB_ex (by decide) c14
      refine x_iload3 G d_N_atHome_17 ?_
      refine x_iconst (v := nI 1) G d_N_atHome_18 rfl ?_
      refine m_callS_pi (p_N_isUpTo (kg κ) (d - 1) (Nat.zero_le _) _ _ _) G d_N_atHome_19 lk_N_98 (by omega) rfl (Nat.le_of_ble_eq_true rfl) hx ?_
      refine x_if_ne G d_N_atHome_22 (fun c22 => ?_) (fun c22 => ?_)
      · replace c22 := bI_n0.mp c22
        refine x_aload0 G d_N_atHome_28 ?_
        refine m_getr G d_N_atHome_29 fl_N_62 rfl (by decide) rfl ?_
        refine x_iload1 G d_N_atHome_32 ?_
        refine m_aald k G d_N_atHome_33 rfl (by decide) rfl ⟨by omega, by first | decide | omega⟩ (S_of hk4).2 ?_
        refine m_callV_pi (p_Sh_isMissing (kg κ) (d - 1) (Nat.zero_le _) σ (81 + 3 * k) (S_of hk4).1) G d_N_atHome_34 lk_N_225 (S_o (S_of hk4).1) ⟨by decide, rfl⟩ (S_l (S_of hk4).1) (by omega) rfl (Nat.le_of_ble_eq_true rfl) hx ?_
        rw [show σ (81 + 3 * k) 2 = tS k from hH.1]
        refine x_if_eq G d_N_atHome_37 (fun c37 => ?_) (fun c37 => ?_)
        · replace c37 := bI_0.mp c37
          replace c37 : ¬ tS k = -1 := of_decide_eq_false c37
          refine x_iconst (v := (-1)) G d_N_atHome_43 rfl ?_
          refine x_istore4 G d_N_atHome_44 rfl hk ?_
          refine x_iconst (v := nI 0) G d_N_atHome_46 rfl ?_
          refine x_istore5 G d_N_atHome_47 rfl hk ?_
          refine x_iconst (v := nI 0) G d_N_atHome_49 rfl ?_
          refine x_istore6 G d_N_atHome_50 rfl hk ?_
          have hloop : ∀ (z i : Nat) (σ1 : Sg) (o7 : Option Value), i ≤ tn (S 0) → tn (S 0) < i + z → OutW 58 σ σ1 → X κ NC 52 [some (.ref 0), some (.int (nI k)), some (.int (nI j)), some (.int what), some (.int (hmN S (shV tN k) m j i).1), some (.int (hmN S (shV tN k) m j i).2), some (.int (nI i)), o7] [] (hv σ1) := by
            intro z
            induction z with
            | zero => intro i σ1 o7 h1 h2; omega
            | succ z ih =>
              intro i σ1 o7 hi1 hi2 hO1
              have hR1 : WRel 28 S σ1 := OutC.w58 hR hO1
              refine x_iload6 G d_N_atHome_52 ?_
              refine x_aload0 G d_N_atHome_54 ?_
              refine m_getr G d_N_atHome_55 fl_N_43 rfl (by decide) rfl ?_
              refine m_geti G d_N_atHome_58 fl_N_153 rfl (by decide) rfl ?_
              rw [show σ1 28 7 = nI (tn (S 0)) by rw [hR1.n]; exact hn8.1]
              refine x_icmp_ge G d_N_atHome_61 (fun c61 => ?_) (fun c61 => ?_)
              · replace c61 := Int32.not_lt.mpr c61
                have hin : i = tn (S 0) := by rw [nlt (by omega) (by omega)] at c61; omega
                refine x_iload4 G d_N_atHome_132 ?_
                refine x_iconst (v := (-1)) G d_N_atHome_134 rfl ?_
                refine x_icmp_ne G d_N_atHome_135 (fun c135 => ?_) (fun c135 => ?_)
                · rw [hin] at c135
                  refine x_iload3 G d_N_atHome_141 ?_
                  refine x_if_ne G d_N_atHome_142 (fun c142 => ?_) (fun c142 => ?_)
                  · refine x_iload5 G d_N_atHome_150 ?_
                    exact m_iret E G d_N_atHome_152 hx rfl rfl ⟨_, rfl, RC.mk' (S1 := S) (v1 := (hmN S (shV tN k) m j (tn (S 0))).2) (by simp only [fAtHome, ← hm, c5, tk, c14, tj, c22, c37, c135, c142, Bool.and_true, Bool.true_and, Bool.and_false, Bool.false_and, Bool.or_true, Bool.true_or, Bool.or_false, Bool.false_or, Bool.not_true, Bool.not_false, Bool.false_eq_true, decide_true, decide_false, if_true, if_false]) (by rw [hin]) (OutC.w58 hR hO1) (OutC.of (Or.inr rfl) hO1)⟩
                  · refine x_iload4 G d_N_atHome_145 ?_
                    refine x_goto G d_N_atHome_147 ?_
                    exact m_iret E G d_N_atHome_152 hx rfl rfl ⟨_, rfl, RC.mk' (S1 := S) (v1 := (hmN S (shV tN k) m j (tn (S 0))).1) (by simp only [fAtHome, ← hm, c5, tk, c14, tj, c22, c37, c135, eq_true c142, Bool.and_true, Bool.true_and, Bool.and_false, Bool.false_and, Bool.or_true, Bool.true_or, Bool.or_false, Bool.false_or, Bool.not_true, Bool.not_false, Bool.false_eq_true, decide_true, decide_false, if_true, if_false]) (by rw [hin]) (OutC.w58 hR hO1) (OutC.of (Or.inr rfl) hO1)⟩
                · rw [hin] at c135
                  refine x_ldc G d_N_atHome_138 kc_N_185 ?_
                  exact m_iret E G d_N_atHome_140 hx rfl rfl ⟨_, rfl, RC.mk' (S1 := S) (v1 := -1000000005) (by simp only [fAtHome, ← hm, c5, tk, c14, tj, c22, c37, eq_true c135, Bool.and_true, Bool.true_and, Bool.and_false, Bool.false_and, Bool.or_true, Bool.true_or, Bool.or_false, Bool.false_or, Bool.not_true, Bool.not_false, Bool.false_eq_true, decide_true, decide_false, if_true, if_false]) rfl (OutC.w58 hR hO1) (OutC.of (Or.inr rfl) hO1)⟩
              · replace c61 := Int32.not_le.mp c61
                have hin : i < tn (S 0) := by rw [nlt (by omega) (by omega)] at c61; omega
                refine x_aload0 G d_N_atHome_64 ?_
                refine m_getr G d_N_atHome_65 fl_N_50 rfl (by decide) rfl ?_
                refine x_aload0 G d_N_atHome_68 ?_
                refine m_getr G d_N_atHome_69 fl_N_43 rfl (by decide) rfl ?_
                refine m_callV_pv (p_Wo_become (kg κ) (d - 1) (by omega) σ1 58 28 hw58 hw28 (by decide) S hR1) G d_N_atHome_72 lk_N_186 rfl ⟨by decide, rfl⟩ (by decide) (by omega) rfl (Nat.le_of_ble_eq_true rfl) hx (fun σ2 ⟨g1, g2⟩ => ?_)
                refine x_aload0 G d_N_atHome_75 ?_
                refine m_getr G d_N_atHome_76 fl_N_50 rfl (by decide) rfl ?_
                refine x_iload2 G d_N_atHome_79 ?_
                refine x_iload6 G d_N_atHome_80 ?_
                refine m_callV_pv (p_Wo_pass (kg κ) (d - 1) (by omega) σ2 58 hw58 S g1 hI (lrel_of hw58 hI hL AgT.refl (hO1.trans g2)) j (by have := h9.2; omega) (nI i)) G d_N_atHome_82 lk_N_174 rfl ⟨by decide, rfl⟩ (by decide) (by omega) rfl (Nat.le_of_ble_eq_true rfl) hx (fun σ3 ⟨a1, a2, _⟩ => ?_)
                have hO3 : OutW 58 σ σ3 := (hO1.trans g2).trans a2
                have hH3 : SHC (81 + 3 * k) (tS k) (nI m) (shV tN k) σ3 := hH.frame (hO3 _ (by omega) (by omega)) (hO3 _ (by omega) (by omega)) (hO3 _ (by omega) (by omega))
                refine x_aload0 G d_N_atHome_85 ?_
                refine m_getr G d_N_atHome_86 fl_N_62 rfl (by decide) rfl ?_
                refine x_iload1 G d_N_atHome_89 ?_
                refine m_aald k G d_N_atHome_90 rfl (by decide) rfl ⟨by omega, by first | decide | omega⟩ (S_of hk4).2 ?_
                refine x_aload0 G d_N_atHome_91 ?_
                refine m_getr G d_N_atHome_92 fl_N_50 rfl (by decide) rfl ?_
                refine m_getr G d_N_atHome_95 fl_N_144 rfl (by decide) rfl ?_
                refine x_iconst (v := nI 1) G d_N_atHome_98 rfl ?_
                refine m_aald 1 G d_N_atHome_99 rfl (by decide) rfl ⟨by omega, by first | decide | omega⟩ rfl ?_
                refine m_callV_pi (p_Sh_differences (kg κ) (d - 1) (by omega) σ3 (81 + 3 * k) (S_of hk4).1 (tS k) m hm24 (shV tN k) hH3 (58 + 9 + 1) rfl) G d_N_atHome_100 lk_N_230 (S_o (S_of hk4).1) ⟨by decide, rfl⟩ (S_l (S_of hk4).1) (by omega) rfl (Nat.le_of_ble_eq_true rfl) hx ?_
                rw [dfN_cong (fun f hf => a1.f 1 (by decide) hf) m, show dfN (shV tN k) (fun f => passN S (nI i) j (ixF f 1)) m = hmV S (shV tN k) m j i from rfl]
                refine x_istore7 G d_N_atHome_103 rfl hk ?_
                refine x_iload4 G d_N_atHome_105 ?_
                refine x_iconst (v := (-1)) G d_N_atHome_107 rfl ?_
                refine x_icmp_eq G d_N_atHome_108 (fun c108 => ?_) (fun c108 => ?_)
                · have eh : hmN S (shV tN k) m j (i + 1) = (nI i, hmV S (shV tN k) m j i) := by rw [hmN, if_pos (Or.inl c108)]
                  refine x_iload6 G d_N_atHome_118 ?_
                  refine x_istore4 G d_N_atHome_120 rfl hk ?_
                  refine x_iload7 G d_N_atHome_122 ?_
                  refine x_istore5 G d_N_atHome_124 rfl hk ?_
                  refine x_iinc6 (v := nI (i + 1)) G d_N_atHome_126 rfl hk (nI_1 _) ?_
                  refine x_goto G d_N_atHome_129 ?_
                  have ih2 := ih (i + 1) σ3 (some (.int (hmV S (shV tN k) m j i))) (by omega) (by omega) hO3; rw [eh] at ih2; exact ih2
                · refine x_iload7 G d_N_atHome_111 ?_
                  refine x_iload5 G d_N_atHome_113 ?_
                  refine x_icmp_ge G d_N_atHome_115 (fun c115 => ?_) (fun c115 => ?_)
                  · replace c115 := Int32.not_lt.mpr c115
                    have eh : hmN S (shV tN k) m j (i + 1) = hmN S (shV tN k) m j i := by rw [hmN, if_neg (fun z => z.elim c108 c115)]
                    refine x_iinc6 (v := nI (i + 1)) G d_N_atHome_126 rfl hk (nI_1 _) ?_
                    refine x_goto G d_N_atHome_129 ?_
                    have ih2 := ih (i + 1) σ3 (some (.int (hmV S (shV tN k) m j i))) (by omega) (by omega) hO3; rw [eh] at ih2; exact ih2
                  · replace c115 := Int32.not_le.mp c115
                    have eh : hmN S (shV tN k) m j (i + 1) = (nI i, hmV S (shV tN k) m j i) := by rw [hmN, if_pos (Or.inr c115)]
                    refine x_iload6 G d_N_atHome_118 ?_
                    refine x_istore4 G d_N_atHome_120 rfl hk ?_
                    refine x_iload7 G d_N_atHome_122 ?_
                    refine x_istore5 G d_N_atHome_124 rfl hk ?_
                    refine x_iinc6 (v := nI (i + 1)) G d_N_atHome_126 rfl hk (nI_1 _) ?_
                    refine x_goto G d_N_atHome_129 ?_
                    have ih2 := ih (i + 1) σ3 (some (.int (hmV S (shV tN k) m j i))) (by omega) (by omega) hO3; rw [eh] at ih2; exact ih2
          exact hloop (tn (S 0) + 1) 0 σ none (Nat.zero_le _) (by omega) OutW.refl
        · replace c37 := bI_n0.mp c37
          replace c37 := of_decide_eq_true c37
          refine x_ldc G d_N_atHome_40 kc_N_229 ?_
          exact m_iret E G d_N_atHome_42 hx rfl rfl ⟨_, rfl, RC.same hR (by simp only [fAtHome, c5, tk, c14, tj, c22, eq_true c37, Bool.and_true, Bool.true_and, Bool.and_false, Bool.false_and, Bool.or_true, Bool.true_or, Bool.or_false, Bool.false_or, Bool.not_true, Bool.not_false, Bool.false_eq_true, decide_true, decide_false, if_true, if_false])⟩
      · replace c22 := bI_0.mp c22
        refine x_ldc G d_N_atHome_25 kc_N_102 ?_
        exact m_iret E G d_N_atHome_27 hx rfl rfl ⟨_, rfl, RC.same hR (by simp only [fAtHome, c5, tk, c14, tj, c22, Bool.and_true, Bool.true_and, Bool.and_false, Bool.false_and, Bool.or_true, Bool.true_or, Bool.or_false, Bool.false_or, Bool.not_true, Bool.not_false, Bool.false_eq_true, decide_true, decide_false, if_true, if_false])⟩
