/-! SHEETS: the model's side -/
def TO (tS tZ : Nat → Int32) : Prop := ∀ k, k < 4 → (tS k = -1 ∨ tS k = 0 ∨ tS k = 1) ∧ In (tZ k) 24
def MS (e : Int32 × ShE) (σ : Sg) : Int32 → Sg → Prop := fun v σ1 => v = e.1 ∧ match e.2 with
  | none => σ1 = σ
  | some (k, so, si, w) => σ1 117 = upd (σ 117) k so ∧ σ1 118 = upd (σ 118) k si ∧ (∀ i, i < 24 → σ1 119 (24 * k + i) = w i) ∧ (∀ j, (j < 24 * k ∨ 24 * k + 24 ≤ j) → σ1 119 j = σ 119 j) ∧ ∀ c, c ≠ 117 → c ≠ 118 → c ≠ 119 → c ≠ 132 → σ1 c = σ c
theorem MS.none' {e : Int32 × ShE} {σ : Sg} {v : Int32} (h : e = (v, none)) : MS e σ v σ := by rw [h]; exact ⟨rfl, rfl⟩
theorem MS.some' {e : Int32 × ShE} {σ σ1 : Sg} {v v1 : Int32} {k : Nat} {so si : Int32} {w : Nat → Int32} (h : e = (v1, some (k, so, si, w))) (hv : v = v1) (h1 : σ1 117 = upd (σ 117) k so) (h2 : σ1 118 = upd (σ 118) k si) (h3 : ∀ i, i < 24 → σ1 119 (24 * k + i) = w i) (h4 : ∀ j, (j < 24 * k ∨ 24 * k + 24 ≤ j) → σ1 119 j = σ 119 j) (h5 : ∀ c, c ≠ 117 → c ≠ 118 → c ≠ 119 → c ≠ 132 → σ1 c = σ c) : MS e σ v σ1 := by
  rw [h]; exact ⟨hv, h1, h2, h3, h4, h5⟩
theorem shortI (x : Int32) : (x <<< (nI 16 &&& 31)) >>> (nI 16 &&& 31) = x.toInt16.toInt32 := by
  have e : (nI 16 &&& 31) = (16 : Int32) := by decide
  rw [e, ← Int32.toInt_inj, pk_shr _ 16 16 (by decide), Int16.toInt_toInt32, Int32.toInt_toInt16]
  have h1 : (x <<< (16 : Int32)).toBitVec.toNat = x.toBitVec.toNat * 2 ^ 16 % 2 ^ 32 := pk_shl x 16 16 (by decide)
  have h2 : (x <<< (16 : Int32)).toInt = (x <<< (16 : Int32)).toBitVec.toInt := rfl
  have h3 : x.toInt = x.toBitVec.toInt := rfl
  rw [h2, h3, BitVec.toInt_eq_toNat_cond, h1, BitVec.toInt_eq_toNat_cond, Int.shiftRight_eq_div_pow]
  have hx := x.toBitVec.isLt
  generalize x.toBitVec.toNat = n at hx ⊢
  unfold Int.bmod
  dsimp only
  split <;> split <;> split <;> omega
theorem clI_w (v : Int32) : withB v (nI 99) = clI v := by
  unfold withB clI
  by_cases b : v < nI 99
  · rw [if_pos b]
    by_cases a : v < 0
    · rw [if_pos a, if_neg (Int32.lt_asymm (show v < nI 0 from a))]
    · rw [if_neg a, if_neg (Int32.lt_asymm b)]
      by_cases z : nI 0 < v
      · rw [if_pos z]
      · rw [if_neg z]
        exact Int32.le_antisymm (Int32.not_lt.mp z) (Int32.not_lt.mp a)
  · have h0 : nI 0 < nI 99 := by decide
    have b2 := Int32.not_lt.mp b
    have a : ¬ v < 0 := fun q => b (Int32.lt_trans q h0)
    rw [if_neg b, if_pos h0, if_neg a]
    by_cases c : nI 99 < v
    · rw [if_pos c]
    · rw [if_neg c]
      exact Int32.le_antisymm (Int32.not_lt.mp c) b2
theorem pour_end {S : Rw} {m : Nat} {v : Nat → Int32} {f : Nat} (h : m ≤ f) : ∀ j, pourN S m v (f + j) = pourN S m v f
  | 0 => rfl
  | j + 1 => by
    show pourN S m v (f + j + 1) = _
    rw [pourN, if_neg (by omega), pour_end h j]
theorem hmN_rng (S : Rw) (v : Nat → Int32) (m n : Nat) : ∀ p, p ≤ 8 → (hmN S v m n p).1 = -1 ∨ ∃ j, j < p ∧ (hmN S v m n p).1 = nI j
  | 0, _ => Or.inl rfl
  | p + 1, h => by
    unfold hmN
    split
    · exact Or.inr ⟨p, Nat.lt_succ_self p, rfl⟩
    · rcases hmN_rng S v m n p (by omega) with q | ⟨j, h1, h2⟩
      · exact Or.inl q
      · exact Or.inr ⟨j, by omega, h2⟩
theorem neg_iff {x : Int32} {n : Nat} (hn : n < 2 ^ 31) (h : x = -1 ∨ ∃ j, j < n ∧ x = nI j) : x < 0 ↔ x = -1 := by
  rcases h with h | ⟨j, hj, h⟩
  · rw [h]; exact ⟨fun _ => rfl, fun _ => by decide⟩
  · rw [h]; exact ⟨fun q => absurd q (nI_pos (by omega)), fun q => absurd q (nI_m1 (by omega))⟩
def VB (v : Nat → Int32) : Prop := ∀ i, i < 24 → v i = NONEi ∨ (-99999 ≤ (v i).toInt ∧ (v i).toInt ≤ 99999)
theorem off_ab {x : Int32} {c : Nat} (hc : c ≤ 99) (hx : -99999 ≤ x.toInt ∧ x.toInt ≤ 99999) : (if x < nI c then nI c - x else x - nI c) = abI (x - nI c) := by
  have hc2 : (nI c).toInt = c := nI_toInt (by omega)
  have e1 : (x - nI c).toInt = x.toInt - c := by
    rw [Int32.toInt_sub, hc2]
    exact Int.bmod_eq_of_le (by omega) (by omega)
  unfold abI
  by_cases h : x < nI c
  · rw [if_pos h, if_neg]
    · rw [← Int32.toInt_inj, Int32.toInt_sub, Int32.toInt_sub, e1, hc2]
      congr 1
      have : (0 : Int32).toInt = 0 := by decide
      omega
    · rw [Int32.le_iff_toInt_le, e1]
      rw [Int32.lt_iff_toInt_lt, hc2] at h
      have : (0 : Int32).toInt = 0 := by decide
      omega
  · rw [if_neg h, if_pos]
    rw [Int32.le_iff_toInt_le, e1]
    rw [Int32.lt_iff_toInt_lt, hc2] at h
    have : (0 : Int32).toInt = 0 := by decide
    omega
/-- what a call with one left out may write: the number of the one besides -/
def OutA (σ σ1 : Sg) : Prop := (∀ k, k ≠ 113 → k ≠ 114 → k ≠ 116 → k ≠ 125 → k ≠ 126 → k ≠ 127 → k ≠ 128 → k ≠ 130 → k ≠ 131 → k ≠ 132 → k ≠ 134 → σ1 k = σ k) ∧ ∀ j, j ≠ 13 → σ1 113 j = σ 113 j
theorem OutA.of {σ σ1 σ2 : Sg} (h : OutA σ σ1) (g : OutN σ1 σ2) : OutA σ σ2 :=
  ⟨fun k z a b c d e f i j l m => (g k a b c d e f i j l m).trans (h.1 k z a b c d e f i j l m), fun j hj => by rw [g 113 (by decide) (by decide) (by decide) (by decide) (by decide) (by decide) (by decide) (by decide) (by decide) (by decide)]; exact h.2 j hj⟩
theorem OutA.ab {σ σ1 : Sg} {x : Int32} (h : OutA σ σ1) : OutA σ (updS σ1 113 13 x) :=
  ⟨fun k z a b c d e f i j l m => by rw [updS_nk z]; exact h.1 k z a b c d e f i j l m, fun j hj => by rw [updS_ne (by omega)]; exact h.2 j hj⟩
theorem OutA.fin {σ σ1 : Sg} (h : OutA σ σ1) (h1 : σ1 113 13 = σ 113 13) : OutN σ σ1 := fun k a b c d e f i j l m => by
  by_cases z : k = 113
  · subst z
    funext j
    by_cases w : j = 13
    · rw [w]; exact h1
    · exact h.2 j w
  · exact h.1 k z a b c d e f i j l m
theorem p_M_isShe (g : CX) (d : Nat) (hd : 1 ≤ d) (σ : Sg) (x : Int32) : RunM g d M_isSheet [.int x] σ (PI (bI (upB x (nI 3))) σ) := by
  refine RunM.of 0 (by decide +kernel) rfl ?_
  intro κ hg hx hk0 G E
  subst hg
  have hk : 1 ≤ kn κ := Nat.le_of_eq hk0.symm
  show X κ NC 0 [some (.int x)] [] (hv σ)
  refine x_iload0 G d_M_isSheet_0 ?_
  refine x_i2l G d_M_isSheet_1 ?_
  refine x_lconst (v := 0) G d_M_isSheet_2 rfl ?_
  refine x_ldc2 G d_M_isSheet_3 kc_M_186 ?_
  refine m_callS_pi (p_M_isUp (kg κ) (d - 1) _ _ 3 _ _ _ rfl (by decide +kernel) (by decide +kernel)) G d_M_isSheet_6 lk_M_82 (by omega) rfl (Nat.le_of_ble_eq_true rfl) hx ?_
  exact m_iret E G d_M_isSheet_9 hx rfl (bI_z _) ⟨rfl, rfl⟩
theorem p_M_isSlo (g : CX) (d : Nat) (hd : 1 ≤ d) (σ : Sg) (x : Int32) : RunM g d M_isSlot [.int x] σ (PI (bI (upB x (nI 4))) σ) := by
  refine RunM.of 0 (by decide +kernel) rfl ?_
  intro κ hg hx hk0 G E
  subst hg
  have hk : 1 ≤ kn κ := Nat.le_of_eq hk0.symm
  show X κ NC 0 [some (.int x)] [] (hv σ)
  refine x_iload0 G d_M_isSlot_0 ?_
  refine x_i2l G d_M_isSlot_1 ?_
  refine x_lconst (v := 0) G d_M_isSlot_2 rfl ?_
  refine x_ldc2 G d_M_isSlot_3 kc_M_155 ?_
  refine m_callS_pi (p_M_isUp (kg κ) (d - 1) _ _ 4 _ _ _ rfl (by decide +kernel) (by decide +kernel)) G d_M_isSlot_6 lk_M_82 (by omega) rfl (Nat.le_of_ble_eq_true rfl) hx ?_
  exact m_iret E G d_M_isSlot_9 hx rfl (bI_z _) ⟨rfl, rfl⟩
theorem sort3 {x : Int32} (h : inB x (-1) (nI 1) = true) : x = -1 ∨ x = 0 ∨ x = 1 := by
  simp only [inB, Bool.and_eq_true, Bool.not_eq_true', decide_eq_false_iff_not, Int32.lt_iff_toInt_lt] at h
  have a : (-1 : Int32).toInt = -1 := by decide
  have b : (nI 1).toInt = 1 := by decide
  rw [a, b] at h
  rcases (show x.toInt = -1 ∨ x.toInt = 0 ∨ x.toInt = 1 by omega) with z | z | z
  · left; rw [← Int32.toInt_inj, z]; decide
  · right; left; rw [← Int32.toInt_inj, z]; decide
  · right; right; rw [← Int32.toInt_inj, z]; decide
theorem row_nk {σ σ1 : Sg} {k j a : Nat} {x : Int32} (e : σ1 = updS σ k j x) (h : a ≠ k) : σ1 a = σ a := by rw [e, updS_nk h]
theorem p_M_sheet (g : CX) (d : Nat) (hd : 2 ≤ d) (σ : Sg) (sh sort n : Int32) : RunM g d M_sheet [.ref 113, .int sh, .int sort, .int n] σ (PR (MS (fSheet sh sort n) σ)) := by
  refine RunM.of 1 (by decide +kernel) rfl ?_
  intro κ hg hx hk0 G E
  subst hg
  have hk : 5 ≤ kn κ := Nat.le_of_eq hk0.symm
  show X κ NC 0 [some (.ref 113), some (.int sh), some (.int sort), some (.int n), none] [] (hv σ)
  refine x_iload1 G d_M_sheet_0 ?_
  refine m_callS_pi (p_M_isShe (kg κ) (d - 1) (by omega) _ _) G d_M_sheet_1 lk_M_311 (by omega) rfl (Nat.le_of_ble_eq_true rfl) hx ?_
  refine x_if_eq G d_M_sheet_4 (fun c4 => ?_) (fun c4 => ?_)
  · replace c4 := bI_0.mp c4
    refine x_ldc G d_M_sheet_29 kc_M_98 ?_
    exact m_iret E G d_M_sheet_31 hx rfl rfl ⟨_, rfl, MS.none' (by simp only [fSheet, c4, Bool.and_true, Bool.true_and, Bool.and_false, Bool.false_and, Bool.or_true, Bool.true_or, Bool.or_false, Bool.false_or, Bool.not_true, Bool.not_false, Bool.false_eq_true, decide_true, decide_false, if_true, if_false])⟩
  · replace c4 := bI_n0.mp c4
    obtain ⟨k, hk3, tk, rfl⟩ := upB_ex (by decide) c4
    refine x_iload2 G d_M_sheet_7 ?_
    refine x_i2l G d_M_sheet_8 ?_
    refine x_ldc2 G d_M_sheet_9 kc_M_314 ?_
    refine x_lconst (v := 1) G d_M_sheet_12 rfl ?_
    refine m_callS_pi (p_M_isIn (kg κ) (d - 1) (Nat.zero_le _) _ _ (-1) (nI 1) _ _ _ rfl (by decide +kernel) (by decide +kernel)) G d_M_sheet_13 lk_M_82 (by omega) rfl (Nat.le_of_ble_eq_true rfl) hx ?_
    refine x_if_eq G d_M_sheet_16 (fun c16 => ?_) (fun c16 => ?_)
    · replace c16 := bI_0.mp c16
      refine x_ldc G d_M_sheet_29 kc_M_98 ?_
      exact m_iret E G d_M_sheet_31 hx rfl rfl ⟨_, rfl, MS.none' (by simp only [fSheet, c4, tk, c16, Bool.and_true, Bool.true_and, Bool.and_false, Bool.false_and, Bool.or_true, Bool.true_or, Bool.or_false, Bool.false_or, Bool.not_true, Bool.not_false, Bool.false_eq_true, decide_true, decide_false, if_true, if_false])⟩
    · replace c16 := bI_n0.mp c16
      have h1 : sort = -1 ∨ sort = 0 ∨ sort = 1 := sort3 c16
      have hsn : sort < 0 ↔ sort = -1 := by rcases h1 with z | z | z <;> rw [z] <;> decide
      refine x_iload2 G d_M_sheet_19 ?_
      refine x_if_lt G d_M_sheet_20 (fun c20 => ?_) (fun c20 => ?_)
      · have hm1 : sort = -1 := hsn.mp c20
        refine x_iload2 G d_M_sheet_32 ?_
        refine x_if_lt G d_M_sheet_33 (fun c33 => ?_) (fun c33 => ?_)
        · refine x_aload0 G d_M_sheet_44 ?_
          refine m_getr G d_M_sheet_45 fl_M_19 rfl (by decide) rfl ?_
          refine x_iload1 G d_M_sheet_48 ?_
          refine x_iload2 G d_M_sheet_49 ?_
          refine m_iast_n k G d_M_sheet_50 rfl rfl ⟨by omega, by first | decide | omega⟩ (fun σ1 e1 => ?_)
          refine x_aload0 G d_M_sheet_51 ?_
          refine m_getr G d_M_sheet_52 fl_M_22 rfl (by decide) rfl ?_
          refine x_iload1 G d_M_sheet_55 ?_
          refine x_iload2 G d_M_sheet_56 ?_
          refine x_if_ge G d_M_sheet_57 (fun c57 => ?_) (fun c57 => ?_)
          · exact absurd (hsn.mpr hm1) (Int32.not_lt.mpr c57)
          · refine x_iconst (v := nI 0) G d_M_sheet_60 rfl ?_
            refine x_goto G d_M_sheet_61 ?_
            refine m_iast_n k G d_M_sheet_65 rfl rfl ⟨by omega, by first | decide | omega⟩ (fun σ2 e2 => ?_)
            obtain ⟨sz, hsz⟩ : ∃ z, z = nI 0 := ⟨_, rfl⟩
            rw [← hsz] at e2
            have hf : fSheet (nI k) sort n = (sz, some (k, sort, sz, fun _ => 0)) := by rw [hsz]; simp only [fSheet, c4, tk, c16, Bool.and_true, if_true, eq_true hm1]; rw [hm1]
            refine x_iconst (v := nI 0) G d_M_sheet_66 rfl ?_
            refine x_istore4 G d_M_sheet_67 rfl hk ?_
            have hloop : ∀ (z i : Nat) (σ3 : Sg), i ≤ 24 → 24 < i + z → σ3 117 = upd (σ 117) k sort → σ3 118 = upd (σ 118) k sz → (∀ q, q < i → σ3 119 (24 * k + q) = 0) → (∀ j, (j < 24 * k ∨ 24 * k + 24 ≤ j) → σ3 119 j = σ 119 j) → (∀ c, c ≠ 117 → c ≠ 118 → c ≠ 119 → c ≠ 132 → σ3 c = σ c) → X κ NC 69 [some (.ref 113), some (.int (nI k)), some (.int sort), some (.int n), some (.int (nI i))] [] (hv σ3) := by
              intro z
              induction z with
              | zero => intro i σ3 h1 h2; omega
              | succ z ih =>
                intro i σ3 hi1 hi2 a1 a2 a3 a4 a5
                refine x_iload4 G d_M_sheet_69 ?_
                refine x_bipush (v := nI 24) G d_M_sheet_71 rfl ?_
                refine x_icmp_ge G d_M_sheet_73 (fun c73 => ?_) (fun c73 => ?_)
                · have hi24 : i = 24 := by rw [nle (by omega) (by omega)] at c73; omega
                  refine x_aload0 G d_M_sheet_95 ?_
                  refine m_getr G d_M_sheet_96 fl_M_22 rfl (by decide) rfl ?_
                  refine x_iload1 G d_M_sheet_99 ?_
                  refine m_iald k G d_M_sheet_100 rfl rfl ⟨by omega, by first | decide | omega⟩ ?_
                  exact m_iret E G d_M_sheet_101 hx rfl rfl ⟨_, rfl, MS.some' (k := k) (so := sort) (si := sz) (w := fun _ => 0) (v1 := sz) hf (by rw [a2, pk_us]) a1 a2 (fun q hq => a3 q (by omega)) a4 a5⟩
                · have hi24 : i < 24 := by rw [nle (by omega) (by omega)] at c73; omega
                  refine x_aload0 G d_M_sheet_76 ?_
                  refine m_getr G d_M_sheet_77 fl_M_25 rfl (by decide) rfl ?_
                  refine x_bipush (v := nI 24) G d_M_sheet_80 rfl ?_
                  refine x_iload1 G d_M_sheet_82 ?_
                  refine x_imul G d_M_sheet_83 ?_
                  refine x_iload4 G d_M_sheet_84 ?_
                  refine x_iadd G d_M_sheet_86 ?_
                  refine x_iconst (v := nI 0) G d_M_sheet_87 rfl ?_
                  refine m_iast_n (24 * k + i) G d_M_sheet_88 rfl (by rw [pk_mul, nI_add]) ⟨by omega, by first | decide | omega⟩ (fun σ4 e4 => ?_)
                  refine x_iinc4 (v := nI (i + 1)) G d_M_sheet_89 rfl hk (nI_1 _) ?_
                  refine x_goto G d_M_sheet_92 ?_
                  exact ih (i + 1) σ4 (by omega) (by omega) ((row_nk e4 (by decide)).trans a1) ((row_nk e4 (by decide)).trans a2) (fun q hq => if e : q = i then (by rw [e, e4, updS_at]; rfl) else (by rw [e4, updS_ne (by omega)]; exact a3 q (by omega))) (fun j hj => by rw [e4, updS_ne (by omega)]; exact a4 j hj) (fun c x1 x2 x3 x4 => (row_nk e4 x3).trans (a5 c x1 x2 x3 x4))
            exact hloop 25 0 σ2 (by decide) (by decide) (by rw [row_nk e2 (by decide), e1, updS_row]) (by rw [e2, updS_row, row_nk e1 (by decide)]) (fun q hq => absurd hq (Nat.not_lt_zero q)) (fun j _ => by rw [row_nk e2 (by decide), row_nk e1 (by decide)]) (fun c x1 x2 x3 x4 => (row_nk e2 x2).trans (row_nk e1 x1))
        · exact absurd (hsn.mpr hm1) c33
      · have hm1 : ¬ sort = -1 := fun z => c20 (hsn.mpr z)
        refine x_iload3 G d_M_sheet_23 ?_
        refine x_bipush (v := nI 24) G d_M_sheet_24 rfl ?_
        refine x_icmp_le G d_M_sheet_26 (fun c26 => ?_) (fun c26 => ?_)
        · have g26 : ¬ nI 24 < n := Int32.not_lt.mpr c26
          refine x_iload2 G d_M_sheet_32 ?_
          refine x_if_lt G d_M_sheet_33 (fun c33 => ?_) (fun c33 => ?_)
          · exact absurd c33 c20
          · refine x_iload3 G d_M_sheet_36 ?_
            refine x_if_ge G d_M_sheet_37 (fun c37 => ?_) (fun c37 => ?_)
            · have g37 : ¬ n < 0 := Int32.not_lt.mpr c37
              refine x_aload0 G d_M_sheet_44 ?_
              refine m_getr G d_M_sheet_45 fl_M_19 rfl (by decide) rfl ?_
              refine x_iload1 G d_M_sheet_48 ?_
              refine x_iload2 G d_M_sheet_49 ?_
              refine m_iast_n k G d_M_sheet_50 rfl rfl ⟨by omega, by first | decide | omega⟩ (fun σ1 e1 => ?_)
              refine x_aload0 G d_M_sheet_51 ?_
              refine m_getr G d_M_sheet_52 fl_M_22 rfl (by decide) rfl ?_
              refine x_iload1 G d_M_sheet_55 ?_
              refine x_iload2 G d_M_sheet_56 ?_
              refine x_if_ge G d_M_sheet_57 (fun c57 => ?_) (fun c57 => ?_)
              · refine x_iload3 G d_M_sheet_64 ?_
                refine m_iast_n k G d_M_sheet_65 rfl rfl ⟨by omega, by first | decide | omega⟩ (fun σ2 e2 => ?_)
                obtain ⟨sz, hsz⟩ : ∃ z, z = n := ⟨_, rfl⟩
                rw [← hsz] at e2
                have hf : fSheet (nI k) sort n = (sz, some (k, sort, sz, fun _ => 0)) := by rw [hsz]; simp only [fSheet, c4, tk, c16, Bool.and_true, if_true, hm1, if_false, g26, g37]
                refine x_iconst (v := nI 0) G d_M_sheet_66 rfl ?_
                refine x_istore4 G d_M_sheet_67 rfl hk ?_
                have hloop : ∀ (z i : Nat) (σ3 : Sg), i ≤ 24 → 24 < i + z → σ3 117 = upd (σ 117) k sort → σ3 118 = upd (σ 118) k sz → (∀ q, q < i → σ3 119 (24 * k + q) = 0) → (∀ j, (j < 24 * k ∨ 24 * k + 24 ≤ j) → σ3 119 j = σ 119 j) → (∀ c, c ≠ 117 → c ≠ 118 → c ≠ 119 → c ≠ 132 → σ3 c = σ c) → X κ NC 69 [some (.ref 113), some (.int (nI k)), some (.int sort), some (.int n), some (.int (nI i))] [] (hv σ3) := by
                  intro z
                  induction z with
                  | zero => intro i σ3 h1 h2; omega
                  | succ z ih =>
                    intro i σ3 hi1 hi2 a1 a2 a3 a4 a5
                    refine x_iload4 G d_M_sheet_69 ?_
                    refine x_bipush (v := nI 24) G d_M_sheet_71 rfl ?_
                    refine x_icmp_ge G d_M_sheet_73 (fun c73 => ?_) (fun c73 => ?_)
                    · have hi24 : i = 24 := by rw [nle (by omega) (by omega)] at c73; omega
                      refine x_aload0 G d_M_sheet_95 ?_
                      refine m_getr G d_M_sheet_96 fl_M_22 rfl (by decide) rfl ?_
                      refine x_iload1 G d_M_sheet_99 ?_
                      refine m_iald k G d_M_sheet_100 rfl rfl ⟨by omega, by first | decide | omega⟩ ?_
                      exact m_iret E G d_M_sheet_101 hx rfl rfl ⟨_, rfl, MS.some' (k := k) (so := sort) (si := sz) (w := fun _ => 0) (v1 := sz) hf (by rw [a2, pk_us]) a1 a2 (fun q hq => a3 q (by omega)) a4 a5⟩
                    · have hi24 : i < 24 := by rw [nle (by omega) (by omega)] at c73; omega
                      refine x_aload0 G d_M_sheet_76 ?_
                      refine m_getr G d_M_sheet_77 fl_M_25 rfl (by decide) rfl ?_
                      refine x_bipush (v := nI 24) G d_M_sheet_80 rfl ?_
                      refine x_iload1 G d_M_sheet_82 ?_
                      refine x_imul G d_M_sheet_83 ?_
                      refine x_iload4 G d_M_sheet_84 ?_
                      refine x_iadd G d_M_sheet_86 ?_
                      refine x_iconst (v := nI 0) G d_M_sheet_87 rfl ?_
                      refine m_iast_n (24 * k + i) G d_M_sheet_88 rfl (by rw [pk_mul, nI_add]) ⟨by omega, by first | decide | omega⟩ (fun σ4 e4 => ?_)
                      refine x_iinc4 (v := nI (i + 1)) G d_M_sheet_89 rfl hk (nI_1 _) ?_
                      refine x_goto G d_M_sheet_92 ?_
                      exact ih (i + 1) σ4 (by omega) (by omega) ((row_nk e4 (by decide)).trans a1) ((row_nk e4 (by decide)).trans a2) (fun q hq => if e : q = i then (by rw [e, e4, updS_at]; rfl) else (by rw [e4, updS_ne (by omega)]; exact a3 q (by omega))) (fun j hj => by rw [e4, updS_ne (by omega)]; exact a4 j hj) (fun c x1 x2 x3 x4 => (row_nk e4 x3).trans (a5 c x1 x2 x3 x4))
                exact hloop 25 0 σ2 (by decide) (by decide) (by rw [row_nk e2 (by decide), e1, updS_row]) (by rw [e2, updS_row, row_nk e1 (by decide)]) (fun q hq => absurd hq (Nat.not_lt_zero q)) (fun j _ => by rw [row_nk e2 (by decide), row_nk e1 (by decide)]) (fun c x1 x2 x3 x4 => (row_nk e2 x2).trans (row_nk e1 x1))
              · exact absurd (Int32.not_lt.mp c20) c57
            · have g37 : n < 0 := Int32.not_le.mp c37
              refine x_ldcw G d_M_sheet_40 kc_M_316 ?_
              exact m_iret E G d_M_sheet_43 hx rfl rfl ⟨_, rfl, MS.none' (by simp only [fSheet, c4, tk, c16, hm1, g26, g37, Bool.and_true, Bool.true_and, Bool.and_false, Bool.false_and, Bool.or_true, Bool.true_or, Bool.or_false, Bool.false_or, Bool.not_true, Bool.not_false, Bool.false_eq_true, decide_true, decide_false, if_true, if_false])⟩
        · have g26 : nI 24 < n := Int32.not_le.mp c26
          refine x_ldc G d_M_sheet_29 kc_M_98 ?_
          exact m_iret E G d_M_sheet_31 hx rfl rfl ⟨_, rfl, MS.none' (by simp only [fSheet, c4, tk, c16, hm1, g26, Bool.and_true, Bool.true_and, Bool.and_false, Bool.false_and, Bool.or_true, Bool.true_or, Bool.or_false, Bool.false_or, Bool.not_true, Bool.not_false, Bool.false_eq_true, decide_true, decide_false, if_true, if_false])⟩
theorem p_M_mark (g : CX) (d : Nat) (hd : 2 ≤ d) (σ : Sg) (tS tZ tN : Nat → Int32) (h7 : σ 117 = tS) (h8 : σ 118 = tZ) (h10 : σ 119 = tN) (hT : TO tS tZ) (sh pl v : Int32) : RunM g d M_mark [.ref 113, .int sh, .int pl, .int v] σ (PR (MS (fMark tS tZ tN sh pl v) σ)) := by
  refine RunM.of 0 (by decide +kernel) rfl ?_
  intro κ hg hx hk0 G E
  subst hg
  have hk : 4 ≤ kn κ := Nat.le_of_eq hk0.symm
  show X κ NC 0 [some (.ref 113), some (.int sh), some (.int pl), some (.int v)] [] (hv σ)
  refine x_iload1 G d_M_mark_0 ?_
  refine m_callS_pi (p_M_isShe (kg κ) (d - 1) (by omega) _ _) G d_M_mark_1 lk_M_311 (by omega) rfl (Nat.le_of_ble_eq_true rfl) hx ?_
  refine x_if_ne G d_M_mark_4 (fun c4 => ?_) (fun c4 => ?_)
  · replace c4 := bI_n0.mp c4
    obtain ⟨k, hk3, tk, rfl⟩ := upB_ex (by decide) c4
    obtain ⟨hso, hsi⟩ := hT k (by omega)
    obtain ⟨m, hm⟩ : ∃ z, z = tn (tZ k) := ⟨_, rfl⟩
    have hsi1 : tZ k = nI m := by rw [hm]; exact hsi.1
    have hm24 : m ≤ 24 := by rw [hm]; exact hsi.2
    have hsn : tS k < 0 ↔ tS k = -1 := by rcases hso with z | z | z <;> rw [z] <;> decide
    refine x_aload0 G d_M_mark_10 ?_
    refine m_getr G d_M_mark_11 fl_M_19 rfl (by decide) rfl ?_
    refine x_iload1 G d_M_mark_14 ?_
    refine m_iald k G d_M_mark_15 rfl rfl ⟨by omega, by first | decide | omega⟩ ?_
    rw [show σ 117 k = tS k by rw [h7]]
    refine x_if_ge G d_M_mark_16 (fun c16 => ?_) (fun c16 => ?_)
    · have g16 : ¬ tS k = -1 := fun z => absurd (hsn.mpr z) (Int32.not_lt.mpr c16)
      refine x_iload2 G d_M_mark_23 ?_
      refine x_i2l G d_M_mark_24 ?_
      refine x_lconst (v := 0) G d_M_mark_25 rfl ?_
      refine x_aload0 G d_M_mark_26 ?_
      refine m_getr G d_M_mark_27 fl_M_22 rfl (by decide) rfl ?_
      refine x_iload1 G d_M_mark_30 ?_
      refine m_iald k G d_M_mark_31 rfl rfl ⟨by omega, by first | decide | omega⟩ ?_
      rw [show σ 118 k = nI m by rw [h8]; exact hsi1]
      refine x_iconst (v := nI 1) G d_M_mark_32 rfl ?_
      refine x_isub G d_M_mark_33 ?_
      refine x_i2l G d_M_mark_34 ?_
      refine m_callS_pi (p_M_isIn (kg κ) (d - 1) (Nat.zero_le _) _ _ 0 (nI m - 1) _ _ _ rfl rfl rfl) G d_M_mark_35 lk_M_82 (by omega) rfl (Nat.le_of_ble_eq_true rfl) hx ?_
      rw [inB_O m (by omega), show nI m = tZ k from hsi1.symm]
      refine x_if_ne G d_M_mark_38 (fun c38 => ?_) (fun c38 => ?_)
      · replace c38 := bI_n0.mp c38
        obtain ⟨p, hp, tp, rfl⟩ := isO_ex (by omega) (show isO (nI m) pl = true by rw [← hsi1]; exact c38)
        refine x_aload0 G d_M_mark_45 ?_
        refine m_getr G d_M_mark_46 fl_M_19 rfl (by decide) rfl ?_
        refine x_iload1 G d_M_mark_49 ?_
        refine m_iald k G d_M_mark_50 rfl rfl ⟨by omega, by first | decide | omega⟩ ?_
        rw [show σ 117 k = tS k by rw [h7]]
        refine x_if_ne G d_M_mark_51 (fun c51 => ?_) (fun c51 => ?_)
        · refine x_aload0 G d_M_mark_63 ?_
          refine m_getr G d_M_mark_64 fl_M_19 rfl (by decide) rfl ?_
          refine x_iload1 G d_M_mark_67 ?_
          refine m_iald k G d_M_mark_68 rfl rfl ⟨by omega, by first | decide | omega⟩ ?_
          rw [show σ 117 k = tS k by rw [h7]]
          refine x_iconst (v := nI 1) G d_M_mark_69 rfl ?_
          refine x_icmp_ne G d_M_mark_70 (fun c70 => ?_) (fun c70 => ?_)
          · exact absurd (hso.resolve_left g16) (fun z => z.elim c51 c70)
          · refine x_iload3 G d_M_mark_73 ?_
            refine x_ldc G d_M_mark_74 kc_M_81 ?_
            refine x_icmp_eq G d_M_mark_76 (fun c76 => ?_) (fun c76 => ?_)
            · refine x_aload0 G d_M_mark_96 ?_
              refine m_getr G d_M_mark_97 fl_M_25 rfl (by decide) rfl ?_
              refine x_bipush (v := nI 24) G d_M_mark_100 rfl ?_
              refine x_iload1 G d_M_mark_102 ?_
              refine x_imul G d_M_mark_103 ?_
              refine x_iload2 G d_M_mark_104 ?_
              refine x_iadd G d_M_mark_105 ?_
              refine x_aload0 G d_M_mark_106 ?_
              refine m_getr G d_M_mark_107 fl_M_19 rfl (by decide) rfl ?_
              refine x_iload1 G d_M_mark_110 ?_
              refine m_iald k G d_M_mark_111 rfl rfl ⟨by omega, by first | decide | omega⟩ ?_
              rw [show σ 117 k = tS k by rw [h7]]
              refine x_if_ne G d_M_mark_112 (fun c112 => ?_) (fun c112 => ?_)
              · refine x_iload3 G d_M_mark_125 ?_
                refine m_iast_n (24 * k + p) G d_M_mark_126 rfl (by simp only [pk_mul, nI_add]) ⟨by omega, by first | decide | omega⟩ (fun σ1 e1 => ?_)
                refine x_iconst (v := nI 1) G d_M_mark_127 rfl ?_
                exact m_iret E G d_M_mark_128 hx rfl rfl ⟨_, rfl, MS.some' (k := k) (so := tS k) (si := tZ k) (w := upd (shV tN k) p (v)) (v1 := nI 1) (by simp only [fMark, c4, tk, g16, c38, tp, c51, eq_true c76, Bool.and_true, Bool.true_and, Bool.and_false, Bool.false_and, Bool.or_true, Bool.true_or, Bool.or_false, Bool.false_or, Bool.not_true, Bool.not_false, Bool.false_eq_true, decide_true, decide_false, if_true, if_false]) rfl (by rw [row_nk e1 (by decide), h7]; exact (upd_self rfl).symm) (by rw [row_nk e1 (by decide), h8]; exact (upd_self rfl).symm) (fun i hi => if e : i = p then (by rw [e, e1, updS_at, pk_us]) else (by rw [e1, updS_ne (by omega), pk_un e, h10]; rfl)) (fun j hj => by rw [e1, updS_ne (by omega)]) (fun c _ _ x3 _ => row_nk e1 x3)⟩
              · exact absurd c112 c51
            · refine x_iload3 G d_M_mark_79 ?_
              refine x_i2l G d_M_mark_80 ?_
              refine x_ldc2 G d_M_mark_81 kc_M_319 ?_
              refine x_ldc2 G d_M_mark_84 kc_M_321 ?_
              refine m_callS_pi (p_M_isIn (kg κ) (d - 1) (Nat.zero_le _) _ _ (-99999) 99999 _ _ _ rfl (by decide +kernel) (by decide +kernel)) G d_M_mark_87 lk_M_82 (by omega) rfl (Nat.le_of_ble_eq_true rfl) hx ?_
              refine x_if_ne G d_M_mark_90 (fun c90 => ?_) (fun c90 => ?_)
              · replace c90 := bI_n0.mp c90
                replace c90 : ¬ v < -99999 ∧ ¬ (99999 : Int32) < v := by simpa only [inB, Bool.and_eq_true, Bool.not_eq_true', decide_eq_false_iff_not] using c90
                refine x_aload0 G d_M_mark_96 ?_
                refine m_getr G d_M_mark_97 fl_M_25 rfl (by decide) rfl ?_
                refine x_bipush (v := nI 24) G d_M_mark_100 rfl ?_
                refine x_iload1 G d_M_mark_102 ?_
                refine x_imul G d_M_mark_103 ?_
                refine x_iload2 G d_M_mark_104 ?_
                refine x_iadd G d_M_mark_105 ?_
                refine x_aload0 G d_M_mark_106 ?_
                refine m_getr G d_M_mark_107 fl_M_19 rfl (by decide) rfl ?_
                refine x_iload1 G d_M_mark_110 ?_
                refine m_iald k G d_M_mark_111 rfl rfl ⟨by omega, by first | decide | omega⟩ ?_
                rw [show σ 117 k = tS k by rw [h7]]
                refine x_if_ne G d_M_mark_112 (fun c112 => ?_) (fun c112 => ?_)
                · refine x_iload3 G d_M_mark_125 ?_
                  refine m_iast_n (24 * k + p) G d_M_mark_126 rfl (by simp only [pk_mul, nI_add]) ⟨by omega, by first | decide | omega⟩ (fun σ1 e1 => ?_)
                  refine x_iconst (v := nI 1) G d_M_mark_127 rfl ?_
                  exact m_iret E G d_M_mark_128 hx rfl rfl ⟨_, rfl, MS.some' (k := k) (so := tS k) (si := tZ k) (w := upd (shV tN k) p (v)) (v1 := nI 1) (by simp only [fMark, c4, tk, g16, c38, tp, c51, c76, c90.1, c90.2, Bool.and_true, Bool.true_and, Bool.and_false, Bool.false_and, Bool.or_true, Bool.true_or, Bool.or_false, Bool.false_or, Bool.not_true, Bool.not_false, Bool.false_eq_true, decide_true, decide_false, if_true, if_false]) rfl (by rw [row_nk e1 (by decide), h7]; exact (upd_self rfl).symm) (by rw [row_nk e1 (by decide), h8]; exact (upd_self rfl).symm) (fun i hi => if e : i = p then (by rw [e, e1, updS_at, pk_us]) else (by rw [e1, updS_ne (by omega), pk_un e, h10]; rfl)) (fun j hj => by rw [e1, updS_ne (by omega)]) (fun c _ _ x3 _ => row_nk e1 x3)⟩
                · exact absurd c112 c51
              · replace c90 := bI_0.mp c90
                refine x_ldc G d_M_mark_93 kc_M_98 ?_
                exact m_iret E G d_M_mark_95 hx rfl rfl ⟨_, rfl, MS.none' (by
  have h90 : v < -99999 ∨ (99999 : Int32) < v := by
    simp only [inB, Bool.and_eq_false_iff, Bool.not_eq_false', decide_eq_true_eq] at c90
    exact c90
  simp only [fMark, c4, tk, g16, c38, tp, c51, c76, Bool.and_true, Bool.true_and, Bool.and_false, Bool.false_and, Bool.or_true, Bool.true_or, Bool.or_false, Bool.false_or, Bool.not_true, Bool.not_false, Bool.false_eq_true, decide_true, decide_false, if_true, if_false]
  rcases h90 with h90 | h90
  · rw [if_pos h90]
  · rw [if_pos h90, ite_self])⟩
        · refine x_iload3 G d_M_mark_54 ?_
          refine x_ldc G d_M_mark_55 kc_M_81 ?_
          refine x_icmp_ne G d_M_mark_57 (fun c57 => ?_) (fun c57 => ?_)
          · refine x_aload0 G d_M_mark_63 ?_
            refine m_getr G d_M_mark_64 fl_M_19 rfl (by decide) rfl ?_
            refine x_iload1 G d_M_mark_67 ?_
            refine m_iald k G d_M_mark_68 rfl rfl ⟨by omega, by first | decide | omega⟩ ?_
            rw [show σ 117 k = tS k by rw [h7]]
            refine x_iconst (v := nI 1) G d_M_mark_69 rfl ?_
            refine x_icmp_ne G d_M_mark_70 (fun c70 => ?_) (fun c70 => ?_)
            · refine x_aload0 G d_M_mark_96 ?_
              refine m_getr G d_M_mark_97 fl_M_25 rfl (by decide) rfl ?_
              refine x_bipush (v := nI 24) G d_M_mark_100 rfl ?_
              refine x_iload1 G d_M_mark_102 ?_
              refine x_imul G d_M_mark_103 ?_
              refine x_iload2 G d_M_mark_104 ?_
              refine x_iadd G d_M_mark_105 ?_
              refine x_aload0 G d_M_mark_106 ?_
              refine m_getr G d_M_mark_107 fl_M_19 rfl (by decide) rfl ?_
              refine x_iload1 G d_M_mark_110 ?_
              refine m_iald k G d_M_mark_111 rfl rfl ⟨by omega, by first | decide | omega⟩ ?_
              rw [show σ 117 k = tS k by rw [h7]]
              refine x_if_ne G d_M_mark_112 (fun c112 => ?_) (fun c112 => ?_)
              · exact absurd c51 c112
              · refine x_iload3 G d_M_mark_115 ?_
                refine x_bipush (v := nI 16) G d_M_mark_116 rfl ?_
                refine x_ishl G d_M_mark_118 ?_
                refine x_bipush (v := nI 16) G d_M_mark_119 rfl ?_
                refine x_ishr G d_M_mark_121 ?_
                rw [shortI]
                refine x_goto G d_M_mark_122 ?_
                refine m_iast_n (24 * k + p) G d_M_mark_126 rfl (by simp only [pk_mul, nI_add]) ⟨by omega, by first | decide | omega⟩ (fun σ1 e1 => ?_)
                refine x_iconst (v := nI 1) G d_M_mark_127 rfl ?_
                exact m_iret E G d_M_mark_128 hx rfl rfl ⟨_, rfl, MS.some' (k := k) (so := tS k) (si := tZ k) (w := upd (shV tN k) p (v.toInt16.toInt32)) (v1 := nI 1) (by simp only [fMark, c4, tk, g16, c38, tp, eq_true c51, c57, Bool.and_true, Bool.true_and, Bool.and_false, Bool.false_and, Bool.or_true, Bool.true_or, Bool.or_false, Bool.false_or, Bool.not_true, Bool.not_false, Bool.false_eq_true, decide_true, decide_false, if_true, if_false]) rfl (by rw [row_nk e1 (by decide), h7]; exact (upd_self rfl).symm) (by rw [row_nk e1 (by decide), h8]; exact (upd_self rfl).symm) (fun i hi => if e : i = p then (by rw [e, e1, updS_at, pk_us]) else (by rw [e1, updS_ne (by omega), pk_un e, h10]; rfl)) (fun j hj => by rw [e1, updS_ne (by omega)]) (fun c _ _ x3 _ => row_nk e1 x3)⟩
            · exact absurd (c51.symm.trans c70) (by decide)
          · refine x_ldc G d_M_mark_60 kc_M_144 ?_
            exact m_iret E G d_M_mark_62 hx rfl rfl ⟨_, rfl, MS.none' (by simp only [fMark, c4, tk, g16, c38, tp, eq_true c51, eq_true c57, Bool.and_true, Bool.true_and, Bool.and_false, Bool.false_and, Bool.or_true, Bool.true_or, Bool.or_false, Bool.false_or, Bool.not_true, Bool.not_false, Bool.false_eq_true, decide_true, decide_false, if_true, if_false])⟩
      · replace c38 := bI_0.mp c38
        refine x_ldcw G d_M_mark_41 kc_M_318 ?_
        exact m_iret E G d_M_mark_44 hx rfl rfl ⟨_, rfl, MS.none' (by simp only [fMark, c4, tk, g16, c38, Bool.and_true, Bool.true_and, Bool.and_false, Bool.false_and, Bool.or_true, Bool.true_or, Bool.or_false, Bool.false_or, Bool.not_true, Bool.not_false, Bool.false_eq_true, decide_true, decide_false, if_true, if_false])⟩
    · have g16 : tS k = -1 := hsn.mp (Int32.not_le.mp c16)
      refine x_ldcw G d_M_mark_19 kc_M_317 ?_
      exact m_iret E G d_M_mark_22 hx rfl rfl ⟨_, rfl, MS.none' (by simp only [fMark, c4, tk, eq_true g16, Bool.and_true, Bool.true_and, Bool.and_false, Bool.false_and, Bool.or_true, Bool.true_or, Bool.or_false, Bool.false_or, Bool.not_true, Bool.not_false, Bool.false_eq_true, decide_true, decide_false, if_true, if_false])⟩
  · replace c4 := bI_0.mp c4
    refine x_ldc G d_M_mark_7 kc_M_98 ?_
    exact m_iret E G d_M_mark_9 hx rfl rfl ⟨_, rfl, MS.none' (by simp only [fMark, c4, Bool.and_true, Bool.true_and, Bool.and_false, Bool.false_and, Bool.or_true, Bool.true_or, Bool.or_false, Bool.false_or, Bool.not_true, Bool.not_false, Bool.false_eq_true, decide_true, decide_false, if_true, if_false])⟩
theorem p_M_pour (g : CX) (d : Nat) (hd : 2 ≤ d) (σ : Sg) (S : Rw) (hO : MO S σ) (tS tZ tN : Nat → Int32) (h7 : σ 117 = tS) (h8 : σ 118 = tZ) (h10 : σ 119 = tN) (hT : TO tS tZ) (sh : Int32) : RunM g d M_pour [.ref 113, .int sh] σ (PR (MC (fPour S tS tZ tN sh) σ)) := by
  refine RunM.of 4 (by decide +kernel) rfl ?_
  intro κ hg hx hk0 G E
  subst hg
  have hk : 6 ≤ kn κ := Nat.le_of_eq hk0.symm
  show X κ NC 0 [some (.ref 113), some (.int sh), none, none, none, none] [] (hv σ)
  obtain ⟨hS, hI, hJ, h9, hab⟩ := hO
  have hn8 := hI.n
  refine x_iload1 G d_M_pour_0 ?_
  refine m_callS_pi (p_M_isShe (kg κ) (d - 1) (by omega) _ _) G d_M_pour_1 lk_M_311 (by omega) rfl (Nat.le_of_ble_eq_true rfl) hx ?_
  refine x_if_ne G d_M_pour_4 (fun c4 => ?_) (fun c4 => ?_)
  · replace c4 := bI_n0.mp c4
    obtain ⟨k, hk3, tk, rfl⟩ := upB_ex (by decide) c4
    obtain ⟨hso, hsi⟩ := hT k (by omega)
    obtain ⟨m, hm⟩ : ∃ z, z = tn (tZ k) := ⟨_, rfl⟩
    have hsi1 : tZ k = nI m := by rw [hm]; exact hsi.1
    have hm24 : m ≤ 24 := by rw [hm]; exact hsi.2
    have hsn : tS k < 0 ↔ tS k = -1 := by rcases hso with z | z | z <;> rw [z] <;> decide
    refine x_aload0 G d_M_pour_10 ?_
    refine m_getr G d_M_pour_11 fl_M_19 rfl (by decide) rfl ?_
    refine x_iload1 G d_M_pour_14 ?_
    refine m_iald k G d_M_pour_15 rfl rfl ⟨by omega, by first | decide | omega⟩ ?_
    rw [show σ 117 k = tS k by rw [h7]]
    refine x_if_ge G d_M_pour_16 (fun c16 => ?_) (fun c16 => ?_)
    · have g16 : ¬ tS k = -1 := fun z => absurd (hsn.mpr z) (Int32.not_lt.mpr c16)
      refine x_iconst (v := nI 0) G d_M_pour_23 rfl ?_
      refine x_istore2 G d_M_pour_24 rfl hk ?_
      refine x_iconst (v := nI 0) G d_M_pour_25 rfl ?_
      refine x_istore3 G d_M_pour_26 rfl hk ?_
      have hloop : ∀ (z f : Nat) (σ1 : Sg) (o4 o5 : Option Value), f ≤ 9 → 9 < f + z → σ1 114 = (pourN S m (shV tN k) f).2 → OutN σ σ1 → X κ NC 27 [some (.ref 113), some (.int (nI k)), some (.int (nI (pourN S m (shV tN k) f).1)), some (.int (nI f)), o4, o5] [] (hv σ1) := by
        intro z
        induction z with
        | zero => intro f σ1 o4 o5 h1 h2; omega
        | succ z ih =>
          intro f σ1 o4 o5 hf1 hf2 hR1 hO1
          have z8 : σ1 118 = tZ := by rw [hO1 118 (by decide) (by decide) (by decide) (by decide) (by decide) (by decide) (by decide) (by decide) (by decide) (by decide)]; exact h8
          have z10 : σ1 119 = tN := by rw [hO1 119 (by decide) (by decide) (by decide) (by decide) (by decide) (by decide) (by decide) (by decide) (by decide) (by decide)]; exact h10
          refine x_iload3 G d_M_pour_27 ?_
          refine x_aload0 G d_M_pour_28 ?_
          refine m_getr G d_M_pour_29 fl_M_22 rfl (by decide) rfl ?_
          refine x_iload1 G d_M_pour_32 ?_
          refine m_iald k G d_M_pour_33 rfl rfl ⟨by omega, by first | decide | omega⟩ ?_
          rw [show σ1 118 k = nI m by rw [z8]; exact hsi1]
          refine x_icmp_ge G d_M_pour_34 (fun c34 => ?_) (fun c34 => ?_)
          · have hmf : m ≤ f := (nle (by omega) (by omega)).mp c34
            have hend : pourN S m (shV tN k) f = pourN S m (shV tN k) 9 := by have := pour_end (S := S) (v := shV tN k) hmf (9 - f); rw [show f + (9 - f) = 9 by omega] at this; exact this.symm
            refine x_iload2 G d_M_pour_114 ?_
            exact m_iret E G d_M_pour_115 hx rfl rfl ⟨_, rfl, MC.mk' (S1 := (pourN S m (shV tN k) 9).2) (v1 := nI (pourN S m (shV tN k) 9).1) (by simp only [fPour, ← hm, c4, tk, g16, Bool.and_true, Bool.true_and, Bool.and_false, Bool.false_and, Bool.or_true, Bool.true_or, Bool.or_false, Bool.false_or, Bool.not_true, Bool.not_false, Bool.false_eq_true, decide_true, decide_false, if_true, if_false]) (by rw [hend]) (by rw [hR1, hend]) hO1⟩
          · have hfm : f < m := by rw [nle (by omega) (by omega)] at c34; omega
            refine x_iload3 G d_M_pour_37 ?_
            refine x_bipush (v := nI 9) G d_M_pour_38 rfl ?_
            refine x_icmp_ge G d_M_pour_40 (fun c40 => ?_) (fun c40 => ?_)
            · have hend : pourN S m (shV tN k) f = pourN S m (shV tN k) 9 := by rw [nle (by omega) (by omega)] at c40; rw [show f = 9 by omega]
              refine x_iload2 G d_M_pour_114 ?_
              exact m_iret E G d_M_pour_115 hx rfl rfl ⟨_, rfl, MC.mk' (S1 := (pourN S m (shV tN k) 9).2) (v1 := nI (pourN S m (shV tN k) 9).1) (by simp only [fPour, ← hm, c4, tk, g16, Bool.and_true, Bool.true_and, Bool.and_false, Bool.false_and, Bool.or_true, Bool.true_or, Bool.or_false, Bool.false_or, Bool.not_true, Bool.not_false, Bool.false_eq_true, decide_true, decide_false, if_true, if_false]) (by rw [hend]) (by rw [hR1, hend]) hO1⟩
            · have hf9 : f < 9 := by rw [nle (by omega) (by omega)] at c40; omega
              refine x_aload0 G d_M_pour_43 ?_
              refine m_getr G d_M_pour_44 fl_M_25 rfl (by decide) rfl ?_
              refine x_bipush (v := nI 24) G d_M_pour_47 rfl ?_
              refine x_iload1 G d_M_pour_49 ?_
              refine x_imul G d_M_pour_50 ?_
              refine x_iload3 G d_M_pour_51 ?_
              refine x_iadd G d_M_pour_52 ?_
              refine m_iald (24 * k + f) G d_M_pour_53 rfl (by rw [pk_mul, nI_add]) ⟨by omega, by first | decide | omega⟩ ?_
              rw [show σ1 119 (24 * k + f) = shV tN k f by rw [z10]; rfl]
              refine x_istore4 G d_M_pour_54 rfl hk ?_
              refine x_iload4 G d_M_pour_56 ?_
              refine x_ldc G d_M_pour_58 kc_M_81 ?_
              refine x_icmp_ne G d_M_pour_60 (fun c60 => ?_) (fun c60 => ?_)
              · refine x_iload4 G d_M_pour_72 ?_
                refine x_bipush (v := nI 99) G d_M_pour_74 rfl ?_
                refine m_callS_pi (p_M_within (kg κ) (d - 1) (by omega) _ _ _) G d_M_pour_76 lk_M_123 (by omega) rfl (Nat.le_of_ble_eq_true rfl) hx ?_
                rw [clI_w]
                refine x_istore5 G d_M_pour_79 rfl hk ?_
                refine x_iload2 G d_M_pour_81 ?_
                refine x_iload5 G d_M_pour_82 ?_
                refine x_aload0 G d_M_pour_84 ?_
                refine x_bipush (v := nI 7) G d_M_pour_85 rfl ?_
                refine x_iconst (v := nI 3) G d_M_pour_87 rfl ?_
                refine x_iload3 G d_M_pour_88 ?_
                refine x_imul G d_M_pour_89 ?_
                refine x_iadd G d_M_pour_90 ?_
                refine x_iconst (v := nI 1) G d_M_pour_91 rfl ?_
                refine x_iadd G d_M_pour_92 ?_
                refine x_iload5 G d_M_pour_93 ?_
                refine m_callV_pi (p_M_becomesE (kg κ) (d - 1) σ1 _ hR1 _ (ixF f 1) (by simp only [pk_mul, nI_add]; exact congrArg nI (by unfold ixF; omega)) (by unfold ixF; omega) _) G d_M_pour_95 lk_M_145 rfl ⟨by decide, rfl⟩ (by decide) (by omega) rfl (Nat.le_of_ble_eq_true rfl) hx ?_
                obtain ⟨σ2, e2⟩ : ∃ z, z = updS σ1 114 (ixF f 1) (clI (shV tN k f)) := ⟨_, rfl⟩
                rw [← e2]
                have hO2 : OutN σ σ2 := by rw [e2]; exact hO1.upd (by omega)
                have hR2 : σ2 114 = upd (pourN S m (shV tN k) f).2 (ixF f 1) (clI (shV tN k f)) := by rw [e2, updS_row, hR1]
                refine x_icmp_ne G d_M_pour_98 (fun c98 => ?_) (fun c98 => ?_)
                · have ep : pourN S m (shV tN k) (f + 1) = ((pourN S m (shV tN k) f).1 + 1, upd (pourN S m (shV tN k) f).2 (ixF f 1) (clI (shV tN k f))) := by rw [pourN, if_pos ⟨hfm, c60⟩, if_neg (fun z => c98 z.symm)]
                  refine x_iconst (v := nI 1) G d_M_pour_105 rfl ?_
                  refine x_iadd G d_M_pour_106 ?_
                  rw [nI_add]
                  refine x_istore2 G d_M_pour_107 rfl hk ?_
                  refine x_iinc3 (v := nI (f + 1)) G d_M_pour_108 rfl hk (nI_1 _) ?_
                  refine x_goto G d_M_pour_111 ?_
                  have ih2 := ih (f + 1) σ2 (some (.int (shV tN k f))) (some (.int (clI (shV tN k f)))) (by omega) (by omega) (by rw [ep]; exact hR2) hO2; rw [ep] at ih2; exact ih2
                · have ep : pourN S m (shV tN k) (f + 1) = ((pourN S m (shV tN k) f).1 + 0, upd (pourN S m (shV tN k) f).2 (ixF f 1) (clI (shV tN k f))) := by rw [pourN, if_pos ⟨hfm, c60⟩, if_pos c98.symm]
                  refine x_iconst (v := nI 0) G d_M_pour_101 rfl ?_
                  refine x_goto G d_M_pour_102 ?_
                  refine x_iadd G d_M_pour_106 ?_
                  rw [nI_add]
                  refine x_istore2 G d_M_pour_107 rfl hk ?_
                  refine x_iinc3 (v := nI (f + 1)) G d_M_pour_108 rfl hk (nI_1 _) ?_
                  refine x_goto G d_M_pour_111 ?_
                  have ih2 := ih (f + 1) σ2 (some (.int (shV tN k f))) (some (.int (clI (shV tN k f)))) (by omega) (by omega) (by rw [ep]; exact hR2) hO2; rw [ep] at ih2; exact ih2
              · have ep : pourN S m (shV tN k) (f + 1) = pourN S m (shV tN k) f := by rw [pourN, if_neg (fun z => z.2 c60)]
                refine x_aload0 G d_M_pour_63 ?_
                refine x_iload3 G d_M_pour_64 ?_
                refine x_iconst (v := nI 1) G d_M_pour_65 rfl ?_
                refine m_callV_pi (p_M_inS (kg κ) (d - 1) σ1 _ hR1 _ _ (by omega) (by decide)) G d_M_pour_66 lk_M_113 rfl ⟨by decide, rfl⟩ (by decide) (by omega) rfl (Nat.le_of_ble_eq_true rfl) hx ?_
                refine x_goto G d_M_pour_69 ?_
                refine x_istore5 G d_M_pour_79 rfl hk ?_
                refine x_iload2 G d_M_pour_81 ?_
                refine x_iload5 G d_M_pour_82 ?_
                refine x_aload0 G d_M_pour_84 ?_
                refine x_bipush (v := nI 7) G d_M_pour_85 rfl ?_
                refine x_iconst (v := nI 3) G d_M_pour_87 rfl ?_
                refine x_iload3 G d_M_pour_88 ?_
                refine x_imul G d_M_pour_89 ?_
                refine x_iadd G d_M_pour_90 ?_
                refine x_iconst (v := nI 1) G d_M_pour_91 rfl ?_
                refine x_iadd G d_M_pour_92 ?_
                refine x_iload5 G d_M_pour_93 ?_
                refine m_callV_pi (p_M_becomesE (kg κ) (d - 1) σ1 _ hR1 _ (ixF f 1) (by simp only [pk_mul, nI_add]; exact congrArg nI (by unfold ixF; omega)) (by unfold ixF; omega) _) G d_M_pour_95 lk_M_145 rfl ⟨by decide, rfl⟩ (by decide) (by omega) rfl (Nat.le_of_ble_eq_true rfl) hx ?_
                obtain ⟨σ2, e2⟩ : ∃ z, z = updS σ1 114 (ixF f 1) ((pourN S m (shV tN k) f).2 (ixF f 1)) := ⟨_, rfl⟩
                rw [← e2]
                have hO2 : OutN σ σ2 := by rw [e2]; exact hO1.upd (by omega)
                have hR2 : σ2 114 = upd (pourN S m (shV tN k) f).2 (ixF f 1) ((pourN S m (shV tN k) f).2 (ixF f 1)) := by rw [e2, updS_row, hR1]
                refine x_icmp_ne G d_M_pour_98 (fun c98 => ?_) (fun c98 => ?_)
                · exact absurd rfl c98
                · refine x_iconst (v := nI 0) G d_M_pour_101 rfl ?_
                  refine x_goto G d_M_pour_102 ?_
                  refine x_iadd G d_M_pour_106 ?_
                  rw [nI_add]
                  refine x_istore2 G d_M_pour_107 rfl hk ?_
                  refine x_iinc3 (v := nI (f + 1)) G d_M_pour_108 rfl hk (nI_1 _) ?_
                  refine x_goto G d_M_pour_111 ?_
                  have ih2 := ih (f + 1) σ2 (some (.int (shV tN k f))) (some (.int ((pourN S m (shV tN k) f).2 (ixF f 1)))) (by omega) (by omega) (by rw [ep, hR2]; exact upd_self rfl) hO2; rw [ep] at ih2; exact ih2
      exact hloop 10 0 σ _ _ (by decide) (by decide) hS OutN.refl
    · have g16 : tS k = -1 := hsn.mp (Int32.not_le.mp c16)
      refine x_ldcw G d_M_pour_19 kc_M_317 ?_
      exact m_iret E G d_M_pour_22 hx rfl rfl ⟨_, rfl, MC.same hS (by simp only [fPour, c4, tk, eq_true g16, Bool.and_true, Bool.true_and, Bool.and_false, Bool.false_and, Bool.or_true, Bool.true_or, Bool.or_false, Bool.false_or, Bool.not_true, Bool.not_false, Bool.false_eq_true, decide_true, decide_false, if_true, if_false])⟩
  · replace c4 := bI_0.mp c4
    refine x_ldc G d_M_pour_7 kc_M_98 ?_
    exact m_iret E G d_M_pour_9 hx rfl rfl ⟨_, rfl, MC.same hS (by simp only [fPour, c4, Bool.and_true, Bool.true_and, Bool.and_false, Bool.false_and, Bool.or_true, Bool.true_or, Bool.or_false, Bool.false_or, Bool.not_true, Bool.not_false, Bool.false_eq_true, decide_true, decide_false, if_true, if_false])⟩
theorem p_M_reads (g : CX) (d : Nat) (hd : 2 ≤ d) (σ : Sg) (S : Rw) (hO : MO S σ) (tS tZ tN : Nat → Int32) (h7 : σ 117 = tS) (h8 : σ 118 = tZ) (h10 : σ 119 = tN) (hT : TO tS tZ) (sh : Int32) : RunM g d M_reads [.ref 113, .int sh] σ (PR (MC (fReads S tS tZ tN sh) σ)) := by
  refine RunM.of 2 (by decide +kernel) rfl ?_
  intro κ hg hx hk0 G E
  subst hg
  have hk : 4 ≤ kn κ := Nat.le_of_eq hk0.symm
  show X κ NC 0 [some (.ref 113), some (.int sh), none, none] [] (hv σ)
  obtain ⟨hS, hI, hJ, h9, hab⟩ := hO
  have hn8 := hI.n
  refine x_iload1 G d_M_reads_0 ?_
  refine m_callS_pi (p_M_isShe (kg κ) (d - 1) (by omega) _ _) G d_M_reads_1 lk_M_311 (by omega) rfl (Nat.le_of_ble_eq_true rfl) hx ?_
  refine x_if_ne G d_M_reads_4 (fun c4 => ?_) (fun c4 => ?_)
  · replace c4 := bI_n0.mp c4
    obtain ⟨k, hk3, tk, rfl⟩ := upB_ex (by decide) c4
    obtain ⟨hso, hsi⟩ := hT k (by omega)
    obtain ⟨m, hm⟩ : ∃ z, z = tn (tZ k) := ⟨_, rfl⟩
    have hsi1 : tZ k = nI m := by rw [hm]; exact hsi.1
    have hm24 : m ≤ 24 := by rw [hm]; exact hsi.2
    have hsn : tS k < 0 ↔ tS k = -1 := by rcases hso with z | z | z <;> rw [z] <;> decide
    refine x_aload0 G d_M_reads_10 ?_
    refine m_getr G d_M_reads_11 fl_M_19 rfl (by decide) rfl ?_
    refine x_iload1 G d_M_reads_14 ?_
    refine m_iald k G d_M_reads_15 rfl rfl ⟨by omega, by first | decide | omega⟩ ?_
    rw [show σ 117 k = tS k by rw [h7]]
    refine x_if_ge G d_M_reads_16 (fun c16 => ?_) (fun c16 => ?_)
    · have g16 : ¬ tS k = -1 := fun z => absurd (hsn.mpr z) (Int32.not_lt.mpr c16)
      refine x_iconst (v := nI 0) G d_M_reads_23 rfl ?_
      refine x_istore2 G d_M_reads_24 rfl hk ?_
      have hloop : ∀ (z i : Nat) (o3 : Option Value), i ≤ m → m < i + z → rdN S (shV tN k) i = -1 → X κ NC 25 [some (.ref 113), some (.int (nI k)), some (.int (nI i)), o3] [] (hv σ) := by
        intro z
        induction z with
        | zero => intro i o3 h1 h2; omega
        | succ z ih =>
          intro i o3 hi1 hi2 hrd
          refine x_iload2 G d_M_reads_25 ?_
          refine x_aload0 G d_M_reads_26 ?_
          refine m_getr G d_M_reads_27 fl_M_22 rfl (by decide) rfl ?_
          refine x_iload1 G d_M_reads_30 ?_
          refine m_iald k G d_M_reads_31 rfl rfl ⟨by omega, by first | decide | omega⟩ ?_
          rw [show σ 118 k = nI m by rw [h8]; exact hsi1]
          refine x_icmp_ge G d_M_reads_32 (fun c32 => ?_) (fun c32 => ?_)
          · have him : i = m := by rw [nle (by omega) (by omega)] at c32; omega
            refine x_ldc G d_M_reads_81 kc_M_81 ?_
            exact m_iret E G d_M_reads_83 hx rfl rfl ⟨_, rfl, MC.same hS (by simp only [fReads, ← hm, c4, tk, g16, Bool.and_true, Bool.true_and, Bool.and_false, Bool.false_and, Bool.or_true, Bool.true_or, Bool.or_false, Bool.false_or, Bool.not_true, Bool.not_false, Bool.false_eq_true, decide_true, decide_false, if_true, if_false]; rw [← him, hrd]; rfl)⟩
          · have him : i < m := by rw [nle (by omega) (by omega)] at c32; omega
            refine x_aload0 G d_M_reads_35 ?_
            refine m_getr G d_M_reads_36 fl_M_25 rfl (by decide) rfl ?_
            refine x_bipush (v := nI 24) G d_M_reads_39 rfl ?_
            refine x_iload1 G d_M_reads_41 ?_
            refine x_imul G d_M_reads_42 ?_
            refine x_iload2 G d_M_reads_43 ?_
            refine x_iadd G d_M_reads_44 ?_
            refine m_iald (24 * k + i) G d_M_reads_45 rfl (by rw [pk_mul, nI_add]) ⟨by omega, by first | decide | omega⟩ ?_
            rw [show σ 119 (24 * k + i) = shV tN k i by rw [h10]; rfl]
            refine x_istore3 G d_M_reads_46 rfl hk ?_
            refine x_iload3 G d_M_reads_47 ?_
            refine x_ldc G d_M_reads_48 kc_M_81 ?_
            refine x_icmp_eq G d_M_reads_50 (fun c50 => ?_) (fun c50 => ?_)
            · have hno : ¬ (shV tN k i ≠ NONEi ∧ (¬ i < tn (S 0) ∨ shV tN k i ≠ S (ixP i 4))) := fun z => z.1 c50
              refine x_iinc2 (v := nI (i + 1)) G d_M_reads_75 rfl hk (nI_1 _) ?_
              refine x_goto G d_M_reads_78 ?_
              exact ih (i + 1) _ (by omega) (by omega) (by rw [rdN, if_pos hrd, if_neg hno])
            · refine x_iload2 G d_M_reads_53 ?_
              refine x_aload0 G d_M_reads_54 ?_
              refine m_getr G d_M_reads_55 fl_M_7 rfl (by decide) rfl ?_
              refine x_iconst (v := nI 0) G d_M_reads_58 rfl ?_
              refine m_iald 0 G d_M_reads_59 rfl rfl ⟨by omega, by first | decide | omega⟩ ?_
              rw [show σ 114 0 = nI (tn (S 0)) by rw [hS]; exact hn8.1]
              refine x_icmp_ge G d_M_reads_60 (fun c60 => ?_) (fun c60 => ?_)
              · have hye : shV tN k i ≠ NONEi ∧ (¬ i < tn (S 0) ∨ shV tN k i ≠ S (ixP i 4)) := ⟨c50, Or.inl (fun z => by rw [nle (by omega) (by omega)] at c60; omega)⟩
                refine x_iload2 G d_M_reads_73 ?_
                exact m_iret E G d_M_reads_74 hx rfl rfl ⟨_, rfl, MC.same hS (by simp only [fReads, ← hm, c4, tk, g16, Bool.and_true, Bool.true_and, Bool.and_false, Bool.false_and, Bool.or_true, Bool.true_or, Bool.or_false, Bool.false_or, Bool.not_true, Bool.not_false, Bool.false_eq_true, decide_true, decide_false, if_true, if_false]; rw [show rdN S (shV tN k) m = nI i from by have := rdN_stay (j := m - (i + 1)) (show rdN S (shV tN k) (i + 1) = nI i by rw [rdN, if_pos hrd, if_pos hye]) (nI_m1 (by omega)); rw [show i + 1 + (m - (i + 1)) = m by omega] at this; exact this, if_neg (nI_m1 (by omega))])⟩
              · have hin : i < tn (S 0) := by rw [nle (by omega) (by omega)] at c60; omega
                refine x_iload3 G d_M_reads_63 ?_
                refine x_aload0 G d_M_reads_64 ?_
                refine x_iload2 G d_M_reads_65 ?_
                refine x_iconst (v := nI 4) G d_M_reads_66 rfl ?_
                refine m_callV_pi (p_M_ofS (kg κ) (d - 1) _ S hS _ _ (by omega) (by decide)) G d_M_reads_67 lk_M_107 rfl ⟨by decide, rfl⟩ (by decide) (by omega) rfl (Nat.le_of_ble_eq_true rfl) hx ?_
                refine x_icmp_eq G d_M_reads_70 (fun c70 => ?_) (fun c70 => ?_)
                · have hno : ¬ (shV tN k i ≠ NONEi ∧ (¬ i < tn (S 0) ∨ shV tN k i ≠ S (ixP i 4))) := fun z => z.2.elim (fun y => y hin) (fun y => y c70)
                  refine x_iinc2 (v := nI (i + 1)) G d_M_reads_75 rfl hk (nI_1 _) ?_
                  refine x_goto G d_M_reads_78 ?_
                  exact ih (i + 1) _ (by omega) (by omega) (by rw [rdN, if_pos hrd, if_neg hno])
                · have hye : shV tN k i ≠ NONEi ∧ (¬ i < tn (S 0) ∨ shV tN k i ≠ S (ixP i 4)) := ⟨c50, Or.inr c70⟩
                  refine x_iload2 G d_M_reads_73 ?_
                  exact m_iret E G d_M_reads_74 hx rfl rfl ⟨_, rfl, MC.same hS (by simp only [fReads, ← hm, c4, tk, g16, Bool.and_true, Bool.true_and, Bool.and_false, Bool.false_and, Bool.or_true, Bool.true_or, Bool.or_false, Bool.false_or, Bool.not_true, Bool.not_false, Bool.false_eq_true, decide_true, decide_false, if_true, if_false]; rw [show rdN S (shV tN k) m = nI i from by have := rdN_stay (j := m - (i + 1)) (show rdN S (shV tN k) (i + 1) = nI i by rw [rdN, if_pos hrd, if_pos hye]) (nI_m1 (by omega)); rw [show i + 1 + (m - (i + 1)) = m by omega] at this; exact this, if_neg (nI_m1 (by omega))])⟩
      exact hloop (m + 1) 0 none (Nat.zero_le _) (by omega) rfl
    · have g16 : tS k = -1 := hsn.mp (Int32.not_le.mp c16)
      refine x_ldcw G d_M_reads_19 kc_M_317 ?_
      exact m_iret E G d_M_reads_22 hx rfl rfl ⟨_, rfl, MC.same hS (by simp only [fReads, c4, tk, eq_true g16, Bool.and_true, Bool.true_and, Bool.and_false, Bool.false_and, Bool.or_true, Bool.true_or, Bool.or_false, Bool.false_or, Bool.not_true, Bool.not_false, Bool.false_eq_true, decide_true, decide_false, if_true, if_false])⟩
  · replace c4 := bI_0.mp c4
    refine x_ldc G d_M_reads_7 kc_M_98 ?_
    exact m_iret E G d_M_reads_9 hx rfl rfl ⟨_, rfl, MC.same hS (by simp only [fReads, c4, Bool.and_true, Bool.true_and, Bool.and_false, Bool.false_and, Bool.or_true, Bool.true_or, Bool.or_false, Bool.false_or, Bool.not_true, Bool.not_false, Bool.false_eq_true, decide_true, decide_false, if_true, if_false])⟩
theorem p_M_atHome (g : CX) (d : Nat) (hd : 8 ≤ d) (σ : Sg) (S : Rw) (hO : MO S σ) (tS tZ tN : Nat → Int32) (h7 : σ 117 = tS) (h8 : σ 118 = tZ) (h10 : σ 119 = tN) (hT : TO tS tZ) (hvb : ∀ k, k < 4 → VB (shV tN k)) (sh n what : Int32) : RunM g d M_atHome [.ref 113, .int sh, .int n, .int what] σ (PR (MC (fAtHome S tS tZ tN sh n what) σ)) := by
  refine RunM.of 6 (by decide +kernel) rfl ?_
  intro κ hg hx hk0 G E
  subst hg
  have hk : 10 ≤ kn κ := Nat.le_of_eq hk0.symm
  show X κ NC 0 [some (.ref 113), some (.int sh), some (.int n), some (.int what), none, none, none, none, none, none] [] (hv σ)
  obtain ⟨hS, hI, hJ, h9, hab⟩ := hO
  have hn8 := hI.n
  refine x_iload1 G d_M_atHome_0 ?_
  refine m_callS_pi (p_M_isShe (kg κ) (d - 1) (by omega) _ _) G d_M_atHome_1 lk_M_311 (by omega) rfl (Nat.le_of_ble_eq_true rfl) hx ?_
  refine x_if_eq G d_M_atHome_4 (fun c4 => ?_) (fun c4 => ?_)
  · replace c4 := bI_0.mp c4
    refine x_ldc G d_M_atHome_29 kc_M_98 ?_
    exact m_iret E G d_M_atHome_31 hx rfl rfl ⟨_, rfl, MC.same hS (by simp only [fAtHome, c4, Bool.and_true, Bool.true_and, Bool.and_false, Bool.false_and, Bool.or_true, Bool.true_or, Bool.or_false, Bool.false_or, Bool.not_true, Bool.not_false, Bool.false_eq_true, decide_true, decide_false, if_true, if_false])⟩
  · replace c4 := bI_n0.mp c4
    obtain ⟨k, hk3, tk, rfl⟩ := upB_ex (by decide) c4
    obtain ⟨hso, hsi⟩ := hT k (by omega)
    obtain ⟨m, hm⟩ : ∃ z, z = tn (tZ k) := ⟨_, rfl⟩
    have hsi1 : tZ k = nI m := by rw [hm]; exact hsi.1
    have hm24 : m ≤ 24 := by rw [hm]; exact hsi.2
    have hsn : tS k < 0 ↔ tS k = -1 := by rcases hso with z | z | z <;> rw [z] <;> decide
    refine x_iload2 G d_M_atHome_7 ?_
    refine x_i2l G d_M_atHome_8 ?_
    refine x_lconst (v := 0) G d_M_atHome_9 rfl ?_
    refine x_ldc2 G d_M_atHome_10 kc_M_208 ?_
    refine m_callS_pi (p_M_isUp (kg κ) (d - 1) _ _ 60 _ _ _ rfl (by decide +kernel) (by decide +kernel)) G d_M_atHome_13 lk_M_82 (by omega) rfl (Nat.le_of_ble_eq_true rfl) hx ?_
    refine x_if_eq G d_M_atHome_16 (fun c16 => ?_) (fun c16 => ?_)
    · replace c16 := bI_0.mp c16
      refine x_ldc G d_M_atHome_29 kc_M_98 ?_
      exact m_iret E G d_M_atHome_31 hx rfl rfl ⟨_, rfl, MC.same hS (by simp only [fAtHome, c4, tk, c16, Bool.and_true, Bool.true_and, Bool.and_false, Bool.false_and, Bool.or_true, Bool.true_or, Bool.or_false, Bool.false_or, Bool.not_true, Bool.not_false, Bool.false_eq_true, decide_true, decide_false, if_true, if_false])⟩
    · replace c16 := bI_n0.mp c16
      obtain ⟨j, hj, tj, rfl⟩ := upB_ex (by decide) c16
      refine x_iload3 G d_M_atHome_19 ?_
      refine x_i2l G d_M_atHome_20 ?_
      refine x_lconst (v := 0) G d_M_atHome_21 rfl ?_
      refine x_lconst (v := 1) G d_M_atHome_22 rfl ?_
      refine m_callS_pi (p_M_isUp (kg κ) (d - 1) _ _ 1 _ _ _ rfl (by decide +kernel) (by decide +kernel)) G d_M_atHome_23 lk_M_82 (by omega) rfl (Nat.le_of_ble_eq_true rfl) hx ?_
      refine x_if_ne G d_M_atHome_26 (fun c26 => ?_) (fun c26 => ?_)
      · replace c26 := bI_n0.mp c26
        refine x_aload0 G d_M_atHome_32 ?_
        refine m_getr G d_M_atHome_33 fl_M_19 rfl (by decide) rfl ?_
        refine x_iload1 G d_M_atHome_36 ?_
        refine m_iald k G d_M_atHome_37 rfl rfl ⟨by omega, by first | decide | omega⟩ ?_
        rw [show σ 117 k = tS k by rw [h7]]
        refine x_if_ge G d_M_atHome_38 (fun c38 => ?_) (fun c38 => ?_)
        · have g38 : ¬ tS k = -1 := fun z => absurd (hsn.mpr z) (Int32.not_lt.mpr c38)
          refine x_aload0 G d_M_atHome_45 ?_
          refine m_callV_pv (p_M_laysBy (kg κ) (d - 1) (by omega) σ S hS) G d_M_atHome_46 lk_M_188 rfl ⟨by decide, rfl⟩ (by decide) (by omega) rfl (Nat.le_of_ble_eq_true rfl) hx (fun σ1 ⟨l1, l2⟩ => ?_)
          refine x_iconst (v := (-1)) G d_M_atHome_49 rfl ?_
          refine x_istore4 G d_M_atHome_50 rfl hk ?_
          refine x_iconst (v := nI 0) G d_M_atHome_52 rfl ?_
          refine x_istore5 G d_M_atHome_53 rfl hk ?_
          refine x_iconst (v := nI 0) G d_M_atHome_55 rfl ?_
          refine x_istore6 G d_M_atHome_56 rfl hk ?_
          have hloop : ∀ (z i : Nat) (σ1 : Sg) (o7 o8 o9 : Option Value), i ≤ tn (S 0) → tn (S 0) < i + z → σ1 114 = S → CloseOf S σ1 → OutA σ σ1 → X κ NC 58 [some (.ref 113), some (.int (nI k)), some (.int (nI j)), some (.int what), some (.int (hmN S (shV tN k) m j i).1), some (.int (hmN S (shV tN k) m j i).2), some (.int (nI i)), o7, o8, o9] [] (hv σ1) := by
            intro z
            induction z with
            | zero => intro i σ1 o7 o8 o9 h1 h2; omega
            | succ z ih =>
              intro i σ1 o7 o8 o9 hi1 hi2 hS1 l1 hA1
              have hrg := neg_iff (by decide) (hmN_rng S (shV tN k) m j i (by omega) |>.imp id (fun ⟨a, b, c⟩ => ⟨a, (by omega : a < 8), c⟩))
              refine x_iload6 G d_M_atHome_58 ?_
              refine x_aload0 G d_M_atHome_60 ?_
              refine m_getr G d_M_atHome_61 fl_M_7 rfl (by decide) rfl ?_
              refine x_iconst (v := nI 0) G d_M_atHome_64 rfl ?_
              refine m_iald 0 G d_M_atHome_65 rfl rfl ⟨by omega, by first | decide | omega⟩ ?_
              rw [show σ1 114 0 = nI (tn (S 0)) by rw [hS1]; exact hn8.1]
              refine x_icmp_ge G d_M_atHome_66 (fun c66 => ?_) (fun c66 => ?_)
              · have hin : i = tn (S 0) := by rw [nle (by omega) (by omega)] at c66; omega
                refine x_aload0 G d_M_atHome_186 ?_
                refine x_iconst (v := (-1)) G d_M_atHome_187 rfl ?_
                refine m_puti_n G d_M_atHome_188 fl_M_46 rfl (by decide) rfl rfl rfl (fun σ9 e9 => ?_)
                have hN9 : OutN σ σ9 := (show OutA σ σ9 by rw [e9]; exact hA1.ab).fin (by rw [e9, updS_at, hab])
                rw [hin] at hrg
                refine x_iload4 G d_M_atHome_191 ?_
                refine x_if_ge G d_M_atHome_193 (fun c193 => ?_) (fun c193 => ?_)
                · rw [hin] at c193
                  have g193 : ¬ (hmN S (shV tN k) m j (tn (S 0))).1 = -1 := fun z => absurd (hrg.mpr z) (Int32.not_lt.mpr c193)
                  refine x_iload3 G d_M_atHome_201 ?_
                  refine x_if_ne G d_M_atHome_202 (fun c202 => ?_) (fun c202 => ?_)
                  · refine x_iload5 G d_M_atHome_210 ?_
                    exact m_iret E G d_M_atHome_212 hx rfl rfl ⟨_, rfl, MC.mk' (S1 := S) (v1 := (hmN S (shV tN k) m j (tn (S 0))).2) (by simp only [fAtHome, ← hm, c4, tk, c16, tj, c26, g38, g193, c202, Bool.and_true, Bool.true_and, Bool.and_false, Bool.false_and, Bool.or_true, Bool.true_or, Bool.or_false, Bool.false_or, Bool.not_true, Bool.not_false, Bool.false_eq_true, decide_true, decide_false, if_true, if_false]) (by rw [hin]) (by rw [row_nk e9 (by decide)]; exact hS1) hN9⟩
                  · refine x_iload4 G d_M_atHome_205 ?_
                    refine x_goto G d_M_atHome_207 ?_
                    exact m_iret E G d_M_atHome_212 hx rfl rfl ⟨_, rfl, MC.mk' (S1 := S) (v1 := (hmN S (shV tN k) m j (tn (S 0))).1) (by simp only [fAtHome, ← hm, c4, tk, c16, tj, c26, g38, g193, eq_true c202, Bool.and_true, Bool.true_and, Bool.and_false, Bool.false_and, Bool.or_true, Bool.true_or, Bool.or_false, Bool.false_or, Bool.not_true, Bool.not_false, Bool.false_eq_true, decide_true, decide_false, if_true, if_false]) (by rw [hin]) (by rw [row_nk e9 (by decide)]; exact hS1) hN9⟩
                · rw [hin] at c193
                  have g193 : (hmN S (shV tN k) m j (tn (S 0))).1 = -1 := hrg.mp (Int32.not_le.mp c193)
                  refine x_ldc G d_M_atHome_196 kc_M_81 ?_
                  refine x_goto G d_M_atHome_198 ?_
                  exact m_iret E G d_M_atHome_212 hx rfl rfl ⟨_, rfl, MC.mk' (S1 := S) (v1 := -1000000005) (by simp only [fAtHome, ← hm, c4, tk, c16, tj, c26, g38, eq_true g193, Bool.and_true, Bool.true_and, Bool.and_false, Bool.false_and, Bool.or_true, Bool.true_or, Bool.or_false, Bool.false_or, Bool.not_true, Bool.not_false, Bool.false_eq_true, decide_true, decide_false, if_true, if_false]) rfl (by rw [row_nk e9 (by decide)]; exact hS1) hN9⟩
              · have hin : i < tn (S 0) := by rw [nle (by omega) (by omega)] at c66; omega
                refine x_aload0 G d_M_atHome_69 ?_
                refine x_iload6 G d_M_atHome_70 ?_
                refine m_puti_n G d_M_atHome_72 fl_M_46 rfl (by decide) rfl rfl rfl (fun σ2 e2 => ?_)
                refine x_aload0 G d_M_atHome_75 ?_
                refine x_iload2 G d_M_atHome_76 ?_
                refine m_callV_pv (p_M_goesOnMany (kg κ) (d - 1) (by omega) σ2 S (by rw [row_nk e2 (by decide)]; exact hS1) hI (nI i) (by rw [e2, updS_at]) j (by have := h9.2; omega)) G d_M_atHome_77 lk_M_191 rfl ⟨by decide, rfl⟩ (by decide) (by omega) rfl (Nat.le_of_ble_eq_true rfl) hx (fun σ3 ⟨g1, g2, _⟩ => ?_)
                obtain ⟨kI, k0, -, kz, kA, -⟩ := passN_keep hI (nI i) j (by have := h9.2; omega)
                have hA3 : OutA σ σ3 := (show OutA σ σ2 by rw [e2]; exact hA1.ab).of (OutN.of g2)
                have l3 : CloseOf S σ3 := fun c hc => by rw [g2 127 (by decide) (by decide) (by decide) (by decide), row_nk e2 (by decide)]; exact l1 c hc
                have z8 : σ3 118 = tZ := by rw [hA3.1 118 (by decide) (by decide) (by decide) (by decide) (by decide) (by decide) (by decide) (by decide) (by decide) (by decide) (by decide)]; exact h8
                have z10 : σ3 119 = tN := by rw [hA3.1 119 (by decide) (by decide) (by decide) (by decide) (by decide) (by decide) (by decide) (by decide) (by decide) (by decide) (by decide)]; exact h10
                refine x_iconst (v := nI 0) G d_M_atHome_80 rfl ?_
                refine x_istore7 G d_M_atHome_81 rfl hk ?_
                refine x_iconst (v := nI 0) G d_M_atHome_83 rfl ?_
                refine x_istore8 G d_M_atHome_84 rfl hk ?_
                have hdl : ∀ (z q : Nat) (o9 : Option Value), q ≤ m → m < q + z → X κ NC 86 [some (.ref 113), some (.int (nI k)), some (.int (nI j)), some (.int what), some (.int (hmN S (shV tN k) m j i).1), some (.int (hmN S (shV tN k) m j i).2), some (.int (nI i)), some (.int (dfN (shV tN k) (fun f => passN S (nI i) j (ixF f 1)) q)), some (.int (nI q)), o9] [] (hv σ3) := by
                  intro z
                  induction z with
                  | zero => intro q o9 h1 h2; omega
                  | succ z ih8 =>
                    intro q o9 hq1 hq2
                    refine x_iload8 G d_M_atHome_86 ?_
                    refine x_aload0 G d_M_atHome_88 ?_
                    refine m_getr G d_M_atHome_89 fl_M_22 rfl (by decide) rfl ?_
                    refine x_iload1 G d_M_atHome_92 ?_
                    refine m_iald k G d_M_atHome_93 rfl rfl ⟨by omega, by first | decide | omega⟩ ?_
                    rw [show σ3 118 k = nI m by rw [z8]; exact hsi1]
                    refine x_icmp_ge G d_M_atHome_94 (fun c94 => ?_) (fun c94 => ?_)
                    · have hqm : q = m := by rw [nle (by omega) (by omega)] at c94; omega
                      refine x_aload0 G d_M_atHome_156 ?_
                      refine m_callV_pv (p_M_laysBack (kg κ) (d - 1) (by omega) σ3 S _ g1 kA l3) G d_M_atHome_157 lk_M_194 rfl ⟨by decide, rfl⟩ (by decide) (by omega) rfl (Nat.le_of_ble_eq_true rfl) hx (fun σ4 ⟨b1, b2⟩ => ?_)
                      rw [hqm, show dfN (shV tN k) (fun f => passN S (nI i) j (ixF f 1)) m = hmV S (shV tN k) m j i from rfl]
                      have hA4 : OutA σ σ4 := hA3.of (fun c a _ _ _ _ _ _ _ _ _ => b2 c a)
                      have l4 : CloseOf S σ4 := fun c hc => by rw [b2 127 (by decide)]; exact l3 c hc
                      refine x_iload4 G d_M_atHome_160 ?_
                      refine x_if_lt G d_M_atHome_162 (fun c162 => ?_) (fun c162 => ?_)
                      · have eh : hmN S (shV tN k) m j (i + 1) = (nI i, hmV S (shV tN k) m j i) := by rw [hmN, if_pos (Or.inl (hrg.mp c162))]
                        refine x_iload6 G d_M_atHome_172 ?_
                        refine x_istore4 G d_M_atHome_174 rfl hk ?_
                        refine x_iload7 G d_M_atHome_176 ?_
                        refine x_istore5 G d_M_atHome_178 rfl hk ?_
                        refine x_iinc6 (v := nI (i + 1)) G d_M_atHome_180 rfl hk (nI_1 _) ?_
                        refine x_goto G d_M_atHome_183 ?_
                        have ih2 := fun o8 o9 => ih (i + 1) σ4 (some (.int (hmV S (shV tN k) m j i))) o8 o9 (by omega) (by omega) b1 l4 hA4; simp only [eh] at ih2; exact ih2 _ _
                      · refine x_iload7 G d_M_atHome_165 ?_
                        refine x_iload5 G d_M_atHome_167 ?_
                        refine x_icmp_ge G d_M_atHome_169 (fun c169 => ?_) (fun c169 => ?_)
                        · have eh : hmN S (shV tN k) m j (i + 1) = hmN S (shV tN k) m j i := by rw [hmN, if_neg (fun z => z.elim (fun y => c162 (hrg.mpr y)) (Int32.not_lt.mpr c169))]
                          refine x_iinc6 (v := nI (i + 1)) G d_M_atHome_180 rfl hk (nI_1 _) ?_
                          refine x_goto G d_M_atHome_183 ?_
                          have ih2 := fun o8 o9 => ih (i + 1) σ4 (some (.int (hmV S (shV tN k) m j i))) o8 o9 (by omega) (by omega) b1 l4 hA4; simp only [eh] at ih2; exact ih2 _ _
                        · have eh : hmN S (shV tN k) m j (i + 1) = (nI i, hmV S (shV tN k) m j i) := by rw [hmN, if_pos (Or.inr (Int32.not_le.mp c169))]
                          refine x_iload6 G d_M_atHome_172 ?_
                          refine x_istore4 G d_M_atHome_174 rfl hk ?_
                          refine x_iload7 G d_M_atHome_176 ?_
                          refine x_istore5 G d_M_atHome_178 rfl hk ?_
                          refine x_iinc6 (v := nI (i + 1)) G d_M_atHome_180 rfl hk (nI_1 _) ?_
                          refine x_goto G d_M_atHome_183 ?_
                          have ih2 := fun o8 o9 => ih (i + 1) σ4 (some (.int (hmV S (shV tN k) m j i))) o8 o9 (by omega) (by omega) b1 l4 hA4; simp only [eh] at ih2; exact ih2 _ _
                    · have hqm : q < m := by rw [nle (by omega) (by omega)] at c94; omega
                      refine x_aload0 G d_M_atHome_97 ?_
                      refine m_getr G d_M_atHome_98 fl_M_25 rfl (by decide) rfl ?_
                      refine x_bipush (v := nI 24) G d_M_atHome_101 rfl ?_
                      refine x_iload1 G d_M_atHome_103 ?_
                      refine x_imul G d_M_atHome_104 ?_
                      refine x_iload8 G d_M_atHome_105 ?_
                      refine x_iadd G d_M_atHome_107 ?_
                      refine m_iald (24 * k + q) G d_M_atHome_108 rfl (by rw [pk_mul, nI_add]) ⟨by omega, by first | decide | omega⟩ ?_
                      rw [show σ3 119 (24 * k + q) = shV tN k q by rw [z10]; rfl]
                      refine x_istore9 G d_M_atHome_109 rfl hk ?_
                      refine x_iload7 G d_M_atHome_111 ?_
                      refine x_iload9 G d_M_atHome_113 ?_
                      refine x_ldc G d_M_atHome_115 kc_M_81 ?_
                      refine x_icmp_ne G d_M_atHome_117 (fun c117 => ?_) (fun c117 => ?_)
                      · refine x_iload9 G d_M_atHome_124 ?_
                        refine x_iload8 G d_M_atHome_126 ?_
                        refine x_bipush (v := nI 9) G d_M_atHome_128 rfl ?_
                        refine x_icmp_ge G d_M_atHome_130 (fun c130 => ?_) (fun c130 => ?_)
                        · have h9q : ¬ q < 9 := by rw [nle (by omega) (by omega)] at c130; omega
                          refine x_iconst (v := nI 0) G d_M_atHome_143 rfl ?_
                          refine m_callS_pi (p_M_off (kg κ) (d - 1) (by omega) _ _ _) G d_M_atHome_144 lk_M_103 (by omega) rfl (Nat.le_of_ble_eq_true rfl) hx ?_
                          rw [off_ab (c := 0) (by decide) ((hvb k (by omega) q (by omega)).resolve_left c117)]
                          refine x_iadd G d_M_atHome_147 ?_
                          rw [show dfN (shV tN k) (fun f => passN S (nI i) j (ixF f 1)) q + abI (shV tN k q - nI 0) = dfN (shV tN k) (fun f => passN S (nI i) j (ixF f 1)) (q + 1) by rw [dfN, if_neg c117, if_neg h9q]]
                          refine x_istore7 G d_M_atHome_148 rfl hk ?_
                          refine x_iinc8 (v := nI (q + 1)) G d_M_atHome_150 rfl hk (nI_1 _) ?_
                          refine x_goto G d_M_atHome_153 ?_
                          exact ih8 (q + 1) _ (by omega) (by omega)
                        · have h9q : q < 9 := by rw [nle (by omega) (by omega)] at c130; omega
                          have hco := kI.corn h9q
                          refine x_aload0 G d_M_atHome_133 ?_
                          refine x_iload8 G d_M_atHome_134 ?_
                          refine x_iconst (v := nI 1) G d_M_atHome_136 rfl ?_
                          refine m_callV_pi (p_M_inS (kg κ) (d - 1) σ3 _ g1 _ _ (by omega) (by decide)) G d_M_atHome_137 lk_M_113 rfl ⟨by decide, rfl⟩ (by decide) (by omega) rfl (Nat.le_of_ble_eq_true rfl) hx ?_
                          refine x_goto G d_M_atHome_140 ?_
                          refine m_callS_pi (p_M_off (kg κ) (d - 1) (by omega) _ _ _) G d_M_atHome_144 lk_M_103 (by omega) rfl (Nat.le_of_ble_eq_true rfl) hx ?_
                          rw [hco.1, off_ab hco.2 ((hvb k (by omega) q (by omega)).resolve_left c117), ← hco.1]
                          refine x_iadd G d_M_atHome_147 ?_
                          rw [show dfN (shV tN k) (fun f => passN S (nI i) j (ixF f 1)) q + abI (shV tN k q - passN S (nI i) j (ixF q 1)) = dfN (shV tN k) (fun f => passN S (nI i) j (ixF f 1)) (q + 1) by rw [dfN, if_neg c117, if_pos h9q]]
                          refine x_istore7 G d_M_atHome_148 rfl hk ?_
                          refine x_iinc8 (v := nI (q + 1)) G d_M_atHome_150 rfl hk (nI_1 _) ?_
                          refine x_goto G d_M_atHome_153 ?_
                          exact ih8 (q + 1) _ (by omega) (by omega)
                      · refine x_iconst (v := nI 0) G d_M_atHome_120 rfl ?_
                        refine x_goto G d_M_atHome_121 ?_
                        refine x_iadd G d_M_atHome_147 ?_
                        rw [show dfN (shV tN k) (fun f => passN S (nI i) j (ixF f 1)) q + nI 0 = dfN (shV tN k) (fun f => passN S (nI i) j (ixF f 1)) (q + 1) by rw [dfN, if_pos c117]; exact Int32.add_zero _]
                        refine x_istore7 G d_M_atHome_148 rfl hk ?_
                        refine x_iinc8 (v := nI (q + 1)) G d_M_atHome_150 rfl hk (nI_1 _) ?_
                        refine x_goto G d_M_atHome_153 ?_
                        exact ih8 (q + 1) _ (by omega) (by omega)
                exact hdl (m + 1) 0 _ (Nat.zero_le _) (by omega)
          exact hloop (tn (S 0) + 1) 0 σ1 none none none (Nat.zero_le _) (by omega) (by rw [l2 114 (by decide)]; exact hS) l1 ⟨fun c _ _ _ _ _ e _ _ _ _ _ => l2 c e, fun c _ => by rw [l2 113 (by decide)]⟩
        · have g38 : tS k = -1 := hsn.mp (Int32.not_le.mp c38)
          refine x_ldcw G d_M_atHome_41 kc_M_317 ?_
          exact m_iret E G d_M_atHome_44 hx rfl rfl ⟨_, rfl, MC.same hS (by simp only [fAtHome, c4, tk, c16, tj, c26, eq_true g38, Bool.and_true, Bool.true_and, Bool.and_false, Bool.false_and, Bool.or_true, Bool.true_or, Bool.or_false, Bool.false_or, Bool.not_true, Bool.not_false, Bool.false_eq_true, decide_true, decide_false, if_true, if_false])⟩
      · replace c26 := bI_0.mp c26
        refine x_ldc G d_M_atHome_29 kc_M_98 ?_
        exact m_iret E G d_M_atHome_31 hx rfl rfl ⟨_, rfl, MC.same hS (by simp only [fAtHome, c4, tk, c16, tj, c26, Bool.and_true, Bool.true_and, Bool.and_false, Bool.false_and, Bool.or_true, Bool.true_or, Bool.or_false, Bool.false_or, Bool.not_true, Bool.not_false, Bool.false_eq_true, decide_true, decide_false, if_true, if_false])⟩
theorem hpB_of {a b m : Nat} (h : a + b ≤ m) (hm : m ≤ 24) : hpB (nI m) (nI a) (nI b) = true := by
  unfold hpB
  rw [decide_eq_false (nI_pos (by omega)), decide_eq_false (nI_nlt (by omega) (by omega)), decide_eq_false (nI_pos (by omega)), pk_sub (by omega), decide_eq_false (nI_nlt (by omega) (by omega))]
  rfl
theorem p_M_copy (g : CX) (d : Nat) (hd : 2 ≤ d) (σ : Sg) (tS tZ tN : Nat → Int32) (h7 : σ 117 = tS) (h8 : σ 118 = tZ) (h10 : σ 119 = tN) (hT : TO tS tZ) (sh pl sh2 at9 mn : Int32) : RunM g d M_copy [.ref 113, .int sh, .int pl, .int sh2, .int at9, .int mn] σ (PR (MS (fCopy tS tZ tN sh pl sh2 at9 mn) σ)) := by
  refine RunM.of 1 (by decide +kernel) rfl ?_
  intro κ hg hx hk0 G E
  subst hg
  have hk : 7 ≤ kn κ := Nat.le_of_eq hk0.symm
  show X κ NC 0 [some (.ref 113), some (.int sh), some (.int pl), some (.int sh2), some (.int at9), some (.int mn), none] [] (hv σ)
  refine x_iload1 G d_M_copy_0 ?_
  refine m_callS_pi (p_M_isShe (kg κ) (d - 1) (by omega) _ _) G d_M_copy_1 lk_M_311 (by omega) rfl (Nat.le_of_ble_eq_true rfl) hx ?_
  refine x_if_eq G d_M_copy_4 (fun c4 => ?_) (fun c4 => ?_)
  · replace c4 := bI_0.mp c4
    refine x_ldc G d_M_copy_14 kc_M_98 ?_
    exact m_iret E G d_M_copy_16 hx rfl rfl ⟨_, rfl, MS.none' (by simp only [fCopy, c4, Bool.and_true, Bool.true_and, Bool.and_false, Bool.false_and, Bool.or_true, Bool.true_or, Bool.or_false, Bool.false_or, Bool.not_true, Bool.not_false, Bool.false_eq_true, decide_true, decide_false, if_true, if_false])⟩
  · replace c4 := bI_n0.mp c4
    obtain ⟨k, hk3, tk, rfl⟩ := upB_ex (by decide) c4
    obtain ⟨hso, hsi⟩ := hT k (by omega)
    obtain ⟨m, hm⟩ : ∃ z, z = tn (tZ k) := ⟨_, rfl⟩
    have hsi1 : tZ k = nI m := by rw [hm]; exact hsi.1
    have hm24 : m ≤ 24 := by rw [hm]; exact hsi.2
    have hsn : tS k < 0 ↔ tS k = -1 := by rcases hso with z | z | z <;> rw [z] <;> decide
    refine x_iload3 G d_M_copy_7 ?_
    refine m_callS_pi (p_M_isShe (kg κ) (d - 1) (by omega) _ _) G d_M_copy_8 lk_M_311 (by omega) rfl (Nat.le_of_ble_eq_true rfl) hx ?_
    refine x_if_ne G d_M_copy_11 (fun c11 => ?_) (fun c11 => ?_)
    · replace c11 := bI_n0.mp c11
      obtain ⟨k2, hk23, tk2, rfl⟩ := upB_ex (by decide) c11
      obtain ⟨hso2, hsi2⟩ := hT k2 (by omega)
      obtain ⟨m2, hm2⟩ : ∃ z, z = tn (tZ k2) := ⟨_, rfl⟩
      have hsi12 : tZ k2 = nI m2 := by rw [hm2]; exact hsi2.1
      have hm242 : m2 ≤ 24 := by rw [hm2]; exact hsi2.2
      have hsn2 : tS k2 < 0 ↔ tS k2 = -1 := by rcases hso2 with z | z | z <;> rw [z] <;> decide
      refine x_aload0 G d_M_copy_17 ?_
      refine m_getr G d_M_copy_18 fl_M_19 rfl (by decide) rfl ?_
      refine x_iload1 G d_M_copy_21 ?_
      refine m_iald k G d_M_copy_22 rfl rfl ⟨by omega, by first | decide | omega⟩ ?_
      rw [show σ 117 k = tS k by rw [h7]]
      refine x_if_lt G d_M_copy_23 (fun c23 => ?_) (fun c23 => ?_)
      · have g23 : tS k = -1 := hsn.mp c23
        refine x_ldcw G d_M_copy_35 kc_M_317 ?_
        exact m_iret E G d_M_copy_38 hx rfl rfl ⟨_, rfl, MS.none' (by simp only [fCopy, c4, tk, c11, tk2, eq_true g23, Bool.and_true, Bool.true_and, Bool.and_false, Bool.false_and, Bool.or_true, Bool.true_or, Bool.or_false, Bool.false_or, Bool.not_true, Bool.not_false, Bool.false_eq_true, decide_true, decide_false, if_true, if_false])⟩
      · have g23 : ¬ tS k = -1 := fun z => c23 (hsn.mpr z)
        refine x_aload0 G d_M_copy_26 ?_
        refine m_getr G d_M_copy_27 fl_M_19 rfl (by decide) rfl ?_
        refine x_iload3 G d_M_copy_30 ?_
        refine m_iald k2 G d_M_copy_31 rfl rfl ⟨by omega, by first | decide | omega⟩ ?_
        rw [show σ 117 k2 = tS k2 by rw [h7]]
        refine x_if_ge G d_M_copy_32 (fun c32 => ?_) (fun c32 => ?_)
        · have g32 : ¬ tS k2 = -1 := fun z => absurd (hsn2.mpr z) (Int32.not_lt.mpr c32)
          refine x_aload0 G d_M_copy_39 ?_
          refine m_getr G d_M_copy_40 fl_M_19 rfl (by decide) rfl ?_
          refine x_iload1 G d_M_copy_43 ?_
          refine m_iald k G d_M_copy_44 rfl rfl ⟨by omega, by first | decide | omega⟩ ?_
          rw [show σ 117 k = tS k by rw [h7]]
          refine x_aload0 G d_M_copy_45 ?_
          refine m_getr G d_M_copy_46 fl_M_19 rfl (by decide) rfl ?_
          refine x_iload3 G d_M_copy_49 ?_
          refine m_iald k2 G d_M_copy_50 rfl rfl ⟨by omega, by first | decide | omega⟩ ?_
          rw [show σ 117 k2 = tS k2 by rw [h7]]
          refine x_icmp_eq G d_M_copy_51 (fun c51 => ?_) (fun c51 => ?_)
          · refine x_iload2 G d_M_copy_57 ?_
            refine x_if_lt G d_M_copy_58 (fun c58 => ?_) (fun c58 => ?_)
            · refine x_ldcw G d_M_copy_106 kc_M_318 ?_
              exact m_iret E G d_M_copy_109 hx rfl rfl ⟨_, rfl, MS.none' (by
  have hbad : (hpB (tZ k) pl mn && hpB (tZ k2) at9 mn) = false := by
    refine Bool.eq_false_iff.mpr (fun z => ?_)
    rw [Bool.and_eq_true] at z
    rw [hsi1, hsi12] at z
    obtain ⟨p', b', q1, q2, q3, q4, q5⟩ := hpB_ex hm24 z.1
    obtain ⟨a', b2', r1, r2, r3, r4, r5⟩ := hpB_ex hm242 z.2
    rw [q4] at c58; exact absurd c58 (nI_pos (by omega))
  simp only [fCopy, hbad, c4, tk, c11, tk2, g23, g32, eq_true c51, Bool.and_true, Bool.true_and, Bool.and_false, Bool.false_and, Bool.or_true, Bool.true_or, Bool.or_false, Bool.false_or, Bool.not_true, Bool.not_false, Bool.false_eq_true, decide_true, decide_false, if_true, if_false])⟩
            · refine x_iload4 G d_M_copy_61 ?_
              refine x_if_lt G d_M_copy_63 (fun c63 => ?_) (fun c63 => ?_)
              · refine x_ldcw G d_M_copy_106 kc_M_318 ?_
                exact m_iret E G d_M_copy_109 hx rfl rfl ⟨_, rfl, MS.none' (by
  have hbad : (hpB (tZ k) pl mn && hpB (tZ k2) at9 mn) = false := by
    refine Bool.eq_false_iff.mpr (fun z => ?_)
    rw [Bool.and_eq_true] at z
    rw [hsi1, hsi12] at z
    obtain ⟨p', b', q1, q2, q3, q4, q5⟩ := hpB_ex hm24 z.1
    obtain ⟨a', b2', r1, r2, r3, r4, r5⟩ := hpB_ex hm242 z.2
    rw [r4] at c63; exact absurd c63 (nI_pos (by omega))
  simp only [fCopy, hbad, c4, tk, c11, tk2, g23, g32, eq_true c51, Bool.and_true, Bool.true_and, Bool.and_false, Bool.false_and, Bool.or_true, Bool.true_or, Bool.or_false, Bool.false_or, Bool.not_true, Bool.not_false, Bool.false_eq_true, decide_true, decide_false, if_true, if_false])⟩
              · refine x_iload5 G d_M_copy_66 ?_
                refine x_if_lt G d_M_copy_68 (fun c68 => ?_) (fun c68 => ?_)
                · refine x_ldcw G d_M_copy_106 kc_M_318 ?_
                  exact m_iret E G d_M_copy_109 hx rfl rfl ⟨_, rfl, MS.none' (by
  have hbad : (hpB (tZ k) pl mn && hpB (tZ k2) at9 mn) = false := by
    refine Bool.eq_false_iff.mpr (fun z => ?_)
    rw [Bool.and_eq_true] at z
    rw [hsi1, hsi12] at z
    obtain ⟨p', b', q1, q2, q3, q4, q5⟩ := hpB_ex hm24 z.1
    obtain ⟨a', b2', r1, r2, r3, r4, r5⟩ := hpB_ex hm242 z.2
    rw [q5] at c68; exact absurd c68 (nI_pos (by omega))
  simp only [fCopy, hbad, c4, tk, c11, tk2, g23, g32, eq_true c51, Bool.and_true, Bool.true_and, Bool.and_false, Bool.false_and, Bool.or_true, Bool.true_or, Bool.or_false, Bool.false_or, Bool.not_true, Bool.not_false, Bool.false_eq_true, decide_true, decide_false, if_true, if_false])⟩
                · refine x_iload2 G d_M_copy_71 ?_
                  refine x_i2l G d_M_copy_72 ?_
                  refine x_iload5 G d_M_copy_73 ?_
                  refine x_i2l G d_M_copy_75 ?_
                  refine x_ladd G d_M_copy_76 ?_
                  refine x_aload0 G d_M_copy_77 ?_
                  refine m_getr G d_M_copy_78 fl_M_22 rfl (by decide) rfl ?_
                  refine x_iload1 G d_M_copy_81 ?_
                  refine m_iald k G d_M_copy_82 rfl rfl ⟨by omega, by first | decide | omega⟩ ?_
                  rw [show σ 118 k = nI m by rw [h8]; exact hsi1]
                  refine x_i2l G d_M_copy_83 ?_
                  refine x_lcmp G d_M_copy_84 ?_
                  refine x_if_gt G d_M_copy_85 (fun c85 => ?_) (fun c85 => ?_)
                  · refine x_ldcw G d_M_copy_106 kc_M_318 ?_
                    exact m_iret E G d_M_copy_109 hx rfl rfl ⟨_, rfl, MS.none' (by
  have hbad : (hpB (tZ k) pl mn && hpB (tZ k2) at9 mn) = false := by
    refine Bool.eq_false_iff.mpr (fun z => ?_)
    rw [Bool.and_eq_true] at z
    rw [hsi1, hsi12] at z
    obtain ⟨p', b', q1, q2, q3, q4, q5⟩ := hpB_ex hm24 z.1
    obtain ⟨a', b2', r1, r2, r3, r4, r5⟩ := hpB_ex hm242 z.2
    have c := cmp_gt.mp c85
    rw [q4, q5, nI_l (by omega), nI_l (by omega), nI_l (by omega), lN_add, lN_lt (by omega) (by omega)] at c
    omega
  simp only [fCopy, hbad, c4, tk, c11, tk2, g23, g32, eq_true c51, Bool.and_true, Bool.true_and, Bool.and_false, Bool.false_and, Bool.or_true, Bool.true_or, Bool.or_false, Bool.false_or, Bool.not_true, Bool.not_false, Bool.false_eq_true, decide_true, decide_false, if_true, if_false])⟩
                  · refine x_iload4 G d_M_copy_88 ?_
                    refine x_i2l G d_M_copy_90 ?_
                    refine x_iload5 G d_M_copy_91 ?_
                    refine x_i2l G d_M_copy_93 ?_
                    refine x_ladd G d_M_copy_94 ?_
                    refine x_aload0 G d_M_copy_95 ?_
                    refine m_getr G d_M_copy_96 fl_M_22 rfl (by decide) rfl ?_
                    refine x_iload3 G d_M_copy_99 ?_
                    refine m_iald k2 G d_M_copy_100 rfl rfl ⟨by omega, by first | decide | omega⟩ ?_
                    rw [show σ 118 k2 = nI m2 by rw [h8]; exact hsi12]
                    refine x_i2l G d_M_copy_101 ?_
                    refine x_lcmp G d_M_copy_102 ?_
                    refine x_if_le G d_M_copy_103 (fun c103 => ?_) (fun c103 => ?_)
                    · have nn : ∀ {x : Int32}, ¬ x < 0 → ∃ q, q < 2 ^ 31 ∧ tn (nI q) = q ∧ x = nI q := fun hx => by obtain ⟨q, h1, h2⟩ := nI_of hx; exact ⟨q, h1, tn_nI h1, h2⟩
                      obtain ⟨p, hp, tp, rfl⟩ := nn c58
                      obtain ⟨a, ha, ta, rfl⟩ := nn c63
                      obtain ⟨b, hb, tb, rfl⟩ := nn c68
                      have q1 : p + b ≤ m := by
                        have c : ¬ (lN m < lN (p + b)) := fun z => c85 (cmp_gt.mpr (by rw [nI_l hp, nI_l hb, nI_l (by omega), lN_add]; exact z))
                        rw [pk_lLT (by omega) (by omega)] at c
                        omega
                      have q2 : a + b ≤ m2 := by
                        have c : ¬ (lN m2 < lN (a + b)) := fun z => absurd (cmp_gt.mpr (show (nI m2).toInt64 < (nI a).toInt64 + (nI b).toInt64 by rw [nI_l ha, nI_l hb, nI_l (by omega), lN_add]; exact z)) (Int32.not_lt.mpr c103)
                        rw [pk_lLT (by omega) (by omega)] at c
                        omega
                      have h1p : hpB (tZ k) (nI p) (nI b) = true := by rw [hsi1]; exact hpB_of q1 hm24
                      have h2p : hpB (tZ k2) (nI a) (nI b) = true := by rw [hsi12]; exact hpB_of q2 hm242
                      refine x_iconst (v := nI 0) G d_M_copy_110 rfl ?_
                      refine x_istore6 G d_M_copy_111 rfl hk ?_
                      have hl1 : ∀ (z i : Nat) (σ1 : Sg), i ≤ b → b < i + z → (∀ q, q < i → σ1 132 q = shV tN k (p + q)) → (∀ c, c ≠ 132 → σ1 c = σ c) → X κ NC 113 [some (.ref 113), some (.int (nI k)), some (.int (nI p)), some (.int (nI k2)), some (.int (nI a)), some (.int (nI b)), some (.int (nI i))] [] (hv σ1) := by
                        intro z
                        induction z with
                        | zero => intro i σ1 h1 h2; omega
                        | succ z ih =>
                          intro i σ1 hi1 hi2 a1 a2
                          refine x_iload6 G d_M_copy_113 ?_
                          refine x_iload5 G d_M_copy_115 ?_
                          refine x_icmp_ge G d_M_copy_117 (fun c117 => ?_) (fun c117 => ?_)
                          · have hib : i = b := by rw [nle (by omega) (by omega)] at c117; omega
                            refine x_iconst (v := nI 0) G d_M_copy_147 rfl ?_
                            refine x_istore6 G d_M_copy_148 rfl hk ?_
                            have hl2 : ∀ (z i : Nat) (σ3 : Sg), i ≤ b → b < i + z → (∀ q, q < i → σ3 119 (24 * k2 + (a + q)) = shV tN k (p + q)) → (∀ j, (j < 24 * k2 + a ∨ 24 * k2 + (a + i) ≤ j) → σ3 119 j = tN j) → (∀ c, c ≠ 119 → σ3 c = σ1 c) → X κ NC 150 [some (.ref 113), some (.int (nI k)), some (.int (nI p)), some (.int (nI k2)), some (.int (nI a)), some (.int (nI b)), some (.int (nI i))] [] (hv σ3) := by
                              intro z
                              induction z with
                              | zero => intro i σ3 h1 h2; omega
                              | succ z ih9 =>
                                intro i σ3 hi1 hi2 b1 b2 b3
                                refine x_iload6 G d_M_copy_150 ?_
                                refine x_iload5 G d_M_copy_152 ?_
                                refine x_icmp_ge G d_M_copy_154 (fun c154 => ?_) (fun c154 => ?_)
                                · have hib2 : i = b := by rw [nle (by omega) (by omega)] at c154; omega
                                  refine x_iload5 G d_M_copy_185 ?_
                                  exact m_iret E G d_M_copy_187 hx rfl rfl ⟨_, rfl, MS.some' (k := k2) (so := tS k2) (si := tZ k2) (w := va_cpy (shV tN k) (shV tN k2) p a b) (v1 := nI b) (by simp only [fCopy, c4, tk, c11, tk2, g23, g32, eq_true c51, h1p, h2p, tp, ta, tb, Bool.and_true, Bool.true_and, Bool.and_false, Bool.false_and, Bool.or_true, Bool.true_or, Bool.or_false, Bool.false_or, Bool.not_true, Bool.not_false, Bool.false_eq_true, decide_true, decide_false, if_true, if_false]) rfl (by rw [b3 117 (by decide), a2 117 (by decide), h7]; exact (upd_self rfl).symm) (by rw [b3 118 (by decide), a2 118 (by decide), h8]; exact (upd_self rfl).symm) (fun q hq => if e : a ≤ q ∧ q < a + b then (by rw [pk_cpy_in e.1 e.2, ← b1 (q - a) (by omega)]; exact congrArg (σ3 119) (by omega)) else (by rw [pk_cpy_out (by omega), b2 _ (by omega)]; rfl)) (fun j hj => by rw [b2 j (by omega), h10]) (fun c _ _ x3 x4 => (b3 c x3).trans (a2 c x4))⟩
                                · have hib2 : i < b := by rw [nle (by omega) (by omega)] at c154; omega
                                  refine x_aload0 G d_M_copy_157 ?_
                                  refine m_getr G d_M_copy_158 fl_M_25 rfl (by decide) rfl ?_
                                  refine x_bipush (v := nI 24) G d_M_copy_161 rfl ?_
                                  refine x_iload3 G d_M_copy_163 ?_
                                  refine x_imul G d_M_copy_164 ?_
                                  refine x_iload4 G d_M_copy_165 ?_
                                  refine x_iadd G d_M_copy_167 ?_
                                  refine x_iload6 G d_M_copy_168 ?_
                                  refine x_iadd G d_M_copy_170 ?_
                                  refine x_aload0 G d_M_copy_171 ?_
                                  refine m_getr G d_M_copy_172 fl_M_68 rfl (by decide) rfl ?_
                                  refine x_iload6 G d_M_copy_175 ?_
                                  refine m_iald i G d_M_copy_177 rfl rfl ⟨by omega, by first | decide | omega⟩ ?_
                                  rw [show σ3 132 i = shV tN k (p + i) by rw [b3 132 (by decide)]; exact a1 i (by omega)]
                                  refine m_iast_n (24 * k2 + (a + i)) G d_M_copy_178 rfl (by simp only [pk_mul, nI_add]; exact congrArg nI (by omega)) ⟨by omega, by first | decide | omega⟩ (fun σ4 e4 => ?_)
                                  refine x_iinc6 (v := nI (i + 1)) G d_M_copy_179 rfl hk (nI_1 _) ?_
                                  refine x_goto G d_M_copy_182 ?_
                                  exact ih9 (i + 1) σ4 (by omega) (by omega) (fun q hq => if e : q = i then (by rw [e, e4, updS_at]) else (by rw [e4, updS_ne (by omega)]; exact b1 q (by omega))) (fun j hj => by rw [e4, updS_ne (by omega)]; exact b2 j (by omega)) (fun c hc => (row_nk e4 hc).trans (b3 c hc))
                            exact hl2 (b + 1) 0 σ1 (Nat.zero_le _) (by omega) (fun q hq => absurd hq (Nat.not_lt_zero q)) (fun j _ => by rw [a2 119 (by decide), h10]) (fun _ _ => rfl)
                          · have hib : i < b := by rw [nle (by omega) (by omega)] at c117; omega
                            refine x_aload0 G d_M_copy_120 ?_
                            refine m_getr G d_M_copy_121 fl_M_68 rfl (by decide) rfl ?_
                            refine x_iload6 G d_M_copy_124 ?_
                            refine x_aload0 G d_M_copy_126 ?_
                            refine m_getr G d_M_copy_127 fl_M_25 rfl (by decide) rfl ?_
                            refine x_bipush (v := nI 24) G d_M_copy_130 rfl ?_
                            refine x_iload1 G d_M_copy_132 ?_
                            refine x_imul G d_M_copy_133 ?_
                            refine x_iload2 G d_M_copy_134 ?_
                            refine x_iadd G d_M_copy_135 ?_
                            refine x_iload6 G d_M_copy_136 ?_
                            refine x_iadd G d_M_copy_138 ?_
                            refine m_iald (24 * k + (p + i)) G d_M_copy_139 rfl (by simp only [pk_mul, nI_add]; exact congrArg nI (by omega)) ⟨by omega, by first | decide | omega⟩ ?_
                            rw [show σ1 119 (24 * k + (p + i)) = shV tN k (p + i) by rw [a2 119 (by decide), h10]; rfl]
                            refine m_iast_n i G d_M_copy_140 rfl rfl ⟨by omega, by first | decide | omega⟩ (fun σ2 e2 => ?_)
                            refine x_iinc6 (v := nI (i + 1)) G d_M_copy_141 rfl hk (nI_1 _) ?_
                            refine x_goto G d_M_copy_144 ?_
                            exact ih (i + 1) σ2 (by omega) (by omega) (fun q hq => if e : q = i then (by rw [e, e2, updS_at]) else (by rw [e2, updS_ne (by omega)]; exact a1 q (by omega))) (fun c hc => (row_nk e2 hc).trans (a2 c hc))
                      exact hl1 (b + 1) 0 σ (Nat.zero_le _) (by omega) (fun q hq => absurd hq (Nat.not_lt_zero q)) (fun _ _ => rfl)
                    · refine x_ldcw G d_M_copy_106 kc_M_318 ?_
                      exact m_iret E G d_M_copy_109 hx rfl rfl ⟨_, rfl, MS.none' (by
  have hbad : (hpB (tZ k) pl mn && hpB (tZ k2) at9 mn) = false := by
    refine Bool.eq_false_iff.mpr (fun z => ?_)
    rw [Bool.and_eq_true] at z
    rw [hsi1, hsi12] at z
    obtain ⟨p', b', q1, q2, q3, q4, q5⟩ := hpB_ex hm24 z.1
    obtain ⟨a', b2', r1, r2, r3, r4, r5⟩ := hpB_ex hm242 z.2
    have c := cmp_gt.mp (Int32.not_le.mp c103)
    rw [r4, r5, nI_l (by omega), nI_l (by omega), nI_l (by omega), lN_add, lN_lt (by omega) (by omega)] at c
    omega
  simp only [fCopy, hbad, c4, tk, c11, tk2, g23, g32, eq_true c51, Bool.and_true, Bool.true_and, Bool.and_false, Bool.false_and, Bool.or_true, Bool.true_or, Bool.or_false, Bool.false_or, Bool.not_true, Bool.not_false, Bool.false_eq_true, decide_true, decide_false, if_true, if_false])⟩
          · refine x_ldc G d_M_copy_54 kc_M_144 ?_
            exact m_iret E G d_M_copy_56 hx rfl rfl ⟨_, rfl, MS.none' (by simp only [fCopy, c4, tk, c11, tk2, g23, g32, c51, Bool.and_true, Bool.true_and, Bool.and_false, Bool.false_and, Bool.or_true, Bool.true_or, Bool.or_false, Bool.false_or, Bool.not_true, Bool.not_false, Bool.false_eq_true, decide_true, decide_false, if_true, if_false])⟩
        · have g32 : tS k2 = -1 := hsn2.mp (Int32.not_le.mp c32)
          refine x_ldcw G d_M_copy_35 kc_M_317 ?_
          exact m_iret E G d_M_copy_38 hx rfl rfl ⟨_, rfl, MS.none' (by simp only [fCopy, c4, tk, c11, tk2, g23, eq_true g32, Bool.and_true, Bool.true_and, Bool.and_false, Bool.false_and, Bool.or_true, Bool.true_or, Bool.or_false, Bool.false_or, Bool.not_true, Bool.not_false, Bool.false_eq_true, decide_true, decide_false, if_true, if_false])⟩
    · replace c11 := bI_0.mp c11
      refine x_ldc G d_M_copy_14 kc_M_98 ?_
      exact m_iret E G d_M_copy_16 hx rfl rfl ⟨_, rfl, MS.none' (by simp only [fCopy, c4, tk, c11, Bool.and_true, Bool.true_and, Bool.and_false, Bool.false_and, Bool.or_true, Bool.true_or, Bool.or_false, Bool.false_or, Bool.not_true, Bool.not_false, Bool.false_eq_true, decide_true, decide_false, if_true, if_false])⟩
