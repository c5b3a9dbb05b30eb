/-! bits; World's come, talks, allHad, standTogether, become -/
def popN (n : Nat) : Nat := n % 2 + n / 2 % 2 + n / 4 % 2 + n / 8 % 2 + n / 16 % 2 + n / 32 % 2 + n / 64 % 2 + n / 128 % 2 + n / 256 % 2
theorem pop_le (n : Nat) : popN n ≤ 9 := by unfold popN; omega
theorem pop_and : ∀ n, n < 512 → 0 < n → nI n &&& (nI n - nI 1) = nI (n &&& (n - 1)) := by decide +kernel
theorem pop_dec : ∀ n, n < 512 → 0 < n → popN (n &&& (n - 1)) + 1 = popN n ∧ (n &&& (n - 1)) < 512 := by decide +kernel
def Ji_bitCount : MD := (⟨"java/lang/Integer", "bitCount", "(I)I"⟩, prog_16_method_49_code, 1, (some FieldType.int))
theorem d_Ji_bitCount_0 : dc Ji_bitCount.2.1 0 1 (.iload_n 0) 1 := ⟨by decide +kernel, rfl⟩
theorem d_Ji_bitCount_1 : dc Ji_bitCount.2.1 1 2 (.iload_n 0) 1 := ⟨by decide +kernel, rfl⟩
theorem d_Ji_bitCount_2 : dc Ji_bitCount.2.1 2 3 (.iconst 1) 1 := ⟨by decide +kernel, rfl⟩
theorem d_Ji_bitCount_3 : dc Ji_bitCount.2.1 3 4 .iushr 1 := ⟨by decide +kernel, rfl⟩
theorem d_Ji_bitCount_4 : dc Ji_bitCount.2.1 4 7 (.ldc_w 265) 3 := ⟨by decide +kernel, rfl⟩
theorem d_Ji_bitCount_7 : dc Ji_bitCount.2.1 7 8 .iand 1 := ⟨by decide +kernel, rfl⟩
theorem d_Ji_bitCount_8 : dc Ji_bitCount.2.1 8 9 .isub 1 := ⟨by decide +kernel, rfl⟩
theorem d_Ji_bitCount_9 : dc Ji_bitCount.2.1 9 10 (.istore_n 0) 1 := ⟨by decide +kernel, rfl⟩
theorem d_Ji_bitCount_10 : dc Ji_bitCount.2.1 10 11 (.iload_n 0) 1 := ⟨by decide +kernel, rfl⟩
theorem d_Ji_bitCount_11 : dc Ji_bitCount.2.1 11 14 (.ldc_w 266) 3 := ⟨by decide +kernel, rfl⟩
theorem d_Ji_bitCount_14 : dc Ji_bitCount.2.1 14 15 .iand 1 := ⟨by decide +kernel, rfl⟩
theorem d_Ji_bitCount_15 : dc Ji_bitCount.2.1 15 16 (.iload_n 0) 1 := ⟨by decide +kernel, rfl⟩
theorem d_Ji_bitCount_16 : dc Ji_bitCount.2.1 16 17 (.iconst 2) 1 := ⟨by decide +kernel, rfl⟩
theorem d_Ji_bitCount_17 : dc Ji_bitCount.2.1 17 18 .iushr 1 := ⟨by decide +kernel, rfl⟩
theorem d_Ji_bitCount_18 : dc Ji_bitCount.2.1 18 21 (.ldc_w 266) 3 := ⟨by decide +kernel, rfl⟩
theorem d_Ji_bitCount_21 : dc Ji_bitCount.2.1 21 22 .iand 1 := ⟨by decide +kernel, rfl⟩
theorem d_Ji_bitCount_22 : dc Ji_bitCount.2.1 22 23 .iadd 1 := ⟨by decide +kernel, rfl⟩
theorem d_Ji_bitCount_23 : dc Ji_bitCount.2.1 23 24 (.istore_n 0) 1 := ⟨by decide +kernel, rfl⟩
theorem d_Ji_bitCount_24 : dc Ji_bitCount.2.1 24 25 (.iload_n 0) 1 := ⟨by decide +kernel, rfl⟩
theorem d_Ji_bitCount_25 : dc Ji_bitCount.2.1 25 26 (.iload_n 0) 1 := ⟨by decide +kernel, rfl⟩
theorem d_Ji_bitCount_26 : dc Ji_bitCount.2.1 26 27 (.iconst 4) 1 := ⟨by decide +kernel, rfl⟩
theorem d_Ji_bitCount_27 : dc Ji_bitCount.2.1 27 28 .iushr 1 := ⟨by decide +kernel, rfl⟩
theorem d_Ji_bitCount_28 : dc Ji_bitCount.2.1 28 29 .iadd 1 := ⟨by decide +kernel, rfl⟩
theorem d_Ji_bitCount_29 : dc Ji_bitCount.2.1 29 32 (.ldc_w 267) 3 := ⟨by decide +kernel, rfl⟩
theorem d_Ji_bitCount_32 : dc Ji_bitCount.2.1 32 33 .iand 1 := ⟨by decide +kernel, rfl⟩
theorem d_Ji_bitCount_33 : dc Ji_bitCount.2.1 33 34 (.istore_n 0) 1 := ⟨by decide +kernel, rfl⟩
theorem d_Ji_bitCount_34 : dc Ji_bitCount.2.1 34 35 (.iload_n 0) 1 := ⟨by decide +kernel, rfl⟩
theorem d_Ji_bitCount_35 : dc Ji_bitCount.2.1 35 36 (.iload_n 0) 1 := ⟨by decide +kernel, rfl⟩
theorem d_Ji_bitCount_36 : dc Ji_bitCount.2.1 36 38 (.bipush 8) 2 := ⟨by decide +kernel, rfl⟩
theorem d_Ji_bitCount_38 : dc Ji_bitCount.2.1 38 39 .iushr 1 := ⟨by decide +kernel, rfl⟩
theorem d_Ji_bitCount_39 : dc Ji_bitCount.2.1 39 40 .iadd 1 := ⟨by decide +kernel, rfl⟩
theorem d_Ji_bitCount_40 : dc Ji_bitCount.2.1 40 41 (.istore_n 0) 1 := ⟨by decide +kernel, rfl⟩
theorem d_Ji_bitCount_41 : dc Ji_bitCount.2.1 41 42 (.iload_n 0) 1 := ⟨by decide +kernel, rfl⟩
theorem d_Ji_bitCount_42 : dc Ji_bitCount.2.1 42 43 (.iload_n 0) 1 := ⟨by decide +kernel, rfl⟩
theorem d_Ji_bitCount_43 : dc Ji_bitCount.2.1 43 45 (.bipush 16) 2 := ⟨by decide +kernel, rfl⟩
theorem d_Ji_bitCount_45 : dc Ji_bitCount.2.1 45 46 .iushr 1 := ⟨by decide +kernel, rfl⟩
theorem d_Ji_bitCount_46 : dc Ji_bitCount.2.1 46 47 .iadd 1 := ⟨by decide +kernel, rfl⟩
theorem d_Ji_bitCount_47 : dc Ji_bitCount.2.1 47 48 (.istore_n 0) 1 := ⟨by decide +kernel, rfl⟩
theorem d_Ji_bitCount_48 : dc Ji_bitCount.2.1 48 49 (.iload_n 0) 1 := ⟨by decide +kernel, rfl⟩
theorem d_Ji_bitCount_49 : dc Ji_bitCount.2.1 49 51 (.bipush 63) 2 := ⟨by decide +kernel, rfl⟩
theorem d_Ji_bitCount_51 : dc Ji_bitCount.2.1 51 52 .iand 1 := ⟨by decide +kernel, rfl⟩
theorem d_Ji_bitCount_52 : dc Ji_bitCount.2.1 52 53 .ireturn 1 := ⟨by decide +kernel, rfl⟩
theorem kc_Ji_265 : Cond.constant "java/lang/Integer" 265 (1431655765) ∈ WS := ws_in 667 (by decide +kernel) (by decide +kernel)
theorem kc_Ji_266 : Cond.constant "java/lang/Integer" 266 (858993459) ∈ WS := ws_in 668 (by decide +kernel) (by decide +kernel)
theorem kc_Ji_267 : Cond.constant "java/lang/Integer" 267 (252645135) ∈ WS := ws_in 669 (by decide +kernel) (by decide +kernel)
theorem lk_Wo_76 : LkS "NoonFields$World" 76 Ji_bitCount 1 := ⟨⟨ws_in 666 (by decide +kernel) (by decide +kernel), ws_in 81 (by decide +kernel) (by decide +kernel), ⟨by decide +kernel, by decide +kernel⟩, by decide +kernel, ws_in 664 (by decide +kernel) (by decide +kernel), by decide⟩, ws_in 665 (by decide +kernel) (by decide +kernel)⟩
def bc1 (v : Int32) : Int32 := v - (((v).toUInt32 >>> ((nI 1).toUInt32 &&& Int32.toUInt32 31)).toInt32 &&& 1431655765)
def bc2 (v : Int32) : Int32 := (v &&& 858993459) + (((v).toUInt32 >>> ((nI 2).toUInt32 &&& Int32.toUInt32 31)).toInt32 &&& 858993459)
def bc3 (v : Int32) : Int32 := (v + ((v).toUInt32 >>> ((nI 4).toUInt32 &&& Int32.toUInt32 31)).toInt32) &&& 252645135
def bc4 (v : Int32) : Int32 := v + ((v).toUInt32 >>> ((nI 8).toUInt32 &&& Int32.toUInt32 31)).toInt32
def bc5 (v : Int32) : Int32 := v + ((v).toUInt32 >>> ((nI 16).toUInt32 &&& Int32.toUInt32 31)).toInt32
theorem bc_c : ∀ n, n < 512 → bc5 (bc4 (bc3 (bc2 (bc1 (nI n))))) &&& nI 63 = nI (popN n) := by decide +kernel
theorem p_Ji_bitCount (g : CX) (d : Nat) (hd : 0 ≤ d) (σ : Sg) (n : Nat) (hn : n < 512) : RunM g d Ji_bitCount [.int (nI n)] σ (PI (nI (popN n)) σ) := by
  refine RunM.of 0 (by decide +kernel) rfl ?_
  intro κ hg hx hk0 G E
  subst hg
  have hk : 1 ≤ kn κ := Nat.le_of_eq hk0.symm
  show X κ NC 0 [some (.int (nI n))] [] (hv σ)
  refine x_iload0 G d_Ji_bitCount_0 ?_
  refine x_iload0 G d_Ji_bitCount_1 ?_
  refine x_iconst (v := nI 1) G d_Ji_bitCount_2 rfl ?_
  refine x_iushr G d_Ji_bitCount_3 ?_
  refine x_ldcw G d_Ji_bitCount_4 kc_Ji_265 ?_
  refine x_iand G d_Ji_bitCount_7 ?_
  refine x_isub G d_Ji_bitCount_8 ?_
  refine x_top (fun y1 e1 => ?_)
  refine x_istore0 G d_Ji_bitCount_9 hk ?_
  refine x_iload0 G d_Ji_bitCount_10 ?_
  refine x_ldcw G d_Ji_bitCount_11 kc_Ji_266 ?_
  refine x_iand G d_Ji_bitCount_14 ?_
  refine x_iload0 G d_Ji_bitCount_15 ?_
  refine x_iconst (v := nI 2) G d_Ji_bitCount_16 rfl ?_
  refine x_iushr G d_Ji_bitCount_17 ?_
  refine x_ldcw G d_Ji_bitCount_18 kc_Ji_266 ?_
  refine x_iand G d_Ji_bitCount_21 ?_
  refine x_iadd G d_Ji_bitCount_22 ?_
  refine x_top (fun y2 e2 => ?_)
  refine x_istore0 G d_Ji_bitCount_23 hk ?_
  refine x_iload0 G d_Ji_bitCount_24 ?_
  refine x_iload0 G d_Ji_bitCount_25 ?_
  refine x_iconst (v := nI 4) G d_Ji_bitCount_26 rfl ?_
  refine x_iushr G d_Ji_bitCount_27 ?_
  refine x_iadd G d_Ji_bitCount_28 ?_
  refine x_ldcw G d_Ji_bitCount_29 kc_Ji_267 ?_
  refine x_iand G d_Ji_bitCount_32 ?_
  refine x_top (fun y3 e3 => ?_)
  refine x_istore0 G d_Ji_bitCount_33 hk ?_
  refine x_iload0 G d_Ji_bitCount_34 ?_
  refine x_iload0 G d_Ji_bitCount_35 ?_
  refine x_bipush (v := nI 8) G d_Ji_bitCount_36 rfl ?_
  refine x_iushr G d_Ji_bitCount_38 ?_
  refine x_iadd G d_Ji_bitCount_39 ?_
  refine x_top (fun y4 e4 => ?_)
  refine x_istore0 G d_Ji_bitCount_40 hk ?_
  refine x_iload0 G d_Ji_bitCount_41 ?_
  refine x_iload0 G d_Ji_bitCount_42 ?_
  refine x_bipush (v := nI 16) G d_Ji_bitCount_43 rfl ?_
  refine x_iushr G d_Ji_bitCount_45 ?_
  refine x_iadd G d_Ji_bitCount_46 ?_
  refine x_top (fun y5 e5 => ?_)
  refine x_istore0 G d_Ji_bitCount_47 hk ?_
  refine x_iload0 G d_Ji_bitCount_48 ?_
  refine x_bipush (v := nI 63) G d_Ji_bitCount_49 rfl ?_
  refine x_iand G d_Ji_bitCount_51 ?_
  exact m_iret E G d_Ji_bitCount_52 hx rfl rfl (pi_of (by rw [e5, e4, e3, e2, e1]; exact bc_c n hn))
theorem p_M_manyIn (g : CX) (d : Nat) (hd : 0 ≤ d) (σ : Sg) (n : Nat) (hn : n < 512) : RunM g d M_manyIn [.int (nI n)] σ (PI (nI (popN n)) σ) := by
  refine RunM.of 2 (by decide +kernel) rfl ?_
  intro κ hg hx hk0 G E
  subst hg
  have hk : 3 ≤ kn κ := Nat.le_of_eq hk0.symm
  show X κ NC 0 [some (.int (nI n)), none, none] [] (hv σ)
  refine x_iconst (v := nI 0) G d_M_manyIn_0 rfl ?_
  refine x_istore1 G d_M_manyIn_1 rfl hk ?_
  refine x_iload0 G d_M_manyIn_2 ?_
  refine x_istore2 G d_M_manyIn_3 rfl hk ?_
  have hloop : ∀ (m c l : Nat), l < 512 → popN l < m → c + popN l = popN n → X κ NC 4 [some (.int (nI n)), some (.int (nI c)), some (.int (nI l))] [] (hv σ) := by
    intro m
    induction m with
    | zero => intro c l h1 h2; omega
    | succ m ih =>
      intro c l hl1 hl2 hc
      have hp9 := pop_le n
      refine x_iload2 G d_M_manyIn_4 ?_
      refine x_if_eq G d_M_manyIn_5 (fun c5 => ?_) (fun c5 => ?_)
      · have hl0 : l = 0 := by rcases Nat.eq_zero_or_pos l with q | q; exact q; exact absurd c5 (nI_ne0 q (by omega))
        refine x_iload1 G d_M_manyIn_20 ?_
        exact m_iret E G d_M_manyIn_21 hx rfl rfl (pi_of (by rw [← hc, hl0]; rfl))
      · have hl0 : 0 < l := by rcases Nat.eq_zero_or_pos l with q | q; exact absurd (by rw [q]; exact nI_0) c5; exact q
        refine x_iinc1 (v := nI (c + 1)) G d_M_manyIn_8 rfl hk (nI_1 _) ?_
        refine x_iload2 G d_M_manyIn_11 ?_
        refine x_iload2 G d_M_manyIn_12 ?_
        refine x_iconst (v := nI 1) G d_M_manyIn_13 rfl ?_
        refine x_isub G d_M_manyIn_14 ?_
        refine x_iand G d_M_manyIn_15 ?_
        rw [pop_and l hl1 hl0]
        refine x_istore2 G d_M_manyIn_16 rfl hk ?_
        refine x_goto G d_M_manyIn_17 ?_
        exact ih (c + 1) _ (pop_dec l hl1 hl0).2 (by have := (pop_dec l hl1 hl0).1; omega) (by have := (pop_dec l hl1 hl0).1; omega)
  exact hloop 10 0 n hn (by have := pop_le n; omega) (by omega)
/-- HAD and TALK are sets; TALK is of both; nothing stands behind the people -/
def Inv2 (S : Rw) : Prop := (∀ p, p < 8 → In (S (ixP p 3)) 511 ∧ In (S (ixP p 6)) 255) ∧ (∀ a b, a < 8 → b < 8 → sTalk S a b = sTalk S b a) ∧ ∀ p, tn (S 0) ≤ p → p < 8 → S (ixP p 3) = 0 ∧ S (ixP p 4) = 0 ∧ S (ixP p 5) = 0 ∧ S (ixP p 6) = 0
theorem Inv2.had {S : Rw} (h : Inv2 S) {p : Nat} (hp : p < 8) : S (ixP p 3) = nI (tn (S (ixP p 3))) ∧ tn (S (ixP p 3)) ≤ 511 := (h.1 p hp).1
theorem Inv2.talk {S : Rw} (h : Inv2 S) {p : Nat} (hp : p < 8) : S (ixP p 6) = nI (tn (S (ixP p 6))) ∧ tn (S (ixP p 6)) ≤ 255 := (h.1 p hp).2
/-- the ends of talk of the first i people -/
def tkN (S : Rw) : Nat → Nat
  | 0 => 0
  | i + 1 => tkN S i + popN (tn (S (ixP i 6)))
theorem tk_le (S : Rw) : ∀ i, tkN S i ≤ 9 * i
  | 0 => Nat.le_refl _
  | i + 1 => by have := tk_le S i; have := pop_le (tn (S (ixP i 6))); unfold tkN; omega
def ahN (S : Rw) (m : Nat) : Nat → Bool
  | 0 => true
  | i + 1 => ahN S m i && !(decide (popN (tn (S (ixP i 3))) < m))
theorem ahN_no {S : Rw} {m : Nat} : ∀ (n k : Nat), k ≤ n → ahN S m k = false → ahN S m n = false
  | 0, k, h, e => by rw [show k = 0 by omega] at e; exact e
  | n + 1, k, h, e => by
    by_cases q : k = n + 1
    · rw [q] at e; exact e
    · rw [ahN, ahN_no n k (by omega) e]; rfl
def togB (T : Nat → Int32) (a b : Nat) : Bool := !(decide (T a = -1)) && decide (T a = T b)
def fCome (S : Rw) (kind home hire : Int32) : Int32 × Rw :=
  if tn (S 0) < 8 then (nI (tn (S 0)), upd (upd (upd (upd S (ixP (tn (S 0)) 0) kind) (ixP (tn (S 0)) 1) home) (ixP (tn (S 0)) 2) hire) 0 (nI (tn (S 0) + 1))) else (-1000000003, S)
theorem p_Wo_talks (g : CX) (d : Nat) (hd : 1 ≤ d) (σ : Sg) (w : Nat) (hw : isW w) (S : Rw) (hR : WRel w S σ) (hI : Inv S) (hI2 : Inv2 S) : RunM g d Wo_talks [.ref w] σ (PI (nI (tkN S (tn (S 0)) / 2)) σ) := by
  refine RunM.of 2 (by decide +kernel) rfl ?_
  intro κ hg hx hk0 G E
  subst hg
  have hk : 3 ≤ kn κ := Nat.le_of_eq hk0.symm
  show X κ NC 0 [some (.ref w), none, none] [] (hv σ)
  refine x_iconst (v := nI 0) G d_Wo_talks_0 rfl ?_
  refine x_istore1 G d_Wo_talks_1 rfl hk ?_
  refine x_iconst (v := nI 0) G d_Wo_talks_2 rfl ?_
  refine x_istore2 G d_Wo_talks_3 rfl hk ?_
  have hloop : ∀ (m i : Nat), i ≤ tn (S 0) → tn (S 0) < i + m → X κ NC 4 [some (.ref w), some (.int (nI (tkN S i))), some (.int (nI i))] [] (hv σ) := by
    intro m
    induction m with
    | zero => intro i h1 h2; omega
    | succ m ih =>
      intro i hi1 hi2
      have hn8 := hI.n
      refine x_iload2 G d_Wo_talks_4 ?_
      refine x_aload0 G d_Wo_talks_5 ?_
      refine m_geti G d_Wo_talks_6 fl_Wo_29 (W_o hw) (W_l hw) (W_ij hw 7 (by decide) (by decide)) ?_
      rw [show σ w 7 = nI (tn (S 0)) by rw [hR.n]; exact hn8.1]
      refine x_icmp_ge G d_Wo_talks_9 (fun c9 => ?_) (fun c9 => ?_)
      · have hin : i = tn (S 0) := by rw [nle (by omega) (by omega)] at c9; omega
        refine x_iload1 G d_Wo_talks_30 ?_
        refine x_iconst (v := nI 2) G d_Wo_talks_31 rfl ?_
        refine x_idiv G d_Wo_talks_32 (by decide +kernel) ?_
        rw [hin, pk_div (by have := tk_le S (tn (S 0)); omega) (by decide) (by decide)]
        exact m_iret E G d_Wo_talks_33 hx rfl rfl ⟨rfl, rfl⟩
      · have hin : i < tn (S 0) := by rw [nle (by omega) (by omega)] at c9; omega
        refine x_iload1 G d_Wo_talks_12 ?_
        refine x_aload0 G d_Wo_talks_13 ?_
        refine m_getr G d_Wo_talks_14 fl_Wo_19 (W_o hw) (W_l hw) (W_r4 hw) ?_
        refine x_iload2 G d_Wo_talks_17 ?_
        refine m_iald i G d_Wo_talks_18 (W_s12 hw) rfl ⟨by omega, by first | decide | omega⟩ ?_
        rw [show σ (w + 12) i = nI (tn (S (ixP i 6))) by rw [hR.t (by omega)]; exact (hI2.talk (by omega)).1]
        refine m_callS_pi (p_Ji_bitCount (kg κ) (d - 1) (by omega) σ _ (by have := (hI2.talk (p := i) (by omega)).2; omega)) G d_Wo_talks_19 lk_Wo_76 (by omega) rfl (Nat.le_of_ble_eq_true rfl) hx ?_
        refine x_iadd G d_Wo_talks_22 ?_
        rw [nI_add]
        refine x_istore1 G d_Wo_talks_23 rfl hk ?_
        refine x_iinc2 (v := nI (i + 1)) G d_Wo_talks_24 rfl hk (nI_1 _) ?_
        refine x_goto G d_Wo_talks_27 ?_
        exact ih (i + 1) (by omega) (by omega)
  exact hloop (tn (S 0) + 1) 0 (Nat.zero_le _) (by omega)
theorem p_Wo_allHad (g : CX) (d : Nat) (hd : 1 ≤ d) (σ : Sg) (w : Nat) (hw : isW w) (S : Rw) (hR : WRel w S σ) (hI : Inv S) (hI2 : Inv2 S) (mm : Nat) (hm9 : mm < 100) : RunM g d Wo_allHad [.ref w, .int (nI mm)] σ (PI (bI (ahN S mm (tn (S 0)))) σ) := by
  refine RunM.of 1 (by decide +kernel) rfl ?_
  intro κ hg hx hk0 G E
  subst hg
  have hk : 3 ≤ kn κ := Nat.le_of_eq hk0.symm
  show X κ NC 0 [some (.ref w), some (.int (nI mm)), none] [] (hv σ)
  refine x_iconst (v := nI 0) G d_Wo_allHad_0 rfl ?_
  refine x_istore2 G d_Wo_allHad_1 rfl hk ?_
  have hloop : ∀ (m i : Nat), i ≤ tn (S 0) → tn (S 0) < i + m → ahN S mm i = true → X κ NC 2 [some (.ref w), some (.int (nI mm)), some (.int (nI i))] [] (hv σ) := by
    intro m
    induction m with
    | zero => intro i h1 h2; omega
    | succ m ih =>
      intro i hi1 hi2 ha
      have hn8 := hI.n
      refine x_iload2 G d_Wo_allHad_2 ?_
      refine x_aload0 G d_Wo_allHad_3 ?_
      refine m_geti G d_Wo_allHad_4 fl_Wo_29 (W_o hw) (W_l hw) (W_ij hw 7 (by decide) (by decide)) ?_
      rw [show σ w 7 = nI (tn (S 0)) by rw [hR.n]; exact hn8.1]
      refine x_icmp_ge G d_Wo_allHad_7 (fun c7 => ?_) (fun c7 => ?_)
      · have hin : i = tn (S 0) := by rw [nle (by omega) (by omega)] at c7; omega
        refine x_iconst (v := nI 1) G d_Wo_allHad_33 rfl ?_
        exact m_iret E G d_Wo_allHad_34 hx rfl rfl (pi_of (by rw [← hin, ha]; rfl))
      · have hin : i < tn (S 0) := by rw [nle (by omega) (by omega)] at c7; omega
        refine x_aload0 G d_Wo_allHad_10 ?_
        refine m_getr G d_Wo_allHad_11 fl_Wo_11 (W_o hw) (W_l hw) (W_r2 hw) ?_
        refine x_iconst (v := nI 3) G d_Wo_allHad_14 rfl ?_
        refine m_aald _ G d_Wo_allHad_15 (W_s1 hw) (by decide) rfl ⟨by omega, by first | decide | omega⟩ (W_p hw (by decide)) ?_
        refine x_iload2 G d_Wo_allHad_16 ?_
        refine m_iald i G d_Wo_allHad_17 (W_sp hw (by decide)) rfl ⟨by omega, by first | decide | omega⟩ ?_
        rw [show σ (w + 2 + 3) i = nI (tn (S (ixP i 3))) by rw [hR.p 3 (by decide) (by omega)]; exact (hI2.had (by omega)).1]
        refine m_callS_pi (p_Ji_bitCount (kg κ) (d - 1) (by omega) σ _ (by have := (hI2.had (p := i) (by omega)).2; omega)) G d_Wo_allHad_18 lk_Wo_76 (by omega) rfl (Nat.le_of_ble_eq_true rfl) hx ?_
        refine x_iload1 G d_Wo_allHad_21 ?_
        refine x_icmp_ge G d_Wo_allHad_22 (fun c22 => ?_) (fun c22 => ?_)
        · have hp9 := pop_le (tn (S (ixP i 3)))
          have h22 : ¬ popN (tn (S (ixP i 3))) < mm := by rw [nle (by omega) (by omega)] at c22; omega
          refine x_iinc2 (v := nI (i + 1)) G d_Wo_allHad_27 rfl hk (nI_1 _) ?_
          refine x_goto G d_Wo_allHad_30 ?_
          exact ih (i + 1) (by omega) (by omega) (by rw [ahN, ha, decide_eq_false h22]; rfl)
        · have hp9 := pop_le (tn (S (ixP i 3)))
          have h22 : popN (tn (S (ixP i 3))) < mm := by rw [nle (by omega) (by omega)] at c22; omega
          refine x_iconst (v := nI 0) G d_Wo_allHad_25 rfl ?_
          exact m_iret E G d_Wo_allHad_26 hx rfl rfl (pi_of (by rw [show ahN S mm (tn (S 0)) = false from ahN_no (tn (S 0)) (i + 1) hin (by rw [ahN, ha]; simp [h22])]; rfl))
  exact hloop (tn (S 0) + 1) 0 (Nat.zero_le _) (by omega) rfl
theorem p_Wo_standTogether (g : CX) (d : Nat) (hd : 0 ≤ d) (σ : Sg) (w : Nat) (hw : isW w) (T : Nat → Int32) (hT : StT w T σ) (a c : Nat) (ha : a < 8) (hc : c < 8) : RunM g d Wo_standTogether [.ref w, .int (nI a), .int (nI c)] σ (PI (bI (togB T a c)) σ) := by
  refine RunM.of 0 (by decide +kernel) rfl ?_
  intro κ hg hx hk0 G E
  subst hg
  have hk : 3 ≤ kn κ := Nat.le_of_eq hk0.symm
  show X κ NC 0 [some (.ref w), some (.int (nI a)), some (.int (nI c))] [] (hv σ)
  refine x_aload0 G d_Wo_standTogether_0 ?_
  refine m_getr G d_Wo_standTogether_1 fl_Wo_23 (W_o hw) (W_l hw) (W_r5 hw) ?_
  refine x_iload1 G d_Wo_standTogether_4 ?_
  refine m_iald a G d_Wo_standTogether_5 (W_s13 hw) rfl ⟨by omega, by first | decide | omega⟩ ?_
  rw [hT a ha]
  refine x_iconst (v := (-1)) G d_Wo_standTogether_6 rfl ?_
  refine x_icmp_eq G d_Wo_standTogether_7 (fun c7 => ?_) (fun c7 => ?_)
  · refine x_iconst (v := nI 0) G d_Wo_standTogether_29 rfl ?_
    exact m_iret E G d_Wo_standTogether_30 hx rfl rfl (pi_of (by simp_all [bI, nI_0, nI1, togB]))
  · refine x_aload0 G d_Wo_standTogether_10 ?_
    refine m_getr G d_Wo_standTogether_11 fl_Wo_23 (W_o hw) (W_l hw) (W_r5 hw) ?_
    refine x_iload1 G d_Wo_standTogether_14 ?_
    refine m_iald a G d_Wo_standTogether_15 (W_s13 hw) rfl ⟨by omega, by first | decide | omega⟩ ?_
    rw [hT a ha]
    refine x_aload0 G d_Wo_standTogether_16 ?_
    refine m_getr G d_Wo_standTogether_17 fl_Wo_23 (W_o hw) (W_l hw) (W_r5 hw) ?_
    refine x_iload2 G d_Wo_standTogether_20 ?_
    refine m_iald c G d_Wo_standTogether_21 (W_s13 hw) rfl ⟨by omega, by first | decide | omega⟩ ?_
    rw [hT c hc]
    refine x_icmp_ne G d_Wo_standTogether_22 (fun c22 => ?_) (fun c22 => ?_)
    · refine x_iconst (v := nI 0) G d_Wo_standTogether_29 rfl ?_
      exact m_iret E G d_Wo_standTogether_30 hx rfl rfl (pi_of (by simp_all [bI, nI_0, nI1, togB]))
    · refine x_iconst (v := nI 1) G d_Wo_standTogether_25 rfl ?_
      refine x_goto G d_Wo_standTogether_26 ?_
      exact m_iret E G d_Wo_standTogether_30 hx rfl rfl (pi_of (by simp_all [bI, nI_0, nI1, togB]))
theorem p_Wo_come (g : CX) (d : Nat) (hd : 0 ≤ d) (σ : Sg) (w : Nat) (hw : isW w) (S : Rw) (hR : WRel w S σ) (hI : Inv S) (kind home hire : Int32) : RunM g d Wo_come [.ref w, .int kind, .int home, .int hire] σ (PR (fun v σ1 => v = (fCome S kind home hire).1 ∧ WRel w (fCome S kind home hire).2 σ1 ∧ OutW w σ σ1)) := by
  refine RunM.of 1 (by decide +kernel) rfl ?_
  intro κ hg hx hk0 G E
  subst hg
  have hk : 5 ≤ kn κ := Nat.le_of_eq hk0.symm
  show X κ NC 0 [some (.ref w), some (.int kind), some (.int home), some (.int hire), none] [] (hv σ)
  refine x_aload0 G d_Wo_come_0 ?_
  refine m_geti G d_Wo_come_1 fl_Wo_29 (W_o hw) (W_l hw) (W_ij hw 7 (by decide) (by decide)) ?_
  rw [hR.n, hI.n.1]
  have hn8 := hI.n.2
  refine x_bipush (v := nI 8) G d_Wo_come_4 rfl ?_
  refine x_icmp_lt G d_Wo_come_6 (fun c6 => ?_) (fun c6 => ?_)
  · have hlt : tn (S 0) < 8 := by rw [nlt (by omega) (by omega)] at c6; omega
    refine x_aload0 G d_Wo_come_12 ?_
    refine m_geti G d_Wo_come_13 fl_Wo_29 (W_o hw) (W_l hw) (W_ij hw 7 (by decide) (by decide)) ?_
    rw [hR.n, hI.n.1]
    refine x_istore4 G d_Wo_come_16 rfl hk ?_
    refine x_aload0 G d_Wo_come_18 ?_
    refine m_getr G d_Wo_come_19 fl_Wo_11 (W_o hw) (W_l hw) (W_r2 hw) ?_
    refine x_iconst (v := nI 0) G d_Wo_come_22 rfl ?_
    refine m_aald _ G d_Wo_come_23 (W_s1 hw) (by decide) rfl ⟨by omega, by first | decide | omega⟩ (W_p hw (by decide)) ?_
    refine x_iload4 G d_Wo_come_24 ?_
    refine x_iload1 G d_Wo_come_26 ?_
    refine m_iast_n (tn (S 0)) G d_Wo_come_27 (W_sp hw (by decide)) rfl ⟨by omega, by first | decide | omega⟩ (fun σ1 e1 => ?_)
    refine x_aload0 G d_Wo_come_28 ?_
    refine m_getr G d_Wo_come_29 fl_Wo_11 (W_o hw) (W_l hw) (W_r2 hw) ?_
    refine x_iconst (v := nI 1) G d_Wo_come_32 rfl ?_
    refine m_aald _ G d_Wo_come_33 (W_s1 hw) (by decide) rfl ⟨by omega, by first | decide | omega⟩ (W_p hw (by decide)) ?_
    refine x_iload4 G d_Wo_come_34 ?_
    refine x_iload2 G d_Wo_come_36 ?_
    refine m_iast_n (tn (S 0)) G d_Wo_come_37 (W_sp hw (by decide)) rfl ⟨by omega, by first | decide | omega⟩ (fun σ2 e2 => ?_)
    refine x_aload0 G d_Wo_come_38 ?_
    refine m_getr G d_Wo_come_39 fl_Wo_11 (W_o hw) (W_l hw) (W_r2 hw) ?_
    refine x_iconst (v := nI 2) G d_Wo_come_42 rfl ?_
    refine m_aald _ G d_Wo_come_43 (W_s1 hw) (by decide) rfl ⟨by omega, by first | decide | omega⟩ (W_p hw (by decide)) ?_
    refine x_iload4 G d_Wo_come_44 ?_
    refine x_iload3 G d_Wo_come_46 ?_
    refine m_iast_n (tn (S 0)) G d_Wo_come_47 (W_sp hw (by decide)) rfl ⟨by omega, by first | decide | omega⟩ (fun σ3 e3 => ?_)
    have h1 : WRel w (upd S (ixP (tn (S 0)) 0) kind) σ1 := by rw [e1]; exact hR.setp (by decide) hlt _
    have h2 : WRel w (upd (upd S (ixP (tn (S 0)) 0) kind) (ixP (tn (S 0)) 1) home) σ2 := by rw [e2]; exact h1.setp (by decide) hlt _
    have h3 : WRel w (upd (upd (upd S (ixP (tn (S 0)) 0) kind) (ixP (tn (S 0)) 1) home) (ixP (tn (S 0)) 2) hire) σ3 := by rw [e3]; exact h2.setp (by decide) hlt _
    have h3n : σ3 w 7 = nI (tn (S 0)) := by rw [h3.n, pk_un (by unfold ixP; omega), pk_un (by unfold ixP; omega), pk_un (by unfold ixP; omega)]; exact hI.n.1
    refine x_aload0 G d_Wo_come_48 ?_
    refine x_dup G d_Wo_come_49 rfl ?_
    refine m_geti G d_Wo_come_50 fl_Wo_29 (W_o hw) (W_l hw) (W_ij hw 7 (by decide) (by decide)) ?_
    rw [h3n]
    refine x_iconst (v := nI 1) G d_Wo_come_53 rfl ?_
    refine x_iadd G d_Wo_come_54 ?_
    rw [nI_add]
    refine m_puti_n G d_Wo_come_55 fl_Wo_29 (W_o hw) (W_l hw) (W_ij hw 7 (by decide) (by decide)) rfl rfl (fun σ4 e4 => ?_)
    refine x_iload4 G d_Wo_come_58 ?_
    exact m_iret E G d_Wo_come_60 hx rfl rfl ⟨_, rfl, (by unfold fCome; rw [if_pos hlt]), (by unfold fCome; rw [if_pos hlt, e4]; exact h3.sets (by unfold scal; omega) _), (by rw [e4, e3, e2, e1]; exact (((OutW.refl.upd (by omega)).upd (by omega)).upd (by omega)).upd (by omega))⟩
  · have hlt : ¬ tn (S 0) < 8 := by rw [nlt (by omega) (by omega)] at c6; omega
    refine x_ldc G d_Wo_come_9 kc_Wo_65 ?_
    exact m_iret E G d_Wo_come_11 hx rfl rfl ⟨_, rfl, (by unfold fCome; rw [if_neg hlt]), (by unfold fCome; rw [if_neg hlt]; exact hR), OutW.refl⟩
theorem p_Wo_become (g : CX) (d : Nat) (hd : 1 ≤ d) (σ : Sg) (w w' : Nat) (hw : isW w) (hw' : isW w') (hww : w ≠ w') (S : Rw) (hR : WRel w' S σ) : RunM g d Wo_become [.ref w, .ref w'] σ (PV (fun σ1 => WRel w S σ1 ∧ OutW w σ σ1)) := by
  refine RunM.of 1 (by decide +kernel) rfl ?_
  intro κ hg hx hk0 G E
  subst hg
  have hk : 3 ≤ kn κ := Nat.le_of_eq hk0.symm
  show X κ NC 0 [some (.ref w), some (.ref w'), none] [] (hv σ)
  have hne : w' ≠ w := Ne.symm hww
  have hd15 : w' + 15 ≤ w ∨ w + 15 ≤ w' := by rcases hw with rfl | rfl | rfl <;> rcases hw' with rfl | rfl | rfl <;> first | exact absurd rfl hww | decide
  refine x_iconst (v := nI 0) G d_Wo_become_0 rfl ?_
  refine x_istore2 G d_Wo_become_1 rfl hk ?_
  have hloop1 : ∀ (m k : Nat) (σ1 : Sg), k ≤ 6 → 6 < k + m → (∀ k' i, k' < k → i < 8 → σ1 (w + 2 + k') i = S (ixP i k')) → (∀ a, (a < w + 2 ∨ w + 8 ≤ a) → σ1 a = σ a) → X κ NC 2 [some (.ref w), some (.ref w'), some (.int (nI k))] [] (hv σ1) := by
    intro m
    induction m with
    | zero => intro k σ1 h1 h2; omega
    | succ m ih1 =>
      intro k σ1 hk1 hk2 hP1 hO1
      refine x_iload2 G d_Wo_become_2 ?_
      refine x_aload0 G d_Wo_become_3 ?_
      refine m_getr G d_Wo_become_4 fl_Wo_11 (W_o hw) (W_l hw) (W_r2 hw) ?_
      refine m_alen G d_Wo_become_7 (W_s1 hw) (by decide) (shp_lt (W_s1 hw) (by decide)) rfl ?_
      refine x_icmp_ge G d_Wo_become_8 (fun c8 => ?_) (fun c8 => ?_)
      · have hk6 : k = 6 := by have q := (nle (a := 6) (b := k) (by omega) (by omega)).mp c8; omega
        subst hk6
        refine x_iconst (v := nI 0) G d_Wo_become_36 rfl ?_
        refine x_istore2 G d_Wo_become_37 rfl hk ?_
        have hloop2 : ∀ (m k : Nat) (σ2 : Sg), k ≤ 3 → 3 < k + m → (∀ k' i, k' < k → i < 9 → σ2 (w + 9 + k') i = S (ixF i k')) → (∀ a, (a < w + 9 ∨ w + 12 ≤ a) → σ2 a = σ1 a) → X κ NC 38 [some (.ref w), some (.ref w'), some (.int (nI k))] [] (hv σ2) := by
          intro m
          induction m with
          | zero => intro k σ2 h1 h2; omega
          | succ m ih2 =>
            intro k σ2 hk3 hk4 hP2 hO2
            refine x_iload2 G d_Wo_become_38 ?_
            refine x_aload0 G d_Wo_become_39 ?_
            refine m_getr G d_Wo_become_40 fl_Wo_16 (W_o hw) (W_l hw) (W_r3 hw) ?_
            refine m_alen G d_Wo_become_43 (W_s8 hw) (by decide) (shp_lt (W_s8 hw) (by decide)) rfl ?_
            refine x_icmp_ge G d_Wo_become_44 (fun c44 => ?_) (fun c44 => ?_)
            · have hk6 : k = 3 := by have q := (nle (a := 3) (b := k) (by omega) (by omega)).mp c44; omega
              subst hk6
              refine x_aload1 G d_Wo_become_72 ?_
              refine m_getr G d_Wo_become_73 fl_Wo_19 (W_o hw') (W_l hw') (W_r4 hw') ?_
              refine x_iconst (v := nI 0) G d_Wo_become_76 rfl ?_
              refine x_aload0 G d_Wo_become_77 ?_
              refine m_getr G d_Wo_become_78 fl_Wo_19 (W_o hw) (W_l hw) (W_r4 hw) ?_
              refine x_iconst (v := nI 0) G d_Wo_become_81 rfl ?_
              refine x_bipush (v := nI 8) G d_Wo_become_82 rfl ?_
              refine m_cpy 0 0 8 lm_Wo_59 G d_Wo_become_84 (by decide) (W_s12 hw') (W_s12 hw) (shp_lt (W_s12 hw') (by decide)) (shp_lt (W_s12 hw) (by decide)) rfl rfl rfl (by decide) (by decide) (fun h => absurd h (by decide)) (by omega) (Nat.le_of_ble_eq_true rfl) ?_
              refine x_aload1 G d_Wo_become_87 ?_
              refine m_getr G d_Wo_become_88 fl_Wo_26 (W_o hw') (W_l hw') (W_r6 hw') ?_
              refine x_iconst (v := nI 0) G d_Wo_become_91 rfl ?_
              refine x_aload0 G d_Wo_become_92 ?_
              refine m_getr G d_Wo_become_93 fl_Wo_26 (W_o hw) (W_l hw) (W_r6 hw) ?_
              refine x_iconst (v := nI 0) G d_Wo_become_96 rfl ?_
              refine x_iconst (v := nI 3) G d_Wo_become_97 rfl ?_
              refine m_cpy 0 0 3 lm_Wo_59 G d_Wo_become_98 (by decide) (W_s14 hw') (W_s14 hw) (shp_lt (W_s14 hw') (by decide)) (shp_lt (W_s14 hw) (by decide)) rfl rfl rfl (by decide) (by decide) (fun h => absurd h (by decide)) (by omega) (Nat.le_of_ble_eq_true rfl) ?_
              obtain ⟨σ4, e4⟩ : ∃ z, z = updR (updR σ2 (w + 12) (va_cpy (σ2 (w' + 12)) (σ2 (w + 12)) 0 0 8)) (w + 14) (va_cpy (updR σ2 (w + 12) (va_cpy (σ2 (w' + 12)) (σ2 (w + 12)) 0 0 8) (w' + 14)) (updR σ2 (w + 12) (va_cpy (σ2 (w' + 12)) (σ2 (w + 12)) 0 0 8) (w + 14)) 0 0 3) := ⟨_, rfl⟩
              rw [← e4]
              have o4 : ∀ a, (a < w ∨ w + 15 ≤ a) → σ4 a = σ a := fun a ha => by rw [e4, updR_nk (by omega), updR_nk (by omega), hO2 a (by omega), hO1 a (by omega)]
              have hR4 : WRel w' S σ4 := hR.frame (fun k h1 h2 _ => o4 k (by omega))
              have q12 : ∀ i, i < 8 → σ4 (w + 12) i = S (ixP i 6) := fun i hi => by
                rw [e4, updR_nk (by omega), updR_at, pk_cpy_in (Nat.zero_le _) (by omega), show 0 + (i - 0) = i by omega, hO2 (w' + 12) (by omega), hO1 (w' + 12) (by omega)]
                exact hR.t hi
              have q14 : ∀ k, k < 3 → σ4 (w + 14) k = cnt S k := fun k hk => by
                rw [e4, updR_at, pk_cpy_in (Nat.zero_le _) (by omega), show 0 + (k - 0) = k by omega, updR_nk (by omega), hO2 (w' + 14) (by omega), hO1 (w' + 14) (by omega)]
                exact hR.c hk
              have qp : ∀ k i, k < 6 → i < 8 → σ4 (w + 2 + k) i = S (ixP i k) := fun k i h1 h2 => by
                rw [e4, updR_nk (by omega), updR_nk (by omega), hO2 (w + 2 + k) (by omega)]
                exact hP1 k i h1 h2
              have qf : ∀ k f, k < 3 → f < 9 → σ4 (w + 9 + k) f = S (ixF f k) := fun k f h1 h2 => by
                rw [e4, updR_nk (by omega), updR_nk (by omega)]
                exact hP2 k f h1 h2
              refine x_aload0 G d_Wo_become_101 ?_
              refine x_aload1 G d_Wo_become_102 ?_
              refine m_geti G d_Wo_become_103 fl_Wo_29 (W_o hw') (W_l hw') (W_ij hw' 7 (by decide) (by decide)) ?_
              rw [hR4.n]
              refine m_puti G d_Wo_become_106 fl_Wo_29 (W_o hw) (W_l hw) (W_ij hw 7 (by decide) (by decide)) rfl rfl ?_
              refine x_aload0 G d_Wo_become_109 ?_
              refine x_aload1 G d_Wo_become_110 ?_
              refine m_geti G d_Wo_become_111 fl_Wo_33 (W_o hw') (W_l hw') (W_ij hw' 8 (by decide) (by decide)) ?_
              simp only [updS_nk hne, hR4.noon]
              refine m_puti G d_Wo_become_114 fl_Wo_33 (W_o hw) (W_l hw) (W_ij hw 8 (by decide) (by decide)) rfl rfl ?_
              refine x_aload0 G d_Wo_become_117 ?_
              refine x_aload1 G d_Wo_become_118 ?_
              refine m_geti G d_Wo_become_119 fl_Wo_36 (W_o hw') (W_l hw') (W_ij hw' 9 (by decide) (by decide)) ?_
              simp only [updS_nk hne, hR4.late]
              refine m_puti G d_Wo_become_122 fl_Wo_36 (W_o hw) (W_l hw) (W_ij hw 9 (by decide) (by decide)) rfl rfl ?_
              refine x_aload0 G d_Wo_become_125 ?_
              refine x_aload1 G d_Wo_become_126 ?_
              refine m_geti G d_Wo_become_127 fl_Wo_39 (W_o hw') (W_l hw') (W_ij hw' 10 (by decide) (by decide)) ?_
              simp only [updS_nk hne, hR4.steps]
              refine m_puti G d_Wo_become_130 fl_Wo_39 (W_o hw) (W_l hw) (W_ij hw 10 (by decide) (by decide)) rfl rfl ?_
              refine x_aload0 G d_Wo_become_133 ?_
              refine x_aload1 G d_Wo_become_134 ?_
              refine m_geti G d_Wo_become_135 fl_Wo_42 (W_o hw') (W_l hw') (W_ij hw' 11 (by decide) (by decide)) ?_
              simp only [updS_nk hne, hR4.left]
              refine m_puti G d_Wo_become_138 fl_Wo_42 (W_o hw) (W_l hw) (W_ij hw 11 (by decide) (by decide)) rfl rfl ?_
              refine x_aload0 G d_Wo_become_141 ?_
              refine x_aload1 G d_Wo_become_142 ?_
              refine m_geti G d_Wo_become_143 fl_Wo_45 (W_o hw') (W_l hw') (W_ij hw' 12 (by decide) (by decide)) ?_
              simp only [updS_nk hne, hR4.z]
              refine m_puti G d_Wo_become_146 fl_Wo_45 (W_o hw) (W_l hw) (W_ij hw 12 (by decide) (by decide)) rfl rfl ?_
              refine x_aload0 G d_Wo_become_149 ?_
              refine x_aload1 G d_Wo_become_150 ?_
              refine m_geti G d_Wo_become_151 fl_Wo_48 (W_o hw') (W_l hw') (W_ij hw' 13 (by decide) (by decide)) ?_
              simp only [updS_nk hne, hR4.texts]
              refine m_puti G d_Wo_become_154 fl_Wo_48 (W_o hw) (W_l hw) (W_ij hw 13 (by decide) (by decide)) rfl rfl ?_
              exact m_vret E G d_Wo_become_157 hx rfl ⟨rfl, (by
  have nk : ∀ k, k ≠ w → updS (updS (updS (updS (updS (updS (updS σ4 w 7 (S 0)) w 8 (S 2)) w 9 (S 5)) w 10 (S 3)) w 11 (S 4)) w 12 (S 6)) w 13 (S 1) k = σ4 k := fun k hk => by simp only [updS_nk hk]
  refine ⟨fun k i h1 h2 => by rw [nk _ (by omega)]; exact qp k i h1 h2, fun k f h1 h2 => by rw [nk _ (by omega)]; exact qf k f h1 h2, fun i hi => by rw [nk _ (by omega)]; exact q12 i hi, fun k hk => by rw [nk _ (by omega)]; exact q14 k hk, ?_⟩
  simp [updS]), fun a ha _ => by simp only [updS_nk (show a ≠ w by omega)]; exact o4 a ha⟩
            · have hk6 : k < 3 := by
                rcases Nat.lt_or_ge k 3 with q | q
                · exact q
                · exact absurd ((nle (a := 3) (b := k) (by omega) (by omega)).mpr q) c44
              refine x_aload1 G d_Wo_become_47 ?_
              refine m_getr G d_Wo_become_48 fl_Wo_16 (W_o hw') (W_l hw') (W_r3 hw') ?_
              refine x_iload2 G d_Wo_become_51 ?_
              refine m_aald k G d_Wo_become_52 (W_s8 hw') (by decide) rfl ⟨by omega, by first | decide | omega⟩ (W_f hw' hk6) ?_
              refine x_iconst (v := nI 0) G d_Wo_become_53 rfl ?_
              refine x_aload0 G d_Wo_become_54 ?_
              refine m_getr G d_Wo_become_55 fl_Wo_16 (W_o hw) (W_l hw) (W_r3 hw) ?_
              refine x_iload2 G d_Wo_become_58 ?_
              refine m_aald k G d_Wo_become_59 (W_s8 hw) (by decide) rfl ⟨by omega, by first | decide | omega⟩ (W_f hw hk6) ?_
              refine x_iconst (v := nI 0) G d_Wo_become_60 rfl ?_
              refine x_bipush (v := nI 9) G d_Wo_become_61 rfl ?_
              refine m_cpy 0 0 9 lm_Wo_59 G d_Wo_become_63 (by decide) (W_sf hw' hk6) (W_sf hw hk6) (shp_lt (W_sf hw' hk6) (by decide)) (shp_lt (W_sf hw hk6) (by decide)) rfl rfl rfl (by decide) (by decide) (fun h => absurd h (by decide)) (by omega) (Nat.le_of_ble_eq_true rfl) ?_
              refine x_iinc2 (v := nI (k + 1)) G d_Wo_become_66 rfl hk (nI_1 _) ?_
              refine x_goto G d_Wo_become_69 ?_
              exact ih2 (k + 1) _ (by omega) (by omega) (fun k' i h1 h2 => by
                by_cases q : k' = k
                · subst q
                  rw [updR_at, pk_cpy_in (Nat.zero_le _) (by omega), show 0 + (i - 0) = i by omega, hO2 (w' + 9 + k') (by omega), hO1 (w' + 9 + k') (by omega)]
                  exact hR.f k' hk6 h2
                · rw [updR_nk (by omega)]
                  exact hP2 k' i (by omega) h2) (fun a ha => by rw [updR_nk (by omega)]; exact hO2 a ha)
        exact hloop2 4 0 σ1 (Nat.zero_le _) (by omega) (fun _ _ h => absurd h (Nat.not_lt_zero _)) (fun _ _ => rfl)
      · have hk6 : k < 6 := by
          rcases Nat.lt_or_ge k 6 with q | q
          · exact q
          · exact absurd ((nle (a := 6) (b := k) (by omega) (by omega)).mpr q) c8
        refine x_aload1 G d_Wo_become_11 ?_
        refine m_getr G d_Wo_become_12 fl_Wo_11 (W_o hw') (W_l hw') (W_r2 hw') ?_
        refine x_iload2 G d_Wo_become_15 ?_
        refine m_aald k G d_Wo_become_16 (W_s1 hw') (by decide) rfl ⟨by omega, by first | decide | omega⟩ (W_p hw' hk6) ?_
        refine x_iconst (v := nI 0) G d_Wo_become_17 rfl ?_
        refine x_aload0 G d_Wo_become_18 ?_
        refine m_getr G d_Wo_become_19 fl_Wo_11 (W_o hw) (W_l hw) (W_r2 hw) ?_
        refine x_iload2 G d_Wo_become_22 ?_
        refine m_aald k G d_Wo_become_23 (W_s1 hw) (by decide) rfl ⟨by omega, by first | decide | omega⟩ (W_p hw hk6) ?_
        refine x_iconst (v := nI 0) G d_Wo_become_24 rfl ?_
        refine x_bipush (v := nI 8) G d_Wo_become_25 rfl ?_
        refine m_cpy 0 0 8 lm_Wo_59 G d_Wo_become_27 (by decide) (W_sp hw' hk6) (W_sp hw hk6) (shp_lt (W_sp hw' hk6) (by decide)) (shp_lt (W_sp hw hk6) (by decide)) rfl rfl rfl (by decide) (by decide) (fun h => absurd h (by decide)) (by omega) (Nat.le_of_ble_eq_true rfl) ?_
        refine x_iinc2 (v := nI (k + 1)) G d_Wo_become_30 rfl hk (nI_1 _) ?_
        refine x_goto G d_Wo_become_33 ?_
        exact ih1 (k + 1) _ (by omega) (by omega) (fun k' i h1 h2 => by
          by_cases q : k' = k
          · subst q
            rw [updR_at, pk_cpy_in (Nat.zero_le _) (by omega), show 0 + (i - 0) = i by omega, hO1 (w' + 2 + k') (by omega)]
            exact hR.p k' hk6 h2
          · rw [updR_nk (by omega)]
            exact hP1 k' i (by omega) h2) (fun a ha => by rw [updR_nk (by omega)]; exact hO1 a ha)
  exact hloop1 7 0 σ (Nat.zero_le _) (by omega) (fun _ _ h => absurd h (Nat.not_lt_zero _)) (fun _ _ => rfl)
