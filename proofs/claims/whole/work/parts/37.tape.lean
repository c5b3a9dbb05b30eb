/-! the tape: feed, trim -/
def byB (a : Int32) (j : Nat) : Int32 := nI (a.toBitVec.toNat / 2 ^ (24 - 8 * j) % 256)
theorem byB_In (a : Int32) (j : Nat) : In (byB a j) 255 := In.mk' (by have := Nat.mod_lt (a.toBitVec.toNat / 2 ^ (24 - 8 * j)) (show 256 > 0 by decide); omega) (by decide)
theorem c4 {j : Nat} (h : j < 4) : j = 0 ∨ j = 1 ∨ j = 2 ∨ j = 3 := by omega
theorem by_u (a : Int32) (j : Nat) (hj : j < 4) : (a.toUInt32 >>> ((nI (24 - 8 * j)).toUInt32 &&& Int32.toUInt32 31)).toInt32 &&& nI 255 = byB a j := by
  rw [pk_and _ (m := nI 255) 8 (by decide)]
  unfold byB
  congr 1
  rcases c4 hj with rfl | rfl | rfl | rfl
  · rw [pk_ushr a (nI (24 - 8 * 0)) 24 (by decide)]
  · rw [pk_ushr a (nI (24 - 8 * 1)) 16 (by decide)]
  · rw [pk_ushr a (nI (24 - 8 * 2)) 8 (by decide)]
  · rw [pk_ushr a (nI (24 - 8 * 3)) 0 (by decide)]
theorem bv_int (x : Int32) : (x.toBitVec.toNat : Int) = x.toInt % 2 ^ 32 := by
  show (x.toBitVec.toNat : Int) = x.toBitVec.toInt % 2 ^ 32
  rw [BitVec.toInt_eq_toNat_cond]
  have := x.toBitVec.isLt
  split <;> omega
theorem by_s (a : Int32) (j : Nat) (hj : j < 4) : (a >>> (nI (24 - 8 * j) &&& 31)) &&& nI 255 = byB a j := by
  rw [pk_and _ (m := nI 255) 8 (by decide)]
  unfold byB
  congr 1
  have h1 := bv_int (a >>> (nI (24 - 8 * j) &&& 31))
  have h2 := bv_int a
  have ha := a.toBitVec.isLt
  rcases c4 hj with rfl | rfl | rfl | rfl
  · rw [pk_shr a (nI (24 - 8 * 0) &&& 31) 24 (by decide), Int.shiftRight_eq_div_pow] at h1
    simp only [show 24 - 8 * 0 = 24 from rfl] at h1 ⊢
    omega
  · rw [pk_shr a (nI (24 - 8 * 1) &&& 31) 16 (by decide), Int.shiftRight_eq_div_pow] at h1
    simp only [show 24 - 8 * 1 = 16 from rfl] at h1 ⊢
    omega
  · rw [pk_shr a (nI (24 - 8 * 2) &&& 31) 8 (by decide), Int.shiftRight_eq_div_pow] at h1
    simp only [show 24 - 8 * 2 = 8 from rfl] at h1 ⊢
    omega
  · rw [pk_shr a (nI (24 - 8 * 3) &&& 31) 0 (by decide), Int.shiftRight_eq_div_pow] at h1
    simp only [show 24 - 8 * 3 = 0 from rfl] at h1 ⊢
    omega
def shN (j : Nat) : Int32 := if j < 4 then nI (24 - 8 * j) else -8
theorem shN_next : ∀ j, j < 4 → shN j + (-8) = shN (j + 1) := by decide +kernel
theorem shN_neg : ∀ j, j < 4 → ¬ shN j < 0 := by decide +kernel
def fdB (a b c : Int32) (k : Nat) : Int32 := byB (if k < 4 then a else if k < 8 then b else c) (k % 4)
/-- the tape at the object o (its field j how many) with its bytes at t is fed -/
def FedAt (o j t n : Nat) (a b c : Int32) (σ σ1 : Sg) : Prop := σ1 o j = nI (n + 12) ∧ (∀ i, i < 12 → σ1 t (n + i) = fdB a b c i) ∧ (∀ i, i < n → σ1 t i = σ t i) ∧ (∀ i, i ≠ j → σ1 o i = σ o i) ∧ ∀ k, k ≠ o → k ≠ t → σ1 k = σ k
theorem p_Ta_append (g : CX) (d : Nat) (hd : 0 ≤ d) (σ : Sg) (n : Nat) (hn : σ 73 2 = nI n) (hn9 : n + 4 ≤ 96) (a : Int32) : RunM g d Ta_append [.ref 73, .int a] σ (PV (fun σ1 => σ1 73 2 = nI (n + 4) ∧ (∀ i, i < 4 → σ1 74 (n + i) = byB a i) ∧ (∀ i, (i < n ∨ n + 4 ≤ i) → σ1 74 i = σ 74 i) ∧ (∀ i, i ≠ 2 → σ1 73 i = σ 73 i) ∧ ∀ k, k ≠ 73 → k ≠ 74 → σ1 k = σ k)) := by
  refine RunM.of 1 (by decide +kernel) rfl ?_
  intro κ hg hx hk0 G E
  subst hg
  have hk : 3 ≤ kn κ := Nat.le_of_eq hk0.symm
  show X κ NC 0 [some (.ref 73), some (.int a), none] [] (hv σ)
  refine x_bipush (v := nI 24) G d_Ta_append_0 rfl ?_
  refine x_istore2 G d_Ta_append_2 rfl hk ?_
  have hloop : ∀ (m j : Nat) (σ1 : Sg), j ≤ 4 → 4 < j + m → (σ1 73 2 = nI (n + j) ∧ (∀ i, i < j → σ1 74 (n + i) = byB a i) ∧ (∀ i, (i < n ∨ n + j ≤ i) → σ1 74 i = σ 74 i) ∧ (∀ i, i ≠ 2 → σ1 73 i = σ 73 i) ∧ ∀ k, k ≠ 73 → k ≠ 74 → σ1 k = σ k) → X κ NC 3 [some (.ref 73), some (.int a), some (.int (shN j))] [] (hv σ1) := by
    intro m
    induction m with
    | zero => intro j σ1 h1 h2; omega
    | succ m ih =>
      intro j σ1 hj1 hj2 ⟨a1, a2, a3, a4, a5⟩
      refine x_iload2 G d_Ta_append_3 ?_
      refine x_if_lt G d_Ta_append_4 (fun c4 => ?_) (fun c4 => ?_)
      · have hj4 : j = 4 := by rcases Nat.lt_or_ge j 4 with z | z; exact absurd c4 (shN_neg j z); omega
        exact m_vret E G d_Ta_append_48 hx rfl ⟨rfl, by rw [hj4] at a1 a2 a3; exact ⟨a1, a2, a3, a4, a5⟩⟩
      · have hj4 : j < 4 := by rcases Nat.lt_or_ge j 4 with z | z; exact z; exact absurd (show shN j < 0 by rw [show j = 4 by omega]; decide) c4
        refine x_aload0 G d_Ta_append_7 ?_
        refine m_geti G d_Ta_append_8 fl_Ta_18 rfl (by decide) rfl ?_
        rw [a1]
        refine x_bipush (v := nI 96) G d_Ta_append_11 rfl ?_
        refine x_icmp_ge G d_Ta_append_13 (fun c13 => ?_) (fun c13 => ?_)
        · exact absurd c13 (nI_ge (by omega) (by decide))
        · refine x_aload0 G d_Ta_append_16 ?_
          refine m_getr G d_Ta_append_17 fl_Ta_9 rfl (by decide) rfl ?_
          refine x_aload0 G d_Ta_append_20 ?_
          refine m_geti G d_Ta_append_21 fl_Ta_18 rfl (by decide) rfl ?_
          rw [a1, show shN j = nI (24 - 8 * j) from if_pos hj4]
          refine x_iload1 G d_Ta_append_24 ?_
          refine x_iload2 G d_Ta_append_25 ?_
          refine x_iushr G d_Ta_append_26 ?_
          refine x_sipush (v := nI 255) G d_Ta_append_27 rfl ?_
          refine x_iand G d_Ta_append_30 ?_
          rw [by_u a j hj4]
          refine m_iast_n (n + j) G d_Ta_append_31 rfl rfl ⟨by omega, by first | decide | omega⟩ (fun σ2 e2 => ?_)
          refine x_aload0 G d_Ta_append_32 ?_
          refine x_dup G d_Ta_append_33 rfl ?_
          refine m_geti G d_Ta_append_34 fl_Ta_18 rfl (by decide) rfl ?_
          rw [show σ2 73 2 = nI (n + j) by rw [e2, updS_nk (by decide)]; exact a1]
          refine x_iconst (v := nI 1) G d_Ta_append_37 rfl ?_
          refine x_iadd G d_Ta_append_38 ?_
          rw [show nI (n + j) + nI 1 = nI (n + j + 1) from nI_1 _]
          refine m_puti_n G d_Ta_append_39 fl_Ta_18 rfl (by decide) rfl rfl rfl (fun σ3 e3 => ?_)
          refine x_iinc2 (v := shN (j + 1)) G d_Ta_append_42 rfl hk (by rw [show nI (24 - 8 * j) = shN j from (if_pos hj4).symm]; exact shN_next j hj4) ?_
          refine x_goto G d_Ta_append_45 ?_
          exact ih (j + 1) σ3 (by omega) (by omega) ⟨by rw [e3, updS_at, Nat.add_assoc], (fun i hi => if e : i = j then (by rw [e, e3, updS_nk (by decide), e2, updS_at]) else (by rw [e3, updS_nk (by decide), e2, updS_ne (by omega)]; exact a2 i (by omega))), (fun i hi => by rw [e3, updS_nk (by decide), e2, updS_ne (by omega)]; exact a3 i (by omega)), (fun i hi => by rw [e3, updS_ne (by omega), e2, updS_nk (by decide)]; exact a4 i hi), (fun k x y => by rw [e3, updS_nk x, e2, updS_nk y]; exact a5 k x y)⟩
  exact hloop 5 0 σ (by decide) (by decide) ⟨hn, (fun i hi => absurd hi (Nat.not_lt_zero i)), (fun _ _ => rfl), (fun _ _ => rfl), (fun _ _ _ => rfl)⟩
theorem p_N_feed (g : CX) (d : Nat) (hd : 1 ≤ d) (σ : Sg) (n : Nat) (hn : σ 73 2 = nI n) (hn96 : n ≤ 96) (a b c : Int32) : RunM g d N_feed [.ref 0, .int a, .int b, .int c] σ (PR (fun v σ1 => v = (if n ≤ 84 then nI (n + 12) else -1000000003) ∧ (n ≤ 84 → FedAt 73 2 74 n a b c σ σ1) ∧ (¬ n ≤ 84 → σ1 = σ))) := by
  refine RunM.of 0 (by decide +kernel) rfl ?_
  intro κ hg hx hk0 G E
  subst hg
  have hk : 4 ≤ kn κ := Nat.le_of_eq hk0.symm
  show X κ NC 0 [some (.ref 0), some (.int a), some (.int b), some (.int c)] [] (hv σ)
  refine x_aload0 G d_N_feed_0 ?_
  refine m_getr G d_N_feed_1 fl_N_56 rfl (by decide) rfl ?_
  refine m_geti G d_N_feed_4 fl_N_240 rfl (by decide) rfl ?_
  rw [hn]
  refine x_bipush (v := nI 84) G d_N_feed_7 rfl ?_
  refine x_icmp_le G d_N_feed_9 (fun c9 => ?_) (fun c9 => ?_)
  · have h84 : n ≤ 84 := (nle (by omega) (by decide)).mp c9
    refine x_aload0 G d_N_feed_15 ?_
    refine m_getr G d_N_feed_16 fl_N_56 rfl (by decide) rfl ?_
    refine x_iload1 G d_N_feed_19 ?_
    refine m_callV_pv (p_Ta_append (kg κ) (d - 1) (by omega) σ (n) hn (by omega) _) G d_N_feed_20 lk_N_244 rfl ⟨by decide, rfl⟩ (by decide) (by omega) rfl (Nat.le_of_ble_eq_true rfl) hx (fun σ1 ⟨e1, e2, e3, e4, e5⟩ => ?_)
    refine x_aload0 G d_N_feed_23 ?_
    refine m_getr G d_N_feed_24 fl_N_56 rfl (by decide) rfl ?_
    refine x_iload2 G d_N_feed_27 ?_
    refine m_callV_pv (p_Ta_append (kg κ) (d - 1) (by omega) σ1 (n + 4) e1 (by omega) _) G d_N_feed_28 lk_N_244 rfl ⟨by decide, rfl⟩ (by decide) (by omega) rfl (Nat.le_of_ble_eq_true rfl) hx (fun σ2 ⟨f1, f2, f3, f4, f5⟩ => ?_)
    refine x_aload0 G d_N_feed_31 ?_
    refine m_getr G d_N_feed_32 fl_N_56 rfl (by decide) rfl ?_
    refine x_iload3 G d_N_feed_35 ?_
    refine m_callV_pv (p_Ta_append (kg κ) (d - 1) (by omega) σ2 (n + 4 + 4) f1 (by omega) _) G d_N_feed_36 lk_N_244 rfl ⟨by decide, rfl⟩ (by decide) (by omega) rfl (Nat.le_of_ble_eq_true rfl) hx (fun σ3 ⟨g1, g2, g3, g4, g5⟩ => ?_)
    refine x_aload0 G d_N_feed_39 ?_
    refine m_getr G d_N_feed_40 fl_N_56 rfl (by decide) rfl ?_
    refine m_geti G d_N_feed_43 fl_N_240 rfl (by decide) rfl ?_
    have h1 : σ3 73 2 = nI (n + 12) := g1
    rw [h1]
    exact m_iret E G d_N_feed_46 hx rfl rfl ⟨_, rfl, (by rw [if_pos h84]), (fun _ => ⟨h1, fun i hi => by
      unfold fdB
      by_cases w1 : i < 4
      · rw [if_pos w1, show i % 4 = i by omega, g3 (n + i) (by omega), f3 (n + i) (by omega)]; exact e2 i w1
      · rw [if_neg w1]
        by_cases w2 : i < 8
        · rw [if_pos w2, g3 (n + i) (by omega), show n + i = n + 4 + (i - 4) by omega, f2 (i - 4) (by omega), show i % 4 = i - 4 by omega]
        · rw [if_neg w2, show n + i = n + 4 + 4 + (i - 8) by omega, g2 (i - 8) (by omega), show i % 4 = i - 8 by omega], fun i hi => by rw [g3 i (by omega), f3 i (by omega), e3 i (by omega)], fun i hi => by rw [g4 i hi, f4 i hi, e4 i hi], fun k x y => by rw [g5 k x y, f5 k x y, e5 k x y]⟩), fun z => absurd h84 z⟩
  · have h84 : ¬ n ≤ 84 := fun z => c9 ((nle (by omega) (by decide)).mpr z)
    refine x_ldc G d_N_feed_12 kc_N_243 ?_
    exact m_iret E G d_N_feed_14 hx rfl rfl ⟨_, rfl, (by rw [if_neg h84]), (fun z => absurd z h84), fun _ => rfl⟩
theorem p_N_trim (g : CX) (d : Nat) (hd : 1 ≤ d) (σ : Sg) (n : Nat) (hn : σ 73 2 = nI n) (x : Int32) : RunM g d N_trim [.ref 0, .int x] σ (PR (fun v σ1 => v = (if upB x (nI n) = true then x else -1000000001) ∧ σ1 = (if upB x (nI n) = true then updS σ 73 2 x else σ))) := by
  refine RunM.of 0 (by decide +kernel) rfl ?_
  intro κ hg hx hk0 G E
  subst hg
  have hk : 2 ≤ kn κ := Nat.le_of_eq hk0.symm
  show X κ NC 0 [some (.ref 0), some (.int x)] [] (hv σ)
  refine x_iload1 G d_N_trim_0 ?_
  refine x_aload0 G d_N_trim_1 ?_
  refine m_getr G d_N_trim_2 fl_N_56 rfl (by decide) rfl ?_
  refine m_geti G d_N_trim_5 fl_N_240 rfl (by decide) rfl ?_
  rw [hn]
  refine m_callS_pi (p_N_isUpTo (kg κ) (d - 1) (Nat.zero_le _) _ _ _) G d_N_trim_8 lk_N_98 (by omega) rfl (Nat.le_of_ble_eq_true rfl) hx ?_
  refine x_if_ne G d_N_trim_11 (fun c11 => ?_) (fun c11 => ?_)
  · replace c11 := bI_n0.mp c11
    refine x_aload0 G d_N_trim_17 ?_
    refine m_getr G d_N_trim_18 fl_N_56 rfl (by decide) rfl ?_
    refine x_iload1 G d_N_trim_21 ?_
    refine m_puti_n G d_N_trim_22 fl_N_240 rfl (by decide) rfl rfl rfl (fun σ1 e1 => ?_)
    refine x_iload1 G d_N_trim_25 ?_
    exact m_iret E G d_N_trim_26 hx rfl rfl ⟨_, rfl, (by rw [if_pos c11]), (by rw [if_pos c11, e1])⟩
  · replace c11 := bI_0.mp c11
    refine x_ldc G d_N_trim_14 kc_N_102 ?_
    exact m_iret E G d_N_trim_16 hx rfl rfl ⟨_, rfl, (by rw [if_neg (by rw [c11]; decide)]), (by rw [if_neg (by rw [c11]; decide)])⟩
theorem p_M_trim (g : CX) (d : Nat) (hd : 1 ≤ d) (σ : Sg) (n : Nat) (hn : σ 113 18 = nI n) (x : Int32) : RunM g d M_trim [.ref 113, .int x] σ (PR (fun v σ1 => v = (if upB x (nI n) = true then x else -1000000001) ∧ σ1 = (if upB x (nI n) = true then updS σ 113 18 x else σ))) := by
  refine RunM.of 0 (by decide +kernel) rfl ?_
  intro κ hg hx hk0 G E
  subst hg
  have hk : 2 ≤ kn κ := Nat.le_of_eq hk0.symm
  show X κ NC 0 [some (.ref 113), some (.int x)] [] (hv σ)
  refine x_iload1 G d_M_trim_0 ?_
  refine x_i2l G d_M_trim_1 ?_
  refine x_lconst (v := 0) G d_M_trim_2 rfl ?_
  refine x_aload0 G d_M_trim_3 ?_
  refine m_geti G d_M_trim_4 fl_M_213 rfl (by decide) rfl ?_
  rw [hn]
  refine x_i2l G d_M_trim_7 ?_
  refine m_callS_pi (p_M_isUp (kg κ) (d - 1) _ _ n _ _ _ rfl (by decide +kernel) rfl) G d_M_trim_8 lk_M_82 (by omega) rfl (Nat.le_of_ble_eq_true rfl) hx ?_
  refine x_if_ne G d_M_trim_11 (fun c11 => ?_) (fun c11 => ?_)
  · replace c11 := bI_n0.mp c11
    refine x_aload0 G d_M_trim_17 ?_
    refine x_iload1 G d_M_trim_18 ?_
    refine m_puti_n G d_M_trim_19 fl_M_213 rfl (by decide) rfl rfl rfl (fun σ1 e1 => ?_)
    refine x_iload1 G d_M_trim_22 ?_
    exact m_iret E G d_M_trim_23 hx rfl rfl ⟨_, rfl, (by rw [if_pos c11]), (by rw [if_pos c11, e1])⟩
  · replace c11 := bI_0.mp c11
    refine x_ldc G d_M_trim_14 kc_M_98 ?_
    exact m_iret E G d_M_trim_16 hx rfl rfl ⟨_, rfl, (by rw [if_neg (by rw [c11]; decide)]), (by rw [if_neg (by rw [c11]; decide)])⟩
theorem p_M_feed (g : CX) (d : Nat) (hd : 1 ≤ d) (σ : Sg) (n : Nat) (hn : σ 113 18 = nI n) (hn96 : n ≤ 96) (a b c : Int32) : RunM g d M_feed [.ref 113, .int a, .int b, .int c] σ (PR (fun v σ1 => v = (if n ≤ 84 then nI (n + 12) else -1000000003) ∧ (n ≤ 84 → FedAt 113 18 129 n a b c σ σ1) ∧ (¬ n ≤ 84 → σ1 = σ))) := by
  refine RunM.of 2 (by decide +kernel) rfl ?_
  intro κ hg hx hk0 G E
  subst hg
  have hk : 6 ≤ kn κ := Nat.le_of_eq hk0.symm
  show X κ NC 0 [some (.ref 113), some (.int a), some (.int b), some (.int c), none, none] [] (hv σ)
  refine x_aload0 G d_M_feed_0 ?_
  refine m_geti G d_M_feed_1 fl_M_213 rfl (by decide) rfl ?_
  rw [hn]
  refine x_bipush (v := nI 12) G d_M_feed_4 rfl ?_
  refine x_iadd G d_M_feed_6 ?_
  rw [nI_add]
  refine x_bipush (v := nI 96) G d_M_feed_7 rfl ?_
  refine x_icmp_le G d_M_feed_9 (fun c9 => ?_) (fun c9 => ?_)
  · have h84 : n ≤ 84 := by rw [nle (by omega) (by decide)] at c9; omega
    refine x_iconst (v := nI 0) G d_M_feed_15 rfl ?_
    refine x_istore4 G d_M_feed_16 rfl hk ?_
    have hloop : ∀ (m k : Nat) (σ1 : Sg) (o5 : Option Value), k ≤ 12 → 12 < k + m → σ1 113 18 = nI (n + k) → (∀ i, i < k → σ1 129 (n + i) = fdB a b c i) → (∀ i, i < n → σ1 129 i = σ 129 i) → (∀ i, i ≠ 18 → σ1 113 i = σ 113 i) → (∀ q, q ≠ 113 → q ≠ 129 → σ1 q = σ q) → X κ NC 18 [some (.ref 113), some (.int a), some (.int b), some (.int c), some (.int (nI k)), o5] [] (hv σ1) := by
      intro m
      induction m with
      | zero => intro k σ1 o5 h1 h2; omega
      | succ m ih =>
        intro k σ1 o5 hk1 hk2 a1 a2 a3 a4 a5
        refine x_iload4 G d_M_feed_18 ?_
        refine x_bipush (v := nI 12) G d_M_feed_20 rfl ?_
        refine x_icmp_ge G d_M_feed_22 (fun c22 => ?_) (fun c22 => ?_)
        · have hk12 : k = 12 := by rw [nle (by decide) (by omega)] at c22; omega
          refine x_aload0 G d_M_feed_91 ?_
          refine m_geti G d_M_feed_92 fl_M_213 rfl (by decide) rfl ?_
          rw [show σ1 113 18 = nI (n + 12) by rw [a1, hk12]]
          exact m_iret E G d_M_feed_95 hx rfl rfl ⟨_, rfl, (by rw [if_pos h84]), (fun _ => ⟨by rw [a1, hk12], fun i hi => a2 i (by omega), a3, a4, a5⟩), fun z => absurd h84 z⟩
        · have hk12 : k < 12 := by rw [nle (by decide) (by omega)] at c22; omega
          refine x_iload4 G d_M_feed_25 ?_
          refine x_iconst (v := nI 4) G d_M_feed_27 rfl ?_
          refine x_icmp_ge G d_M_feed_28 (fun c28 => ?_) (fun c28 => ?_)
          · have h4 : ¬ k < 4 := by rw [nle (by decide) (by omega)] at c28; omega
            refine x_iload4 G d_M_feed_35 ?_
            refine x_bipush (v := nI 8) G d_M_feed_37 rfl ?_
            refine x_icmp_ge G d_M_feed_39 (fun c39 => ?_) (fun c39 => ?_)
            · have h8 : ¬ k < 8 := by rw [nle (by decide) (by omega)] at c39; omega
              refine x_iload3 G d_M_feed_46 ?_
              refine x_istore5 G d_M_feed_47 rfl hk ?_
              refine x_aload0 G d_M_feed_49 ?_
              refine m_getr G d_M_feed_50 fl_M_59 rfl (by decide) rfl ?_
              refine x_aload0 G d_M_feed_53 ?_
              refine m_geti G d_M_feed_54 fl_M_213 rfl (by decide) rfl ?_
              rw [a1]
              refine x_iload5 G d_M_feed_57 ?_
              refine x_bipush (v := nI 24) G d_M_feed_59 rfl ?_
              refine x_bipush (v := nI 8) G d_M_feed_61 rfl ?_
              refine x_iload4 G d_M_feed_63 ?_
              refine x_iconst (v := nI 4) G d_M_feed_65 rfl ?_
              refine x_irem G d_M_feed_66 (by decide +kernel) ?_
              rw [pk_rem (by omega) (by decide) (by decide)]
              refine x_imul G d_M_feed_67 ?_
              rw [pk_mul]
              refine x_isub G d_M_feed_68 ?_
              rw [pk_sub (by omega)]
              refine x_ishr G d_M_feed_69 ?_
              refine x_sipush (v := nI 255) G d_M_feed_70 rfl ?_
              refine x_iand G d_M_feed_73 ?_
              rw [by_s c (k % 4) (by omega), show byB c (k % 4) = fdB a b c k by unfold fdB; rw [if_neg h4, if_neg h8]]
              refine m_iast_n (n + k) G d_M_feed_74 rfl rfl ⟨by omega, by first | decide | omega⟩ (fun σ2 e2 => ?_)
              refine x_aload0 G d_M_feed_75 ?_
              refine x_dup G d_M_feed_76 rfl ?_
              refine m_geti G d_M_feed_77 fl_M_213 rfl (by decide) rfl ?_
              rw [show σ2 113 18 = nI (n + k) by rw [e2, updS_nk (by decide)]; exact a1]
              refine x_iconst (v := nI 1) G d_M_feed_80 rfl ?_
              refine x_iadd G d_M_feed_81 ?_
              rw [show nI (n + k) + nI 1 = nI (n + k + 1) from nI_1 _]
              refine m_puti_n G d_M_feed_82 fl_M_213 rfl (by decide) rfl rfl rfl (fun σ3 e3 => ?_)
              refine x_iinc4 (v := nI (k + 1)) G d_M_feed_85 rfl hk (nI_1 _) ?_
              refine x_goto G d_M_feed_88 ?_
              exact ih (k + 1) σ3 _ (by omega) (by omega) (by rw [e3, updS_at, Nat.add_assoc]) (fun i hi => if e : i = k then (by rw [e, e3, updS_nk (by decide), e2, updS_at]) else (by rw [e3, updS_nk (by decide), e2, updS_ne (by omega)]; exact a2 i (by omega))) (fun i hi => by rw [e3, updS_nk (by decide), e2, updS_ne (by omega)]; exact a3 i hi) (fun i hi => by rw [e3, updS_ne (by omega), e2, updS_nk (by decide)]; exact a4 i hi) (fun q x y => by rw [e3, updS_nk x, e2, updS_nk y]; exact a5 q x y)
            · have h8 : k < 8 := by rw [nle (by decide) (by omega)] at c39; omega
              refine x_iload2 G d_M_feed_42 ?_
              refine x_goto G d_M_feed_43 ?_
              refine x_istore5 G d_M_feed_47 rfl hk ?_
              refine x_aload0 G d_M_feed_49 ?_
              refine m_getr G d_M_feed_50 fl_M_59 rfl (by decide) rfl ?_
              refine x_aload0 G d_M_feed_53 ?_
              refine m_geti G d_M_feed_54 fl_M_213 rfl (by decide) rfl ?_
              rw [a1]
              refine x_iload5 G d_M_feed_57 ?_
              refine x_bipush (v := nI 24) G d_M_feed_59 rfl ?_
              refine x_bipush (v := nI 8) G d_M_feed_61 rfl ?_
              refine x_iload4 G d_M_feed_63 ?_
              refine x_iconst (v := nI 4) G d_M_feed_65 rfl ?_
              refine x_irem G d_M_feed_66 (by decide +kernel) ?_
              rw [pk_rem (by omega) (by decide) (by decide)]
              refine x_imul G d_M_feed_67 ?_
              rw [pk_mul]
              refine x_isub G d_M_feed_68 ?_
              rw [pk_sub (by omega)]
              refine x_ishr G d_M_feed_69 ?_
              refine x_sipush (v := nI 255) G d_M_feed_70 rfl ?_
              refine x_iand G d_M_feed_73 ?_
              rw [by_s b (k % 4) (by omega), show byB b (k % 4) = fdB a b c k by unfold fdB; rw [if_neg h4, if_pos h8]]
              refine m_iast_n (n + k) G d_M_feed_74 rfl rfl ⟨by omega, by first | decide | omega⟩ (fun σ2 e2 => ?_)
              refine x_aload0 G d_M_feed_75 ?_
              refine x_dup G d_M_feed_76 rfl ?_
              refine m_geti G d_M_feed_77 fl_M_213 rfl (by decide) rfl ?_
              rw [show σ2 113 18 = nI (n + k) by rw [e2, updS_nk (by decide)]; exact a1]
              refine x_iconst (v := nI 1) G d_M_feed_80 rfl ?_
              refine x_iadd G d_M_feed_81 ?_
              rw [show nI (n + k) + nI 1 = nI (n + k + 1) from nI_1 _]
              refine m_puti_n G d_M_feed_82 fl_M_213 rfl (by decide) rfl rfl rfl (fun σ3 e3 => ?_)
              refine x_iinc4 (v := nI (k + 1)) G d_M_feed_85 rfl hk (nI_1 _) ?_
              refine x_goto G d_M_feed_88 ?_
              exact ih (k + 1) σ3 _ (by omega) (by omega) (by rw [e3, updS_at, Nat.add_assoc]) (fun i hi => if e : i = k then (by rw [e, e3, updS_nk (by decide), e2, updS_at]) else (by rw [e3, updS_nk (by decide), e2, updS_ne (by omega)]; exact a2 i (by omega))) (fun i hi => by rw [e3, updS_nk (by decide), e2, updS_ne (by omega)]; exact a3 i hi) (fun i hi => by rw [e3, updS_ne (by omega), e2, updS_nk (by decide)]; exact a4 i hi) (fun q x y => by rw [e3, updS_nk x, e2, updS_nk y]; exact a5 q x y)
          · have h4 : k < 4 := by rw [nle (by decide) (by omega)] at c28; omega
            refine x_iload1 G d_M_feed_31 ?_
            refine x_goto G d_M_feed_32 ?_
            refine x_istore5 G d_M_feed_47 rfl hk ?_
            refine x_aload0 G d_M_feed_49 ?_
            refine m_getr G d_M_feed_50 fl_M_59 rfl (by decide) rfl ?_
            refine x_aload0 G d_M_feed_53 ?_
            refine m_geti G d_M_feed_54 fl_M_213 rfl (by decide) rfl ?_
            rw [a1]
            refine x_iload5 G d_M_feed_57 ?_
            refine x_bipush (v := nI 24) G d_M_feed_59 rfl ?_
            refine x_bipush (v := nI 8) G d_M_feed_61 rfl ?_
            refine x_iload4 G d_M_feed_63 ?_
            refine x_iconst (v := nI 4) G d_M_feed_65 rfl ?_
            refine x_irem G d_M_feed_66 (by decide +kernel) ?_
            rw [pk_rem (by omega) (by decide) (by decide)]
            refine x_imul G d_M_feed_67 ?_
            rw [pk_mul]
            refine x_isub G d_M_feed_68 ?_
            rw [pk_sub (by omega)]
            refine x_ishr G d_M_feed_69 ?_
            refine x_sipush (v := nI 255) G d_M_feed_70 rfl ?_
            refine x_iand G d_M_feed_73 ?_
            rw [by_s a (k % 4) (by omega), show byB a (k % 4) = fdB a b c k by unfold fdB; rw [if_pos h4]]
            refine m_iast_n (n + k) G d_M_feed_74 rfl rfl ⟨by omega, by first | decide | omega⟩ (fun σ2 e2 => ?_)
            refine x_aload0 G d_M_feed_75 ?_
            refine x_dup G d_M_feed_76 rfl ?_
            refine m_geti G d_M_feed_77 fl_M_213 rfl (by decide) rfl ?_
            rw [show σ2 113 18 = nI (n + k) by rw [e2, updS_nk (by decide)]; exact a1]
            refine x_iconst (v := nI 1) G d_M_feed_80 rfl ?_
            refine x_iadd G d_M_feed_81 ?_
            rw [show nI (n + k) + nI 1 = nI (n + k + 1) from nI_1 _]
            refine m_puti_n G d_M_feed_82 fl_M_213 rfl (by decide) rfl rfl rfl (fun σ3 e3 => ?_)
            refine x_iinc4 (v := nI (k + 1)) G d_M_feed_85 rfl hk (nI_1 _) ?_
            refine x_goto G d_M_feed_88 ?_
            exact ih (k + 1) σ3 _ (by omega) (by omega) (by rw [e3, updS_at, Nat.add_assoc]) (fun i hi => if e : i = k then (by rw [e, e3, updS_nk (by decide), e2, updS_at]) else (by rw [e3, updS_nk (by decide), e2, updS_ne (by omega)]; exact a2 i (by omega))) (fun i hi => by rw [e3, updS_nk (by decide), e2, updS_ne (by omega)]; exact a3 i hi) (fun i hi => by rw [e3, updS_ne (by omega), e2, updS_nk (by decide)]; exact a4 i hi) (fun q x y => by rw [e3, updS_nk x, e2, updS_nk y]; exact a5 q x y)
    exact hloop 13 0 σ none (by decide) (by decide) hn (fun i hi => absurd hi (Nat.not_lt_zero i)) (fun _ _ => rfl) (fun _ _ => rfl) (fun _ _ _ => rfl)
  · have h84 : ¬ n ≤ 84 := by rw [nle (by omega) (by decide)] at c9; omega
    refine x_ldc G d_M_feed_12 kc_M_99 ?_
    exact m_iret E G d_M_feed_14 hx rfl rfl ⟨_, rfl, (by rw [if_neg h84]), (fun z => absurd z h84), fun _ => rfl⟩
