/-! THE MODEL: its small methods, and a noon of it -/
theorem evV_cong {S : Rw} {t : Nat} (hT : TV S t) {nm nm' : Nat → Int32} (h : ∀ c, isLe (tn (S (ixT t 0))) c → nm c = nm' c) : ∀ k, k ≤ mT S t → evV S t nm k = evV S t nm' k
  | 0, _ => rfl
  | k + 1, hk => by
    have ih := evV_cong hT h k (by omega)
    rcases hT.2.2.1 k (by omega) with ⟨v, hw, hv, hv9⟩ | ⟨c, hw, hv, hle⟩ | ⟨hw, hv, hd1⟩ | ⟨c, hw, hv, hsg, hd2⟩
    · rw [(ev_num hw hv).2, (ev_num hw hv).2, ih]
    · have hcl : c < 128 := by rcases hle with ⟨_, q⟩ | ⟨_, q⟩ | ⟨_, q⟩ <;> omega
      rw [(ev_nam hw hv hcl).2, (ev_nam hw hv hcl).2, ih, h c hle]
    · rw [(ev_not hw hv).2, (ev_not hw hv).2, ih]
    · rw [(ev_sgn hw hv hsg).2, (ev_sgn hw hv hsg).2, ih]
theorem ev_cong {S : Rw} {t : Nat} (hT : TV S t) {nm nm' : Nat → Int32} (h : ∀ c, isLe (tn (S (ixT t 0))) c → nm c = nm' c) : ev S t nm = ev S t nm' := by
  unfold ev
  rw [evV_cong hT h _ (Nat.le_refl _)]
theorem nmf0 {a b c : Int32} {nm : Nat → Int32} {x : Nat} (h1 : nm 100 = a) (h2 : nm 99 = b) (h3 : nm 104 = c) (h : isLe 0 x) : nm x = nmf 0 a b c x := by
  rcases h with ⟨_, h⟩ | ⟨h, _⟩ | ⟨h, _⟩
  · rcases h with rfl | rfl | rfl
    · exact h1
    · exact h2
    · exact h3
  · omega
  · omega
theorem nmf1 {a b : Int32} {nm : Nat → Int32} {x : Nat} (h1 : nm 115 = a) (h2 : nm 108 = b) (c : Int32) (h : isLe 1 x) : nm x = nmf 1 a b c x := by
  rcases h with ⟨h, _⟩ | ⟨_, h⟩ | ⟨h, _⟩
  · omega
  · rcases h with rfl | rfl
    · exact h1
    · exact h2
  · omega
theorem nmf2 {a b : Int32} {nm : Nat → Int32} {x : Nat} (h1 : nm 104 = a) (h2 : nm 99 = b) (c : Int32) (h : isLe 2 x) : nm x = nmf 2 a b c x := by
  rcases h with ⟨h, _⟩ | ⟨h, _⟩ | ⟨_, h⟩
  · omega
  · omega
  · rcases h with rfl | rfl
    · exact h1
    · exact h2
def inB (x lo hi : Int32) : Bool := !(decide (x < lo)) && !(decide (hi < x))
theorem upB_in (x m : Int32) : upB x m = inB x 0 m := rfl
theorem w64_lt (a b : Int32) : a.toInt64 < b.toInt64 ↔ a < b := by rw [Int64.lt_iff_toInt_lt, Int32.lt_iff_toInt_lt, Int32.toInt_toInt64, Int32.toInt_toInt64]
theorem cmp_lt {a b : Int64} : lg_cmp a b < 0 ↔ a < b := by rw [← Int32.not_le, lg_cmp_ge, Int64.not_le]
theorem far_m : ∀ a, a < 9 → ∀ b, b < 9 → (if nI a / nI 3 < nI b / nI 3 then nI b / nI 3 - nI a / nI 3 else nI a / nI 3 - nI b / nI 3) + (if nI a - nI a / nI 3 * nI 3 < nI b - nI b / nI 3 * nI 3 then nI b - nI b / nI 3 * nI 3 - (nI a - nI a / nI 3 * nI 3) else nI a - nI a / nI 3 * nI 3 - (nI b - nI b / nI 3 * nI 3)) = nI (farN a b) := by decide +kernel
def withB (v m : Int32) : Int32 := if v < 0 then nI 0 else if m < v then m else v
def OutM (σ σ' : Sg) : Prop := ∀ k, k ≠ 114 → k ≠ 125 → k ≠ 130 → k ≠ 131 → σ' k = σ k
theorem OutM.refl {σ : Sg} : OutM σ σ := fun _ _ _ _ _ => rfl
theorem OutM.trans {σ σ' σ'' : Sg} (h : OutM σ σ') (h2 : OutM σ' σ'') : OutM σ σ'' := fun k a b c d => (h2 k a b c d).trans (h k a b c d)
theorem OutM.upd {σ σ' : Sg} (h : OutM σ σ') {k j : Nat} {x : Int32} (hk : k = 114 ∨ k = 125 ∨ k = 130 ∨ k = 131) : OutM σ (updS σ' k j x) := fun a h1 h2 h3 h4 => by
  rw [updS_nk (by omega)]; exact h a h1 h2 h3 h4
theorem cmp_gt {a b : Int64} : 0 < lg_cmp a b ↔ b < a := by rw [← Int32.not_le, lg_cmp_le, Int64.not_le]
theorem inB_O (n : Nat) (hn : n < 2 ^ 30) (x : Int32) : inB x 0 (nI n - 1) = isO (nI n) x := by
  unfold inB isO
  have e : (nI n - 1 < x) ↔ (nI n ≤ x) := by
    rw [Int32.lt_iff_toInt_lt, Int32.le_iff_toInt_le, show (1 : Int32) = nI 1 from rfl, pk_sub_toInt hn (by decide), nI_toInt (by omega)]
    omega
  rw [decide_eq_decide.mpr e]
theorem p_M_in (g : CX) (d : Nat) (hd : 0 ≤ d) (σ : Sg) (f k : Nat) (hf : f < 9) (hk3 : k < 3) : RunM g d M_in [.ref 113, .int (nI f), .int (nI k)] σ (PI (σ 114 (ixF f k)) σ) := by
  refine RunM.of 0 (by decide +kernel) rfl ?_
  intro κ hg hx hk0 G E
  subst hg
  have hk : 3 ≤ kn κ := Nat.le_of_eq hk0.symm
  show X κ NC 0 [some (.ref 113), some (.int (nI f)), some (.int (nI k))] [] (hv σ)
  refine x_aload0 G d_M_in_0 ?_
  refine m_getr G d_M_in_1 fl_M_7 rfl (by decide) rfl ?_
  refine x_bipush (v := nI 7) G d_M_in_4 rfl ?_
  refine x_iconst (v := nI 3) G d_M_in_6 rfl ?_
  refine x_iload1 G d_M_in_7 ?_
  refine x_imul G d_M_in_8 ?_
  refine x_iadd G d_M_in_9 ?_
  refine x_iload2 G d_M_in_10 ?_
  refine x_iadd G d_M_in_11 ?_
  refine m_iald (ixF f k) G d_M_in_12 rfl (by simp only [pk_mul, nI_add]; exact congrArg nI (by unfold ixF; omega)) ⟨by unfold ixF; omega, by first | decide | omega⟩ ?_
  exact m_iret E G d_M_in_13 hx rfl rfl ⟨rfl, rfl⟩
theorem p_M_puts (g : CX) (d : Nat) (hd : 0 ≤ d) (σ : Sg) (f k : Nat) (hf : f < 9) (hk3 : k < 3) (v : Int32) : RunM g d M_puts [.ref 113, .int (nI f), .int (nI k), .int v] σ (PV (fun σ1 => σ1 = updS σ 114 (ixF f k) v)) := by
  refine RunM.of 0 (by decide +kernel) rfl ?_
  intro κ hg hx hk0 G E
  subst hg
  have hk : 4 ≤ kn κ := Nat.le_of_eq hk0.symm
  show X κ NC 0 [some (.ref 113), some (.int (nI f)), some (.int (nI k)), some (.int v)] [] (hv σ)
  refine x_aload0 G d_M_puts_0 ?_
  refine m_getr G d_M_puts_1 fl_M_7 rfl (by decide) rfl ?_
  refine x_bipush (v := nI 7) G d_M_puts_4 rfl ?_
  refine x_iconst (v := nI 3) G d_M_puts_6 rfl ?_
  refine x_iload1 G d_M_puts_7 ?_
  refine x_imul G d_M_puts_8 ?_
  refine x_iadd G d_M_puts_9 ?_
  refine x_iload2 G d_M_puts_10 ?_
  refine x_iadd G d_M_puts_11 ?_
  refine x_iload3 G d_M_puts_12 ?_
  refine m_iast (ixF f k) G d_M_puts_13 rfl (by simp only [pk_mul, nI_add]; exact congrArg nI (by unfold ixF; omega)) ⟨by unfold ixF; omega, by first | decide | omega⟩ ?_
  exact m_vret E G d_M_puts_14 hx rfl ⟨rfl, rfl⟩
theorem p_M_of (g : CX) (d : Nat) (hd : 0 ≤ d) (σ : Sg) (p k : Nat) (hp : p < 8) (hk7 : k < 7) : RunM g d M_of [.ref 113, .int (nI p), .int (nI k)] σ (PI (σ 114 (ixP p k)) σ) := by
  refine RunM.of 0 (by decide +kernel) rfl ?_
  intro κ hg hx hk0 G E
  subst hg
  have hk : 3 ≤ kn κ := Nat.le_of_eq hk0.symm
  show X κ NC 0 [some (.ref 113), some (.int (nI p)), some (.int (nI k))] [] (hv σ)
  refine x_aload0 G d_M_of_0 ?_
  refine m_getr G d_M_of_1 fl_M_7 rfl (by decide) rfl ?_
  refine x_bipush (v := nI 34) G d_M_of_4 rfl ?_
  refine x_bipush (v := nI 7) G d_M_of_6 rfl ?_
  refine x_iload1 G d_M_of_8 ?_
  refine x_imul G d_M_of_9 ?_
  refine x_iadd G d_M_of_10 ?_
  refine x_iload2 G d_M_of_11 ?_
  refine x_iadd G d_M_of_12 ?_
  refine m_iald (ixP p k) G d_M_of_13 rfl (by simp only [pk_mul, nI_add]; exact congrArg nI (by unfold ixP; omega)) ⟨by unfold ixP; omega, by first | decide | omega⟩ ?_
  exact m_iret E G d_M_of_14 hx rfl rfl ⟨rfl, rfl⟩
theorem p_M_sets (g : CX) (d : Nat) (hd : 0 ≤ d) (σ : Sg) (p k : Nat) (hp : p < 8) (hk7 : k < 7) (v : Int32) : RunM g d M_sets [.ref 113, .int (nI p), .int (nI k), .int v] σ (PV (fun σ1 => σ1 = updS σ 114 (ixP p k) v)) := by
  refine RunM.of 0 (by decide +kernel) rfl ?_
  intro κ hg hx hk0 G E
  subst hg
  have hk : 4 ≤ kn κ := Nat.le_of_eq hk0.symm
  show X κ NC 0 [some (.ref 113), some (.int (nI p)), some (.int (nI k)), some (.int v)] [] (hv σ)
  refine x_aload0 G d_M_sets_0 ?_
  refine m_getr G d_M_sets_1 fl_M_7 rfl (by decide) rfl ?_
  refine x_bipush (v := nI 34) G d_M_sets_4 rfl ?_
  refine x_bipush (v := nI 7) G d_M_sets_6 rfl ?_
  refine x_iload1 G d_M_sets_8 ?_
  refine x_imul G d_M_sets_9 ?_
  refine x_iadd G d_M_sets_10 ?_
  refine x_iload2 G d_M_sets_11 ?_
  refine x_iadd G d_M_sets_12 ?_
  refine x_iload3 G d_M_sets_13 ?_
  refine m_iast (ixP p k) G d_M_sets_14 rfl (by simp only [pk_mul, nI_add]; exact congrArg nI (by unfold ixP; omega)) ⟨by unfold ixP; omega, by first | decide | omega⟩ ?_
  exact m_vret E G d_M_sets_15 hx rfl ⟨rfl, rfl⟩
theorem p_M_becomes (g : CX) (d : Nat) (hd : 0 ≤ d) (σ : Sg) (j : Nat) (hj : j < 3090) (v : Int32) : RunM g d M_becomes [.ref 113, .int (nI j), .int v] σ (PI (σ 114 j) (updS σ 114 j v)) := by
  refine RunM.of 1 (by decide +kernel) rfl ?_
  intro κ hg hx hk0 G E
  subst hg
  have hk : 4 ≤ kn κ := Nat.le_of_eq hk0.symm
  show X κ NC 0 [some (.ref 113), some (.int (nI j)), some (.int v), none] [] (hv σ)
  refine x_aload0 G d_M_becomes_0 ?_
  refine m_getr G d_M_becomes_1 fl_M_7 rfl (by decide) rfl ?_
  refine x_iload1 G d_M_becomes_4 ?_
  refine m_iald _ G d_M_becomes_5 rfl rfl ⟨by omega, by first | decide | omega⟩ ?_
  refine x_istore3 G d_M_becomes_6 rfl hk ?_
  refine x_aload0 G d_M_becomes_7 ?_
  refine m_getr G d_M_becomes_8 fl_M_7 rfl (by decide) rfl ?_
  refine x_iload1 G d_M_becomes_11 ?_
  refine x_iload2 G d_M_becomes_12 ?_
  refine m_iast _ G d_M_becomes_13 rfl rfl ⟨by omega, by first | decide | omega⟩ ?_
  refine x_iload3 G d_M_becomes_14 ?_
  exact m_iret E G d_M_becomes_15 hx rfl rfl ⟨rfl, rfl⟩
theorem p_M_isIn (g : CX) (d : Nat) (hd : 0 ≤ d) (σ : Sg) (x lo hi : Int32) (a b c : Int64) (ha : a = x.toInt64) (hb9 : b = lo.toInt64) (hc : c = hi.toInt64) : RunM g d M_isIn [.long a, .long b, .long c] σ (PI (bI (inB x lo hi)) σ) := by
  refine RunM.of 0 (by decide +kernel) rfl ?_
  intro κ hg hx hk0 G E
  subst hg
  have hk : 6 ≤ kn κ := Nat.le_of_eq hk0.symm
  show X κ NC 0 [some (.long a), none, some (.long b), none, some (.long c), none] [] (hv σ)
  refine x_lldn G d_M_isIn_0 rfl ?_
  refine x_lldn G d_M_isIn_1 rfl ?_
  refine x_lcmp G d_M_isIn_2 ?_
  refine x_if_lt G d_M_isIn_3 (fun c3 => ?_) (fun c3 => ?_)
  · rw [cmp_lt, ha, hb9, w64_lt] at c3
    refine x_iconst (v := nI 0) G d_M_isIn_17 rfl ?_
    exact m_iret E G d_M_isIn_18 hx rfl rfl (pi_of (by simp [bI, inB, nI_0, nI1, *]))
  · rw [cmp_lt, ha, hb9, w64_lt] at c3
    refine x_lldn G d_M_isIn_6 rfl ?_
    refine x_lld G d_M_isIn_7 rfl ?_
    refine x_lcmp G d_M_isIn_9 ?_
    refine x_if_gt G d_M_isIn_10 (fun c10 => ?_) (fun c10 => ?_)
    · have c10 : hi < x := by rw [← w64_lt, ← ha, ← hc]; exact cmp_gt.mp c10
      refine x_iconst (v := nI 0) G d_M_isIn_17 rfl ?_
      exact m_iret E G d_M_isIn_18 hx rfl rfl (pi_of (by simp [bI, inB, nI_0, nI1, *]))
    · have c10 : ¬ hi < x := by rw [← w64_lt, ← ha, ← hc]; exact fun q => c10 (cmp_gt.mpr q)
      refine x_iconst (v := nI 1) G d_M_isIn_13 rfl ?_
      refine x_goto G d_M_isIn_14 ?_
      exact m_iret E G d_M_isIn_18 hx rfl rfl (pi_of (by simp [bI, inB, nI_0, nI1, *]))
theorem p_M_isOne (g : CX) (d : Nat) (hd : 1 ≤ d) (σ : Sg) (n : Nat) (hn : σ 114 0 = nI n) (hn8 : n ≤ 8) (x : Int32) : RunM g d M_isOne [.ref 113, .int x] σ (PI (bI (isO (nI n) x)) σ) := by
  refine RunM.of 0 (by decide +kernel) rfl ?_
  intro κ hg hx hk0 G E
  subst hg
  have hk : 2 ≤ kn κ := Nat.le_of_eq hk0.symm
  show X κ NC 0 [some (.ref 113), some (.int x)] [] (hv σ)
  refine x_iload1 G d_M_isOne_0 ?_
  refine x_i2l G d_M_isOne_1 ?_
  refine x_lconst (v := 0) G d_M_isOne_2 rfl ?_
  refine x_aload0 G d_M_isOne_3 ?_
  refine m_getr G d_M_isOne_4 fl_M_7 rfl (by decide) rfl ?_
  refine x_iconst (v := nI 0) G d_M_isOne_7 rfl ?_
  refine m_iald 0 G d_M_isOne_8 rfl rfl ⟨by omega, by first | decide | omega⟩ ?_
  rw [hn]
  refine x_iconst (v := nI 1) G d_M_isOne_9 rfl ?_
  refine x_isub G d_M_isOne_10 ?_
  refine x_i2l G d_M_isOne_11 ?_
  refine m_callS_pi (p_M_isIn (kg κ) (d - 1) (by omega) σ x 0 (nI n - 1) _ _ _ rfl rfl rfl) G d_M_isOne_12 lk_M_82 (by omega) rfl (Nat.le_of_ble_eq_true rfl) hx ?_
  exact m_iret E G d_M_isOne_15 hx rfl (bI_z _) (pi_of (by rw [inB_O n (by omega)]))
theorem p_M_isText (g : CX) (d : Nat) (hd : 1 ≤ d) (σ : Sg) (n : Nat) (hn : σ 114 1 = nI n) (hn8 : n ≤ 14) (x : Int32) : RunM g d M_isText [.ref 113, .int x] σ (PI (bI (isO (nI n) x)) σ) := by
  refine RunM.of 0 (by decide +kernel) rfl ?_
  intro κ hg hx hk0 G E
  subst hg
  have hk : 2 ≤ kn κ := Nat.le_of_eq hk0.symm
  show X κ NC 0 [some (.ref 113), some (.int x)] [] (hv σ)
  refine x_iload1 G d_M_isText_0 ?_
  refine x_i2l G d_M_isText_1 ?_
  refine x_lconst (v := 0) G d_M_isText_2 rfl ?_
  refine x_aload0 G d_M_isText_3 ?_
  refine m_getr G d_M_isText_4 fl_M_7 rfl (by decide) rfl ?_
  refine x_iconst (v := nI 1) G d_M_isText_7 rfl ?_
  refine m_iald 1 G d_M_isText_8 rfl rfl ⟨by omega, by first | decide | omega⟩ ?_
  rw [hn]
  refine x_iconst (v := nI 1) G d_M_isText_9 rfl ?_
  refine x_isub G d_M_isText_10 ?_
  refine x_i2l G d_M_isText_11 ?_
  refine m_callS_pi (p_M_isIn (kg κ) (d - 1) (by omega) σ x 0 (nI n - 1) _ _ _ rfl rfl rfl) G d_M_isText_12 lk_M_82 (by omega) rfl (Nat.le_of_ble_eq_true rfl) hx ?_
  exact m_iret E G d_M_isText_15 hx rfl (bI_z _) (pi_of (by rw [inB_O n (by omega)]))
theorem p_M_isField (g : CX) (d : Nat) (hd : 0 ≤ d) (σ : Sg) (x : Int32) : RunM g d M_isField [.int x] σ (PI (bI (isO (nI 9) x)) σ) := by
  refine RunM.of 0 (by decide +kernel) rfl ?_
  intro κ hg hx hk0 G E
  subst hg
  have hk : 1 ≤ kn κ := Nat.le_of_eq hk0.symm
  show X κ NC 0 [some (.int x)] [] (hv σ)
  refine x_iload0 G d_M_isField_0 ?_
  refine x_if_lt G d_M_isField_1 (fun c1 => ?_) (fun c1 => ?_)
  · refine x_iconst (v := nI 0) G d_M_isField_14 rfl ?_
    exact m_iret E G d_M_isField_15 hx rfl rfl (pi_of (by simp [bI, isO, nI_0, nI1, *]))
  · refine x_iload0 G d_M_isField_4 ?_
    refine x_bipush (v := nI 9) G d_M_isField_5 rfl ?_
    refine x_icmp_ge G d_M_isField_7 (fun c7 => ?_) (fun c7 => ?_)
    · refine x_iconst (v := nI 0) G d_M_isField_14 rfl ?_
      exact m_iret E G d_M_isField_15 hx rfl rfl (pi_of (by simp [bI, isO, nI_0, nI1, *]))
    · refine x_iconst (v := nI 1) G d_M_isField_10 rfl ?_
      refine x_goto G d_M_isField_11 ?_
      exact m_iret E G d_M_isField_15 hx rfl rfl (pi_of (by simp [bI, isO, nI_0, nI1, *]))
theorem p_M_off (g : CX) (d : Nat) (hd : 0 ≤ d) (σ : Sg) (a b : Int32) : RunM g d M_off [.int a, .int b] σ (PI (if a < b then b - a else a - b) σ) := by
  refine RunM.of 0 (by decide +kernel) rfl ?_
  intro κ hg hx hk0 G E
  subst hg
  have hk : 2 ≤ kn κ := Nat.le_of_eq hk0.symm
  show X κ NC 0 [some (.int a), some (.int b)] [] (hv σ)
  refine x_iload0 G d_M_off_0 ?_
  refine x_iload1 G d_M_off_1 ?_
  refine x_icmp_ge G d_M_off_2 (fun c2 => ?_) (fun c2 => ?_)
  · replace c2 := Int32.not_lt.mpr c2
    refine x_iload0 G d_M_off_11 ?_
    refine x_iload1 G d_M_off_12 ?_
    refine x_isub G d_M_off_13 ?_
    exact m_iret E G d_M_off_14 hx rfl rfl (pi_of (by simp [*]))
  · replace c2 := Int32.not_le.mp c2
    refine x_iload1 G d_M_off_5 ?_
    refine x_iload0 G d_M_off_6 ?_
    refine x_isub G d_M_off_7 ?_
    refine x_goto G d_M_off_8 ?_
    exact m_iret E G d_M_off_14 hx rfl rfl (pi_of (by simp [*]))
theorem p_M_farOf (g : CX) (d : Nat) (hd : 1 ≤ d) (σ : Sg) (a b : Nat) (ha : a < 9) (hb9 : b < 9) : RunM g d M_farOf [.int (nI a), .int (nI b)] σ (PI (nI (farN a b)) σ) := by
  refine RunM.of 0 (by decide +kernel) rfl ?_
  intro κ hg hx hk0 G E
  subst hg
  have hk : 2 ≤ kn κ := Nat.le_of_eq hk0.symm
  show X κ NC 0 [some (.int (nI a)), some (.int (nI b))] [] (hv σ)
  refine x_iload0 G d_M_farOf_0 ?_
  refine x_iconst (v := nI 3) G d_M_farOf_1 rfl ?_
  refine x_idiv G d_M_farOf_2 (by decide +kernel) ?_
  refine x_iload1 G d_M_farOf_3 ?_
  refine x_iconst (v := nI 3) G d_M_farOf_4 rfl ?_
  refine x_idiv G d_M_farOf_5 (by decide +kernel) ?_
  refine m_callS_pi (p_M_off (kg κ) (d - 1) (by omega) σ _ _) G d_M_farOf_6 lk_M_103 (by omega) rfl (Nat.le_of_ble_eq_true rfl) hx ?_
  refine x_iload0 G d_M_farOf_9 ?_
  refine x_iconst (v := nI 3) G d_M_farOf_10 rfl ?_
  refine x_irem G d_M_farOf_11 (by decide +kernel) ?_
  refine x_iload1 G d_M_farOf_12 ?_
  refine x_iconst (v := nI 3) G d_M_farOf_13 rfl ?_
  refine x_irem G d_M_farOf_14 (by decide +kernel) ?_
  refine m_callS_pi (p_M_off (kg κ) (d - 1) (by omega) σ _ _) G d_M_farOf_15 lk_M_103 (by omega) rfl (Nat.le_of_ble_eq_true rfl) hx ?_
  refine x_iadd G d_M_farOf_18 ?_
  exact m_iret E G d_M_farOf_19 hx rfl rfl (pi_of (far_m a ha b hb9))
theorem p_M_within (g : CX) (d : Nat) (hd : 0 ≤ d) (σ : Sg) (v m : Int32) : RunM g d M_within [.int v, .int m] σ (PI (withB v m) σ) := by
  refine RunM.of 0 (by decide +kernel) rfl ?_
  intro κ hg hx hk0 G E
  subst hg
  have hk : 2 ≤ kn κ := Nat.le_of_eq hk0.symm
  show X κ NC 0 [some (.int v), some (.int m)] [] (hv σ)
  refine x_iload0 G d_M_within_0 ?_
  refine x_if_ge G d_M_within_1 (fun c1 => ?_) (fun c1 => ?_)
  · replace c1 := Int32.not_lt.mpr c1
    refine x_iload0 G d_M_within_8 ?_
    refine x_iload1 G d_M_within_9 ?_
    refine x_icmp_le G d_M_within_10 (fun c10 => ?_) (fun c10 => ?_)
    · replace c10 := Int32.not_lt.mpr c10
      refine x_iload0 G d_M_within_17 ?_
      exact m_iret E G d_M_within_18 hx rfl rfl (pi_of (by unfold withB; simp [*]))
    · replace c10 := Int32.not_le.mp c10
      refine x_iload1 G d_M_within_13 ?_
      refine x_goto G d_M_within_14 ?_
      exact m_iret E G d_M_within_18 hx rfl rfl (pi_of (by unfold withB; simp [*]))
  · replace c1 := Int32.not_le.mp c1
    refine x_iconst (v := nI 0) G d_M_within_4 rfl ?_
    refine x_goto G d_M_within_5 ?_
    exact m_iret E G d_M_within_18 hx rfl rfl (pi_of (by unfold withB; simp [*]))
theorem p_M_orNone (g : CX) (d : Nat) (hd : 0 ≤ d) (σ : Sg) (v : Int32) : RunM g d M_orNone [.int v] σ (PI (if v < 0 then -1000000005 else v) σ) := by
  refine RunM.of 0 (by decide +kernel) rfl ?_
  intro κ hg hx hk0 G E
  subst hg
  have hk : 1 ≤ kn κ := Nat.le_of_eq hk0.symm
  show X κ NC 0 [some (.int v)] [] (hv σ)
  refine x_iload0 G d_M_orNone_0 ?_
  refine x_if_ge G d_M_orNone_1 (fun c1 => ?_) (fun c1 => ?_)
  · replace c1 := Int32.not_lt.mpr c1
    refine x_iload0 G d_M_orNone_9 ?_
    exact m_iret E G d_M_orNone_10 hx rfl rfl (pi_of (by simp [*]))
  · replace c1 := Int32.not_le.mp c1
    refine x_ldc G d_M_orNone_4 kc_M_81 ?_
    refine x_goto G d_M_orNone_6 ?_
    exact m_iret E G d_M_orNone_10 hx rfl rfl (pi_of (by simp [*]))
theorem p_M_drawn (g : CX) (d : Nat) (hd : 0 ≤ d) (σ : Sg)  : RunM g d M_drawn [.ref 113] σ (PI (dval (zn (σ 114 6))) (updS σ 114 6 (zn (σ 114 6)))) := by
  refine RunM.of 0 (by decide +kernel) rfl ?_
  intro κ hg hx hk0 G E
  subst hg
  have hk : 1 ≤ kn κ := Nat.le_of_eq hk0.symm
  show X κ NC 0 [some (.ref 113)] [] (hv σ)
  refine x_aload0 G d_M_drawn_0 ?_
  refine m_getr G d_M_drawn_1 fl_M_7 rfl (by decide) rfl ?_
  refine x_bipush (v := nI 6) G d_M_drawn_4 rfl ?_
  refine x_aload0 G d_M_drawn_6 ?_
  refine m_getr G d_M_drawn_7 fl_M_7 rfl (by decide) rfl ?_
  refine x_bipush (v := nI 6) G d_M_drawn_10 rfl ?_
  refine m_iald 6 G d_M_drawn_12 rfl rfl ⟨by omega, by first | decide | omega⟩ ?_
  refine x_ldc G d_M_drawn_13 kc_M_86 ?_
  refine x_imul G d_M_drawn_15 ?_
  refine x_sipush (v := nI 12345) G d_M_drawn_16 rfl ?_
  refine x_iadd G d_M_drawn_19 ?_
  refine m_iast 6 G d_M_drawn_20 rfl rfl ⟨by omega, by first | decide | omega⟩ ?_
  refine x_aload0 G d_M_drawn_21 ?_
  refine m_getr G d_M_drawn_22 fl_M_7 rfl (by decide) rfl ?_
  refine x_bipush (v := nI 6) G d_M_drawn_25 rfl ?_
  refine m_iald 6 G d_M_drawn_27 rfl rfl ⟨by omega, by first | decide | omega⟩ ?_
  refine x_bipush (v := nI 8) G d_M_drawn_28 rfl ?_
  refine x_iushr G d_M_drawn_30 ?_
  exact m_iret E G d_M_drawn_31 hx rfl rfl ⟨by rw [updS_at]; rfl, rfl⟩
theorem p_M_counts (g : CX) (d : Nat) (hd : 1 ≤ d) (σ : Sg) (S : Rw) (hS : σ 114 = S) (hI : Inv S) (key : Nat) : RunM g d M_counts [.ref 113, .int (nI key)] σ (PI (cnt S key) σ) := by
  refine RunM.of 2 (by decide +kernel) rfl ?_
  intro κ hg hx hk0 G E
  subst hg
  have hk : 4 ≤ kn κ := Nat.le_of_eq hk0.symm
  show X κ NC 0 [some (.ref 113), some (.int (nI key)), none, none] [] (hv σ)
  refine x_iconst (v := (-1)) G d_M_counts_0 rfl ?_
  refine x_istore2 G d_M_counts_1 rfl hk ?_
  refine x_iconst (v := nI 0) G d_M_counts_2 rfl ?_
  refine x_istore3 G d_M_counts_3 rfl hk ?_
  have hloop : ∀ (m i : Nat), i ≤ tn (S 1) → tn (S 1) < i + m → X κ NC 4 [some (.ref 113), some (.int (nI key)), some (.int (cntN S (nI key) i)), some (.int (nI i))] [] (hv σ) := by
    intro m
    induction m with
    | zero => intro i h1 h2; omega
    | succ m ih =>
      intro i hi1 hi2
      have hn8 := hI.2.1
      refine x_iload3 G d_M_counts_4 ?_
      refine x_aload0 G d_M_counts_5 ?_
      refine m_getr G d_M_counts_6 fl_M_7 rfl (by decide) rfl ?_
      refine x_iconst (v := nI 1) G d_M_counts_9 rfl ?_
      refine m_iald 1 G d_M_counts_10 rfl rfl ⟨by omega, by first | decide | omega⟩ ?_
      rw [hS, hn8.1]
      refine x_icmp_ge G d_M_counts_11 (fun c11 => ?_) (fun c11 => ?_)
      · have hin : i = tn (S 1) := by have := hn8.2; rw [nle (by omega) (by omega)] at c11; omega
        refine x_iload2 G d_M_counts_40 ?_
        exact m_iret E G d_M_counts_41 hx rfl rfl (pi_of (by rw [hin]; rfl))
      · have hin : i < tn (S 1) := by have := hn8.2; rw [nle (by omega) (by omega)] at c11; omega
        have hi14 : i < 14 := by have := hn8.2; omega
        refine x_aload0 G d_M_counts_14 ?_
        refine m_getr G d_M_counts_15 fl_M_7 rfl (by decide) rfl ?_
        refine x_aload0 G d_M_counts_18 ?_
        refine x_iload3 G d_M_counts_19 ?_
        refine m_callV_pi (p_M_textAt (kg κ) (d - 1) (by omega) σ i) G d_M_counts_20 lk_M_295 rfl ⟨by decide, rfl⟩ (by decide) (by omega) rfl (Nat.le_of_ble_eq_true rfl) hx ?_
        refine m_iald (ixT i 0) G d_M_counts_23 rfl (congrArg nI (by unfold ixT; omega)) ⟨by unfold ixT; omega, by first | decide | omega⟩ ?_
        rw [hS]
        refine x_iload1 G d_M_counts_24 ?_
        refine x_icmp_ne G d_M_counts_25 (fun c25 => ?_) (fun c25 => ?_)
        · refine x_iload2 G d_M_counts_32 ?_
          refine x_istore2 G d_M_counts_33 rfl hk ?_
          refine x_iinc3 (v := nI (i + 1)) G d_M_counts_34 rfl hk (nI_1 _) ?_
          refine x_goto G d_M_counts_37 ?_
          rw [← show cntN S (nI key) (i + 1) = cntN S (nI key) i from by rw [cntN, if_neg c25]]; exact ih (i + 1) (by omega) (by omega)
        · refine x_iload3 G d_M_counts_28 ?_
          refine x_goto G d_M_counts_29 ?_
          refine x_istore2 G d_M_counts_33 rfl hk ?_
          refine x_iinc3 (v := nI (i + 1)) G d_M_counts_34 rfl hk (nI_1 _) ?_
          refine x_goto G d_M_counts_37 ?_
          rw [← show cntN S (nI key) (i + 1) = nI i from by rw [cntN, if_pos c25]]; exact ih (i + 1) (by omega) (by omega)
  exact hloop (tn (S 1) + 1) 0 (Nat.zero_le _) (by omega)
