/-! THE CLASS READS A TEXT -/
theorem lvO : ∀ c, c < 259 → lvN c = 9 → Op.lookupswitch.offset (#[(38, 85), (42, 91), (43, 89), (45, 89), (47, 91), (60, 87), (61, 87), (62, 87), (124, 83)] : Array (Int × Int)).toList 93 (nI c).toInt = 93 := by decide +kernel
theorem pcO : ∀ c, c < 259 → c ≠ 33 → c ≠ 40 → c ≠ 256 → c ≠ 257 → Op.lookupswitch.offset (#[(33, 116), (40, 139), (256, 81), (257, 44)] : Array (Int × Int)).toList 162 (nI c).toInt = 162 := by decide +kernel
theorem lvN_le (c : Nat) : lvN c ≤ 9 := by unfold lvN; (repeat' split) <;> omega
theorem TkOk.sl {B : Nat → Nat} {n : Nat} {k : Tk} (h : TkOk B n k) : k.sg < 259 := by rcases h.2.2 with q | q | q <;> omega
theorem TkOk.le {B : Nat → Nat} {n : Nat} {k : Tk} (h : TkOk B n k) : k.st ≤ k.en := by rcases h.2.2 with q | q | q <;> omega
def dep (par nots : Nat) : Nat := 8 + 2 * (8 - nots) + 8 * (8 - par)
def Rd (B : Nat → Nat) (n key : Nat) (r : Bool × PS) (σ : Sg) : Option Value → Sg → Prop := PN (bI r.1) (fun σ1 => TapC B n key r.2 σ1 ∧ OutT σ σ1)
def PexC (B : Nat → Nat) (n key f : Nat) : Prop := ∀ (g : CX) (d : Nat) (σ : Sg) (lv par nots : Nat) (s : PS), dep par nots + 6 - lv ≤ d → lv ≤ 5 → par ≤ 8 → nots ≤ 8 → need n 0 lv s ≤ f → TapC B n key s σ → TkOk B n s.tk → s.out.length ≤ s.tk.st → RunM g d Ta_expression [.ref 73, .int (nI lv), .int (nI par), .int (nI nots)] σ (Rd B n key (pP B n key f 0 lv par nots s) σ)
def PpcC (B : Nat → Nat) (n key f : Nat) : Prop := ∀ (g : CX) (d : Nat) (σ : Sg) (par nots : Nat) (s : PS), dep par nots ≤ d → par ≤ 8 → nots ≤ 8 → need n 2 0 s ≤ f → TapC B n key s σ → TkOk B n s.tk → s.out.length ≤ s.tk.st → RunM g d Ta_piece [.ref 73, .int (nI par), .int (nI nots)] σ (Rd B n key (pP B n key f 2 0 par nots s) σ)
theorem need_pc {n : Nat} {s : PS} : need n 2 0 s = 24 * (n - s.tk.st) + 3 := by unfold need; rw [if_neg (by decide), if_neg (by decide)]
theorem need_ex {n lv : Nat} {s : PS} : need n 0 lv s = 24 * (n - s.tk.st) + 2 * (6 - lv) + 4 := by unfold need; rw [if_pos rfl]
theorem need_lo {n lv : Nat} {s : PS} : need n 1 lv s = 24 * (n - s.tk.st) + 22 := by unfold need; rw [if_neg (by decide), if_pos rfl]
theorem TapC.ad {B : Nat → Nat} {n key : Nat} {s : PS} {σ σ1 : Sg} (h : TapC B n key s σ) (hT : TkC (lexT B n s.tk.en (isWd s.tk.sg)) σ1 ∧ (∀ j, j ≠ 6 → j ≠ 7 → j ≠ 8 → j ≠ 9 → σ1 73 j = σ 73 j) ∧ ∀ q, q ≠ 73 → σ1 q = σ q) : TapC B n key (adP B n s) σ1 ∧ OutT σ σ1 := h.adv hT.1 hT.2.1 hT.2.2
theorem p_Ta_name (g : CX) (d : Nat) (hd : 4 ≤ d) (σ : Sg) (B : Nat → Nat) (n : Nat) (hn96 : n ≤ 96) (hB : ∀ i, i < n → B i < 256) (key : Nat) (s : PS) (hC : TapC B n key s σ) (ht : TkOk B n s.tk) (hk3 : key < 3) (h256 : s.tk.sg = 256) : RunM g d Ta_name [.ref 73] σ (PI (if s.tk.en - s.tk.st = 1 then nmI key (B s.tk.st) else -1) σ) := by
  refine RunM.of 1 (by decide +kernel) rfl ?_
  intro κ hg hx hk0 G E
  subst hg
  have hk : 2 ≤ kn κ := Nat.le_of_eq hk0.symm
  show X κ NC 0 [some (.ref 73), none] [] (hv σ)
  obtain ⟨w1, w2, w3⟩ := ht.wrd (Or.inl h256)
  have hle := letter_of ((w3 s.tk.st (Nat.le_refl _) w1).trans h256) (hB _ (by omega))
  refine x_aload0 G d_Ta_name_0 ?_
  refine m_geti G d_Ta_name_1 fl_Ta_34 rfl (by decide) rfl ?_
  rw [hC.2.1.2.1]
  refine x_aload0 G d_Ta_name_4 ?_
  refine m_geti G d_Ta_name_5 fl_Ta_31 rfl (by decide) rfl ?_
  rw [hC.2.1.1]
  refine x_isub G d_Ta_name_8 ?_
  rw [pk_sub ht.le]
  refine x_iconst (v := nI 1) G d_Ta_name_9 rfl ?_
  refine x_icmp_eq G d_Ta_name_10 (fun c10 => ?_) (fun c10 => ?_)
  · have h1 : s.tk.en - s.tk.st = 1 := by rw [neq (by omega) (by decide)] at c10; exact c10
    rcases (show key = 0 ∨ key = 1 ∨ key = 2 by omega) with rfl | rfl | rfl
    · skip
      refine x_aload0 G d_Ta_name_15 ?_
      refine m_geti G d_Ta_name_16 fl_Ta_25 rfl (by decide) rfl ?_
      rw [hC.2.2.2.1]
      refine x_if_ne G d_Ta_name_19 (fun c19 => absurd (nI_0) c19) (fun c19 => ?_)
      refine x_ldcT (i := 3) G d_Ta_name_22 (by decide) rfl ?_
      refine x_goto G d_Ta_name_24 ?_
      refine x_astore1 G d_Ta_name_42 rfl hk ?_
      refine x_aload1 G d_Ta_name_43 ?_
      refine x_aload0 G d_Ta_name_44 ?_
      refine m_getr G d_Ta_name_45 fl_Ta_9 rfl (by decide) rfl ?_
      skip
      refine x_aload0 G d_Ta_name_48 ?_
      refine m_geti G d_Ta_name_49 fl_Ta_31 rfl (by decide) rfl ?_
      rw [hC.2.1.1]
      refine m_iald s.tk.st G d_Ta_name_52 rfl rfl ⟨by omega, by first | decide | omega⟩ ?_
      rw [hC.1.2 s.tk.st (by omega)]
      refine x_i2c G d_Ta_name_53 ?_
      rw [chr_c _ (by omega)]
      refine m_callT_pi (p_Js_indexOf (kg κ) (d - 1) (by omega) σ 3 (B s.tk.st) (by decide) (by omega)) G d_Ta_name_54 lk_Ta_112 (by decide) rfl (by omega) rfl (Nat.le_of_ble_eq_true rfl) hx ?_
      exact m_iret E G d_Ta_name_57 hx rfl rfl (pi_of (by rw [if_pos h1]; exact ix_nm 0 (by decide) _ (by omega)))
    · skip
      refine x_aload0 G d_Ta_name_15 ?_
      refine m_geti G d_Ta_name_16 fl_Ta_25 rfl (by decide) rfl ?_
      rw [hC.2.2.2.1]
      refine x_if_ne G d_Ta_name_19 (fun c19 => ?_) (fun c19 => absurd c19 ((by decide +kernel)))
      refine x_aload0 G d_Ta_name_27 ?_
      refine m_geti G d_Ta_name_28 fl_Ta_25 rfl (by decide) rfl ?_
      rw [hC.2.2.2.1]
      refine x_iconst (v := nI 1) G d_Ta_name_31 rfl ?_
      refine x_icmp_ne G d_Ta_name_32 (fun c32 => absurd (rfl) c32) (fun c32 => ?_)
      refine x_ldcT (i := 4) G d_Ta_name_35 (by decide) rfl ?_
      refine x_goto G d_Ta_name_37 ?_
      refine x_astore1 G d_Ta_name_42 rfl hk ?_
      refine x_aload1 G d_Ta_name_43 ?_
      refine x_aload0 G d_Ta_name_44 ?_
      refine m_getr G d_Ta_name_45 fl_Ta_9 rfl (by decide) rfl ?_
      skip
      refine x_aload0 G d_Ta_name_48 ?_
      refine m_geti G d_Ta_name_49 fl_Ta_31 rfl (by decide) rfl ?_
      rw [hC.2.1.1]
      refine m_iald s.tk.st G d_Ta_name_52 rfl rfl ⟨by omega, by first | decide | omega⟩ ?_
      rw [hC.1.2 s.tk.st (by omega)]
      refine x_i2c G d_Ta_name_53 ?_
      rw [chr_c _ (by omega)]
      refine m_callT_pi (p_Js_indexOf (kg κ) (d - 1) (by omega) σ 4 (B s.tk.st) (by decide) (by omega)) G d_Ta_name_54 lk_Ta_112 (by decide) rfl (by omega) rfl (Nat.le_of_ble_eq_true rfl) hx ?_
      exact m_iret E G d_Ta_name_57 hx rfl rfl (pi_of (by rw [if_pos h1]; exact ix_nm 1 (by decide) _ (by omega)))
    · skip
      refine x_aload0 G d_Ta_name_15 ?_
      refine m_geti G d_Ta_name_16 fl_Ta_25 rfl (by decide) rfl ?_
      rw [hC.2.2.2.1]
      refine x_if_ne G d_Ta_name_19 (fun c19 => ?_) (fun c19 => absurd c19 ((by decide +kernel)))
      refine x_aload0 G d_Ta_name_27 ?_
      refine m_geti G d_Ta_name_28 fl_Ta_25 rfl (by decide) rfl ?_
      rw [hC.2.2.2.1]
      refine x_iconst (v := nI 1) G d_Ta_name_31 rfl ?_
      refine x_icmp_ne G d_Ta_name_32 (fun c32 => ?_) (fun c32 => absurd c32 ((by decide +kernel)))
      refine x_ldcT (i := 5) G d_Ta_name_40 (by decide) rfl ?_
      refine x_astore1 G d_Ta_name_42 rfl hk ?_
      refine x_aload1 G d_Ta_name_43 ?_
      refine x_aload0 G d_Ta_name_44 ?_
      refine m_getr G d_Ta_name_45 fl_Ta_9 rfl (by decide) rfl ?_
      skip
      refine x_aload0 G d_Ta_name_48 ?_
      refine m_geti G d_Ta_name_49 fl_Ta_31 rfl (by decide) rfl ?_
      rw [hC.2.1.1]
      refine m_iald s.tk.st G d_Ta_name_52 rfl rfl ⟨by omega, by first | decide | omega⟩ ?_
      rw [hC.1.2 s.tk.st (by omega)]
      refine x_i2c G d_Ta_name_53 ?_
      rw [chr_c _ (by omega)]
      refine m_callT_pi (p_Js_indexOf (kg κ) (d - 1) (by omega) σ 5 (B s.tk.st) (by decide) (by omega)) G d_Ta_name_54 lk_Ta_112 (by decide) rfl (by omega) rfl (Nat.le_of_ble_eq_true rfl) hx ?_
      exact m_iret E G d_Ta_name_57 hx rfl rfl (pi_of (by rw [if_pos h1]; exact ix_nm 2 (by decide) _ (by omega)))
  · have h1 : ¬ s.tk.en - s.tk.st = 1 := fun e => c10 (by rw [e])
    refine x_iconst (v := (-1)) G d_Ta_name_13 rfl ?_
    exact m_iret E G d_Ta_name_14 hx rfl rfl (pi_of (by rw [if_neg h1]))
theorem p_Ta_levelOf (g : CX) (d : Nat) (hd : 0 ≤ d) (σ : Sg) (c : Nat) (hc : c < 259) : RunM g d Ta_levelOf [.int (nI c)] σ (PI (lvI c) σ) := by
  refine RunM.of 0 (by decide +kernel) rfl ?_
  intro κ hg hx hk0 G E
  subst hg
  have hk : 1 ≤ kn κ := Nat.le_of_eq hk0.symm
  show X κ NC 0 [some (.int (nI c))] [] (hv σ)
  have hq : c = 124 ∨ c = 38 ∨ c = 60 ∨ c = 61 ∨ c = 62 ∨ c = 43 ∨ c = 45 ∨ c = 42 ∨ c = 47 ∨ lvN c = 9 := by
    have q1 := lvN_le c
    rcases Nat.lt_or_ge (lvN c) 9 with q | q
    · rcases lvN_op q with q | q | q | q | q | q | q | q | q <;> simp [q]
    · have : lvN c = 9 := by omega
      simp [this]
  rcases hq with q | q | q | q | q | q | q | q | q | q
  · subst q
    refine x_iload0 G d_Ta_levelOf_0 ?_
    refine x_lookup (83) 84 G d_Ta_levelOf_1 (by decide +kernel) (by decide +kernel) rfl ?_
    refine x_iconst (v := nI 0) G d_Ta_levelOf_84 rfl ?_
    exact m_iret E G d_Ta_levelOf_85 hx rfl rfl (pi_of (by decide +kernel))
  · subst q
    refine x_iload0 G d_Ta_levelOf_0 ?_
    refine x_lookup (85) 86 G d_Ta_levelOf_1 (by decide +kernel) (by decide +kernel) rfl ?_
    refine x_iconst (v := nI 1) G d_Ta_levelOf_86 rfl ?_
    exact m_iret E G d_Ta_levelOf_87 hx rfl rfl (pi_of (by decide +kernel))
  · subst q
    refine x_iload0 G d_Ta_levelOf_0 ?_
    refine x_lookup (87) 88 G d_Ta_levelOf_1 (by decide +kernel) (by decide +kernel) rfl ?_
    refine x_iconst (v := nI 2) G d_Ta_levelOf_88 rfl ?_
    exact m_iret E G d_Ta_levelOf_89 hx rfl rfl (pi_of (by decide +kernel))
  · subst q
    refine x_iload0 G d_Ta_levelOf_0 ?_
    refine x_lookup (87) 88 G d_Ta_levelOf_1 (by decide +kernel) (by decide +kernel) rfl ?_
    refine x_iconst (v := nI 2) G d_Ta_levelOf_88 rfl ?_
    exact m_iret E G d_Ta_levelOf_89 hx rfl rfl (pi_of (by decide +kernel))
  · subst q
    refine x_iload0 G d_Ta_levelOf_0 ?_
    refine x_lookup (87) 88 G d_Ta_levelOf_1 (by decide +kernel) (by decide +kernel) rfl ?_
    refine x_iconst (v := nI 2) G d_Ta_levelOf_88 rfl ?_
    exact m_iret E G d_Ta_levelOf_89 hx rfl rfl (pi_of (by decide +kernel))
  · subst q
    refine x_iload0 G d_Ta_levelOf_0 ?_
    refine x_lookup (89) 90 G d_Ta_levelOf_1 (by decide +kernel) (by decide +kernel) rfl ?_
    refine x_iconst (v := nI 3) G d_Ta_levelOf_90 rfl ?_
    exact m_iret E G d_Ta_levelOf_91 hx rfl rfl (pi_of (by decide +kernel))
  · subst q
    refine x_iload0 G d_Ta_levelOf_0 ?_
    refine x_lookup (89) 90 G d_Ta_levelOf_1 (by decide +kernel) (by decide +kernel) rfl ?_
    refine x_iconst (v := nI 3) G d_Ta_levelOf_90 rfl ?_
    exact m_iret E G d_Ta_levelOf_91 hx rfl rfl (pi_of (by decide +kernel))
  · subst q
    refine x_iload0 G d_Ta_levelOf_0 ?_
    refine x_lookup (91) 92 G d_Ta_levelOf_1 (by decide +kernel) (by decide +kernel) rfl ?_
    refine x_iconst (v := nI 4) G d_Ta_levelOf_92 rfl ?_
    exact m_iret E G d_Ta_levelOf_93 hx rfl rfl (pi_of (by decide +kernel))
  · subst q
    refine x_iload0 G d_Ta_levelOf_0 ?_
    refine x_lookup (91) 92 G d_Ta_levelOf_1 (by decide +kernel) (by decide +kernel) rfl ?_
    refine x_iconst (v := nI 4) G d_Ta_levelOf_92 rfl ?_
    exact m_iret E G d_Ta_levelOf_93 hx rfl rfl (pi_of (by decide +kernel))
  · skip
    refine x_iload0 G d_Ta_levelOf_0 ?_
    refine x_lookup (93) 94 G d_Ta_levelOf_1 (by decide +kernel) (lvO c hc q) rfl ?_
    refine x_iconst (v := (-1)) G d_Ta_levelOf_94 rfl ?_
    exact m_iret E G d_Ta_levelOf_95 hx rfl rfl (pi_of (by unfold lvI; rw [if_neg (by omega)]))
theorem p_Ta_isAhead (g : CX) (d : Nat) (hd : 4 ≤ d) (σ : Sg) (B : Nat → Nat) (n : Nat) (hn96 : n ≤ 96) (hB : ∀ i, i < n → B i < 256) (tk : Tk) (hby : ByC B n σ) (hT : TkC tk σ) (ht : TkOk B n tk) (i : Nat) (hi3 : i < 3) : RunM g d Ta_isAhead [.ref 73, .ref (2000 + i)] σ (PI (bI (kwB B tk.st tk.en i)) σ) := by
  refine RunM.of 1 (by decide +kernel) rfl ?_
  intro κ hg hx hk0 G E
  subst hg
  have hk : 3 ≤ kn κ := Nat.le_of_eq hk0.symm
  show X κ NC 0 [some (.ref 73), some (.ref (2000 + i)), none] [] (hv σ)
  have hs4 : sL i = 4 := by rcases (show i = 0 ∨ i = 1 ∨ i = 2 by omega) with q | q | q <;> rw [q] <;> rfl
  have hen := ht.2.1
  have hle := ht.le
  refine x_aload0 G d_Ta_isAhead_0 ?_
  refine m_geti G d_Ta_isAhead_1 fl_Ta_34 rfl (by decide) rfl ?_
  rw [hT.2.1]
  refine x_aload0 G d_Ta_isAhead_4 ?_
  refine m_geti G d_Ta_isAhead_5 fl_Ta_31 rfl (by decide) rfl ?_
  rw [hT.1]
  refine x_isub G d_Ta_isAhead_8 ?_
  rw [pk_sub ht.le]
  refine x_aload1 G d_Ta_isAhead_9 ?_
  refine m_callT_pi (p_Js_length (kg κ) (d - 1) (by omega) σ i (by omega)) G d_Ta_isAhead_10 lk_Ta_65 (by omega) rfl (by omega) rfl (Nat.le_of_ble_eq_true rfl) hx ?_
  rw [hs4]
  refine x_icmp_eq G d_Ta_isAhead_13 (fun c13 => ?_) (fun c13 => ?_)
  · have h4 : tk.en = tk.st + 4 := by rw [neq (by omega) (by decide)] at c13; have := ht.le; omega
    refine x_iconst (v := nI 0) G d_Ta_isAhead_18 rfl ?_
    refine x_istore2 G d_Ta_isAhead_19 rfl hk ?_
    have hloop : ∀ (m k : Nat), k ≤ 4 → 4 < k + m → kwJ B tk.st i k → X κ NC 20 [some (.ref 73), some (.ref (2000 + i)), some (.int (nI k))] [] (hv σ) := by
      intro m
      induction m with
      | zero => intro k h1 h2; omega
      | succ m ih =>
        intro k hk1 hk2 hkw
        refine x_iload2 G d_Ta_isAhead_20 ?_
        refine x_aload1 G d_Ta_isAhead_21 ?_
        refine m_callT_pi (p_Js_length (kg κ) (d - 1) (by omega) σ i (by omega)) G d_Ta_isAhead_22 lk_Ta_65 (by omega) rfl (by omega) rfl (Nat.le_of_ble_eq_true rfl) hx ?_
        rw [hs4]
        refine x_icmp_ge G d_Ta_isAhead_25 (fun c25 => ?_) (fun c25 => ?_)
        · have hk4 : k = 4 := by rw [nle (by omega) (by omega)] at c25; omega
          refine x_iconst (v := nI 1) G d_Ta_isAhead_55 rfl ?_
          exact m_iret E G d_Ta_isAhead_56 hx rfl rfl (pi_of (by rw [kw_yes h4 (hk4 ▸ hkw)]; rfl))
        · have hk4 : k < 4 := by rw [nle (by omega) (by omega)] at c25; omega
          refine x_aload0 G d_Ta_isAhead_28 ?_
          refine m_getr G d_Ta_isAhead_29 fl_Ta_9 rfl (by decide) rfl ?_
          refine x_aload0 G d_Ta_isAhead_32 ?_
          refine m_geti G d_Ta_isAhead_33 fl_Ta_31 rfl (by decide) rfl ?_
          rw [hT.1]
          refine x_iload2 G d_Ta_isAhead_36 ?_
          refine x_iadd G d_Ta_isAhead_37 ?_
          rw [nI_add]
          refine m_iald (tk.st + k) G d_Ta_isAhead_38 rfl rfl ⟨by omega, by first | decide | omega⟩ ?_
          rw [hby.2 (tk.st + k) (by omega)]
          refine x_aload1 G d_Ta_isAhead_39 ?_
          refine x_iload2 G d_Ta_isAhead_40 ?_
          refine m_callT_pi (p_Js_charAt (kg κ) (d - 1) (by omega) σ i k (by omega) (by omega)) G d_Ta_isAhead_41 lk_Ta_69 (by omega) rfl (by omega) rfl (Nat.le_of_ble_eq_true rfl) hx ?_
          refine x_icmp_eq G d_Ta_isAhead_44 (fun c44 => ?_) (fun c44 => ?_)
          · refine x_iinc2 (v := nI (k + 1)) G d_Ta_isAhead_49 rfl hk (nI_1 _) ?_
            refine x_goto G d_Ta_isAhead_52 ?_
            exact ih (k + 1) (by omega) (by omega) (fun m hm => if e : m = k then (by rw [e]; exact c44) else hkw m (by omega))
          · refine x_iconst (v := nI 0) G d_Ta_isAhead_47 rfl ?_
            exact m_iret E G d_Ta_isAhead_48 hx rfl rfl (pi_of (by rw [kw_no hk4 c44]; rfl))
    exact hloop 5 0 (by decide) (by decide) (fun m hm => absurd hm (Nat.not_lt_zero m))
  · have h4 : ¬ tk.en = tk.st + 4 := fun e => c13 (by rw [show tk.en - tk.st = 4 by omega])
    refine x_iconst (v := nI 0) G d_Ta_isAhead_16 rfl ?_
    exact m_iret E G d_Ta_isAhead_17 hx rfl rfl (pi_of (by unfold kwB; rw [decide_eq_false h4]; rfl))
theorem p_Ta_keyAhead (g : CX) (d : Nat) (hd : 5 ≤ d) (σ : Sg) (B : Nat → Nat) (n : Nat) (hn96 : n ≤ 96) (hB : ∀ i, i < n → B i < 256) (tk : Tk) (hby : ByC B n σ) (hT : TkC tk σ) (ht : TkOk B n tk) : RunM g d Ta_keyAhead [.ref 73] σ (PI (keyI (keyN B tk.st tk.en)) σ) := by
  refine RunM.of 0 (by decide +kernel) rfl ?_
  intro κ hg hx hk0 G E
  subst hg
  have hk : 1 ≤ kn κ := Nat.le_of_eq hk0.symm
  show X κ NC 0 [some (.ref 73)] [] (hv σ)
  obtain ⟨q0, q1, q2⟩ := kw_4 hB (st := tk.st) ht.2.1
  refine x_aload0 G d_Ta_keyAhead_0 ?_
  refine x_ldcT (i := 0) G d_Ta_keyAhead_1 (by decide) rfl ?_
  refine m_callV_pi (p_Ta_isAhead (kg κ) (d - 1) (by omega) σ B n hn96 hB tk hby hT ht 0 (by decide)) G d_Ta_keyAhead_3 lk_Ta_57 rfl ⟨by decide, rfl⟩ (by decide) (by omega) rfl (Nat.le_of_ble_eq_true rfl) hx ?_
  refine x_if_eq G d_Ta_keyAhead_6 (fun c6 => ?_) (fun c6 => ?_)
  · replace c6 := bI_0.mp c6
    refine x_aload0 G d_Ta_keyAhead_13 ?_
    refine x_ldcT (i := 1) G d_Ta_keyAhead_14 (by decide) rfl ?_
    refine m_callV_pi (p_Ta_isAhead (kg κ) (d - 1) (by omega) σ B n hn96 hB tk hby hT ht 1 (by decide)) G d_Ta_keyAhead_16 lk_Ta_57 rfl ⟨by decide, rfl⟩ (by decide) (by omega) rfl (Nat.le_of_ble_eq_true rfl) hx ?_
    refine x_if_eq G d_Ta_keyAhead_19 (fun c19 => ?_) (fun c19 => ?_)
    · replace c19 := bI_0.mp c19
      refine x_aload0 G d_Ta_keyAhead_26 ?_
      refine x_ldcT (i := 2) G d_Ta_keyAhead_27 (by decide) rfl ?_
      refine m_callV_pi (p_Ta_isAhead (kg κ) (d - 1) (by omega) σ B n hn96 hB tk hby hT ht 2 (by decide)) G d_Ta_keyAhead_29 lk_Ta_57 rfl ⟨by decide, rfl⟩ (by decide) (by omega) rfl (Nat.le_of_ble_eq_true rfl) hx ?_
      refine x_if_eq G d_Ta_keyAhead_32 (fun c32 => ?_) (fun c32 => ?_)
      · replace c32 := bI_0.mp c32
        refine x_iconst (v := (-1)) G d_Ta_keyAhead_39 rfl ?_
        exact m_iret E G d_Ta_keyAhead_40 hx rfl rfl (pi_of (by unfold keyN; rw [q0] at c6; rw [q1] at c19; rw [q2] at c32; rw [if_neg (by rw [c6]; decide), if_neg (by rw [c19]; decide), if_neg (by rw [c32]; decide)]; rfl))
      · replace c32 := bI_n0.mp c32
        refine x_iconst (v := nI 2) G d_Ta_keyAhead_35 rfl ?_
        refine x_goto G d_Ta_keyAhead_36 ?_
        exact m_iret E G d_Ta_keyAhead_40 hx rfl rfl (pi_of (by unfold keyN; rw [q0] at c6; rw [q1] at c19; rw [q2] at c32; rw [if_neg (by rw [c6]; decide), if_neg (by rw [c19]; decide), if_pos c32]; rfl))
    · replace c19 := bI_n0.mp c19
      refine x_iconst (v := nI 1) G d_Ta_keyAhead_22 rfl ?_
      refine x_goto G d_Ta_keyAhead_23 ?_
      exact m_iret E G d_Ta_keyAhead_40 hx rfl rfl (pi_of (by unfold keyN; rw [q0] at c6; rw [q1] at c19; rw [if_neg (by rw [c6]; decide), if_pos c19]; rfl))
  · replace c6 := bI_n0.mp c6
    refine x_iconst (v := nI 0) G d_Ta_keyAhead_9 rfl ?_
    refine x_goto G d_Ta_keyAhead_10 ?_
    exact m_iret E G d_Ta_keyAhead_40 hx rfl rfl (pi_of (by unfold keyN; rw [q0] at c6; rw [if_pos c6]; rfl))
theorem p_Ta_negation (g : CX) (d : Nat) (hd : 2 ≤ d) (σ : Sg) (B : Nat → Nat) (n : Nat) (hn96 : n ≤ 96) (hB : ∀ i, i < n → B i < 256) (key : Nat) (s : PS) (hC : TapC B n key s σ) (ht : TkOk B n s.tk) (f par nots : Nat) (ih : PpcC B n key f) (hpar : par ≤ 8) (hnots : nots ≤ 8) (h258 : s.tk.sg ≠ 258) (hol0 : s.out.length ≤ s.tk.st) (hnd : 24 * (n - s.tk.st) + 2 ≤ f) (hdd : dep par nots + 1 ≤ d) : RunM g d Ta_negation [.ref 73, .int (nI par), .int (nI nots)] σ (PN (bI (pP B n key f 2 0 par nots (adP B n s)).1) (fun σ1 => TapC B n key (if (pP B n key f 2 0 par nots (adP B n s)).1 = true then emP (pP B n key f 2 0 par nots (adP B n s)).2 2 33 else (pP B n key f 2 0 par nots (adP B n s)).2) σ1 ∧ OutT σ σ1)) := by
  refine RunM.of 0 (by decide +kernel) rfl ?_
  intro κ hg hx hk0 G E
  subst hg
  have hk : 3 ≤ kn κ := Nat.le_of_eq hk0.symm
  show X κ NC 0 [some (.ref 73), some (.int (nI par)), some (.int (nI nots))] [] (hv σ)
  refine x_aload0 G d_Ta_negation_0 ?_
  refine m_callV_pv (p_Ta_advance (kg κ) (d - 1) (by omega) σ B n hn96 hB hC.1 _ _ ht.2.1 hC.2.1.2.1 hC.2.1.2.2.1 ht.sl) G d_Ta_negation_1 lk_Ta_44 rfl ⟨by decide, rfl⟩ (by decide) (by omega) rfl (Nat.le_of_ble_eq_true rfl) hx (fun σ1 a1 => ?_)
  have hsn : s.tk.st < n := by
    rcases ht.2.2 with q | q | q
    · exact absurd q.1 h258
    · exact q.2.1
    · have := ht.2.1; omega
  obtain ⟨t1, o1⟩ := hC.ad a1
  have ht1 : TkOk B n (adP B n s).tk := (adv_ok hB ht).1
  have hlt : s.tk.st < (adP B n s).tk.st := adv_lt hB ht h258
  have hF := pP_fair hB key f 2 (by decide) 0 par nots (adP B n s) ht1
  have hol : (adP B n s).out.length = s.out.length := rfl
  obtain ⟨g1, g2, g3, g4, g5, g6⟩ := hF
  refine x_aload0 G d_Ta_negation_4 ?_
  refine x_iload1 G d_Ta_negation_5 ?_
  refine x_iload2 G d_Ta_negation_6 ?_
  refine m_callV_pn (ih (kg κ) (d - 1) σ1 par nots (adP B n s) (by omega) hpar hnots (by rw [need_pc]; omega) t1 ht1 (by omega)) G d_Ta_negation_7 lk_Ta_77 rfl ⟨by decide, rfl⟩ (by decide) (by omega) rfl (Nat.le_of_ble_eq_true rfl) hx (fun σ2 h2 => ?_)
  obtain ⟨t2, o2⟩ := h2
  generalize hrr : pP B n key f 2 0 par nots (adP B n s) = r at t2 g1 g2 g3 g4 g5 g6 ⊢
  refine x_if_ne G d_Ta_negation_10 (fun c10 => ?_) (fun c10 => ?_)
  · replace c10 := bI_n0.mp c10
    refine x_aload0 G d_Ta_negation_15 ?_
    refine x_bipush (v := (-33)) G d_Ta_negation_16 rfl ?_
    refine m_callV_pv (p_Ta_emit (kg κ) (d - 1) (by omega) σ2 _ t2.2.2.1 (by have := g1.1; omega) _) G d_Ta_negation_18 lk_Ta_84 rfl ⟨by decide, rfl⟩ (by decide) (by omega) rfl (Nat.le_of_ble_eq_true rfl) hx (fun σ3 h3 => ?_)
    obtain ⟨t3, o3⟩ := t2.emit (a := 2) (v := 33) (by unfold encO; rw [if_pos rfl]; decide +kernel) h3
    refine x_iconst (v := nI 1) G d_Ta_negation_21 rfl ?_
    exact m_iret E G d_Ta_negation_22 hx rfl rfl ⟨by rw [hrr, c10]; rfl, by rw [hrr, if_pos c10]; exact t3, (o1.trans o2).trans o3⟩
  · replace c10 := bI_0.mp c10
    refine x_iconst (v := nI 0) G d_Ta_negation_13 rfl ?_
    exact m_iret E G d_Ta_negation_14 hx rfl rfl ⟨by rw [hrr, c10]; rfl, by rw [hrr, if_neg (by rw [c10]; decide)]; exact t2, o1.trans o2⟩
theorem p_Ta_bracket (g : CX) (d : Nat) (hd : 2 ≤ d) (σ : Sg) (B : Nat → Nat) (n : Nat) (hn96 : n ≤ 96) (hB : ∀ i, i < n → B i < 256) (key : Nat) (s : PS) (hC : TapC B n key s σ) (ht : TkOk B n s.tk) (f par nots : Nat) (ih : PexC B n key f) (hpar : par ≤ 8) (hnots : nots ≤ 8) (h258 : s.tk.sg ≠ 258) (hol0 : s.out.length ≤ s.tk.st) (hnd : 24 * (n - s.tk.st) + 2 ≤ f) (hdd : dep par nots + 7 ≤ d) : RunM g d Ta_bracket [.ref 73, .int (nI par), .int (nI nots)] σ (PN (bI ((pP B n key f 0 0 par nots (adP B n s)).1 && decide ((pP B n key f 0 0 par nots (adP B n s)).2.tk.sg = 41))) (fun σ1 => TapC B n key (if ((pP B n key f 0 0 par nots (adP B n s)).1 && decide ((pP B n key f 0 0 par nots (adP B n s)).2.tk.sg = 41)) = true then adP B n (pP B n key f 0 0 par nots (adP B n s)).2 else (pP B n key f 0 0 par nots (adP B n s)).2) σ1 ∧ OutT σ σ1)) := by
  refine RunM.of 0 (by decide +kernel) rfl ?_
  intro κ hg hx hk0 G E
  subst hg
  have hk : 3 ≤ kn κ := Nat.le_of_eq hk0.symm
  show X κ NC 0 [some (.ref 73), some (.int (nI par)), some (.int (nI nots))] [] (hv σ)
  refine x_aload0 G d_Ta_bracket_0 ?_
  refine m_callV_pv (p_Ta_advance (kg κ) (d - 1) (by omega) σ B n hn96 hB hC.1 _ _ ht.2.1 hC.2.1.2.1 hC.2.1.2.2.1 ht.sl) G d_Ta_bracket_1 lk_Ta_44 rfl ⟨by decide, rfl⟩ (by decide) (by omega) rfl (Nat.le_of_ble_eq_true rfl) hx (fun σ1 a1 => ?_)
  have hsn : s.tk.st < n := by
    rcases ht.2.2 with q | q | q
    · exact absurd q.1 h258
    · exact q.2.1
    · have := ht.2.1; omega
  obtain ⟨t1, o1⟩ := hC.ad a1
  have ht1 : TkOk B n (adP B n s).tk := (adv_ok hB ht).1
  have hlt : s.tk.st < (adP B n s).tk.st := adv_lt hB ht h258
  have hF := pP_fair hB key f 0 (by decide) 0 par nots (adP B n s) ht1
  have hol : (adP B n s).out.length = s.out.length := rfl
  obtain ⟨g1, g2, g3, g4, g5, g6⟩ := hF
  refine x_aload0 G d_Ta_bracket_4 ?_
  refine x_iconst (v := nI 0) G d_Ta_bracket_5 rfl ?_
  refine x_iload1 G d_Ta_bracket_6 ?_
  refine x_iload2 G d_Ta_bracket_7 ?_
  refine m_callV_pn (ih (kg κ) (d - 1) σ1 0 par nots (adP B n s) (by omega) (by decide) hpar hnots (by rw [need_ex]; omega) t1 ht1 (by omega)) G d_Ta_bracket_8 lk_Ta_51 rfl ⟨by decide, rfl⟩ (by decide) (by omega) rfl (Nat.le_of_ble_eq_true rfl) hx (fun σ2 h2 => ?_)
  obtain ⟨t2, o2⟩ := h2
  generalize hrr : pP B n key f 0 0 par nots (adP B n s) = r at t2 g1 g2 g3 g4 g5 g6 ⊢
  refine x_if_eq G d_Ta_bracket_11 (fun c11 => ?_) (fun c11 => ?_)
  · replace c11 := bI_0.mp c11
    refine x_iconst (v := nI 0) G d_Ta_bracket_23 rfl ?_
    exact m_iret E G d_Ta_bracket_24 hx rfl rfl ⟨by rw [hrr, c11]; rfl, by rw [hrr, c11]; exact t2, o1.trans o2⟩
  · replace c11 := bI_n0.mp c11
    refine x_aload0 G d_Ta_bracket_14 ?_
    refine m_geti G d_Ta_bracket_15 fl_Ta_37 rfl (by decide) rfl ?_
    rw [t2.2.1.2.2.1]
    refine x_bipush (v := nI 41) G d_Ta_bracket_18 rfl ?_
    refine x_icmp_eq G d_Ta_bracket_20 (fun c20 => ?_) (fun c20 => ?_)
    · have h41 : r.2.tk.sg = 41 := by rw [neq (by have := g1.sl; omega) (by decide)] at c20; exact c20
      refine x_aload0 G d_Ta_bracket_25 ?_
      refine m_callV_pv (p_Ta_advance (kg κ) (d - 1) (by omega) σ2 B n hn96 hB t2.1 _ _ g1.2.1 t2.2.1.2.1 t2.2.1.2.2.1 g1.sl) G d_Ta_bracket_26 lk_Ta_44 rfl ⟨by decide, rfl⟩ (by decide) (by omega) rfl (Nat.le_of_ble_eq_true rfl) hx (fun σ3 a3 => ?_)
      obtain ⟨t3, o3⟩ := t2.ad a3
      refine x_iconst (v := nI 1) G d_Ta_bracket_29 rfl ?_
      exact m_iret E G d_Ta_bracket_30 hx rfl rfl ⟨by rw [hrr, c11, decide_eq_true h41]; rfl, by rw [hrr, c11, decide_eq_true h41]; exact t3, (o1.trans o2).trans o3⟩
    · have h41 : ¬ r.2.tk.sg = 41 := fun e => c20 (by rw [e])
      refine x_iconst (v := nI 0) G d_Ta_bracket_23 rfl ?_
      exact m_iret E G d_Ta_bracket_24 hx rfl rfl ⟨by rw [hrr, decide_eq_false h41, Bool.and_false]; rfl, by rw [hrr, decide_eq_false h41, Bool.and_false]; exact t2, o1.trans o2⟩
theorem br_no {B : Nat → Nat} {n : Nat} {r : Bool × PS} (h : (r.1 && decide (r.2.tk.sg = 41)) = false) : bI false = bI (if r.1 = true then if r.2.tk.sg = 41 then (true, adP B n r.2) else (false, r.2) else r).1 ∧ (if r.1 = true then if r.2.tk.sg = 41 then (true, adP B n r.2) else (false, r.2) else r).2 = r.2 := by
  by_cases h1 : r.1 = true
  · rw [h1, Bool.true_and, decide_eq_false_iff_not] at h
    rw [if_pos h1, if_neg h]
    exact ⟨rfl, rfl⟩
  · rw [if_neg h1, Bool.eq_false_iff.mpr h1]
    exact ⟨rfl, rfl⟩
theorem br_yes {B : Nat → Nat} {n : Nat} {r : Bool × PS} (h : (r.1 && decide (r.2.tk.sg = 41)) = true) : bI true = bI (if r.1 = true then if r.2.tk.sg = 41 then (true, adP B n r.2) else (false, r.2) else r).1 ∧ (if r.1 = true then if r.2.tk.sg = 41 then (true, adP B n r.2) else (false, r.2) else r).2 = adP B n r.2 := by
  rw [Bool.and_eq_true, decide_eq_true_eq] at h
  rw [if_pos h.1, if_pos h.2]
  exact ⟨rfl, rfl⟩
theorem p_Ta_piece (g : CX) (d : Nat) (hd : 8 ≤ d) (σ : Sg) (B : Nat → Nat) (n : Nat) (hn96 : n ≤ 96) (hB : ∀ i, i < n → B i < 256) (key : Nat) (s : PS) (hC : TapC B n key s σ) (ht : TkOk B n s.tk) (hk3 : key < 3) (f par nots : Nat) (ihp : PpcC B n key f) (ihe : PexC B n key f) (hpar : par ≤ 8) (hnots : nots ≤ 8) (hol0 : s.out.length ≤ s.tk.st) (hnd : 24 * (n - s.tk.st) + 3 ≤ f + 1) (hdd : dep par nots ≤ d) : RunM g d Ta_piece [.ref 73, .int (nI par), .int (nI nots)] σ (Rd B n key (pP B n key (f + 1) 2 0 par nots s) σ) := by
  refine RunM.of 0 (by decide +kernel) rfl ?_
  intro κ hg hx hk0 G E
  subst hg
  have hk : 3 ≤ kn κ := Nat.le_of_eq hk0.symm
  show X κ NC 0 [some (.ref 73), some (.int (nI par)), some (.int (nI nots))] [] (hv σ)
  refine x_aload0 G d_Ta_piece_0 ?_
  refine m_geti G d_Ta_piece_1 fl_Ta_37 rfl (by decide) rfl ?_
  rw [hC.2.1.2.2.1]
  rcases (show s.tk.sg = 257 ∨ s.tk.sg = 256 ∨ s.tk.sg = 33 ∨ s.tk.sg = 40 ∨ (s.tk.sg ≠ 33 ∧ s.tk.sg ≠ 40 ∧ s.tk.sg ≠ 256 ∧ s.tk.sg ≠ 257) by omega) with hsg | hsg | hsg | hsg | ⟨hs1, hs2, hs3, hs4⟩
  · rw [hsg]
    obtain ⟨w1, w2, w3⟩ := ht.wrd (Or.inr hsg)
    refine x_lookup (44) 48 G d_Ta_piece_4 (by decide +kernel) (by decide +kernel) rfl ?_
    refine x_aload0 G d_Ta_piece_48 ?_
    refine m_geti G d_Ta_piece_49 fl_Ta_40 rfl (by decide) rfl ?_
    rw [hC.2.1.2.2.2]
    refine x_if_ne G d_Ta_piece_52 (fun c52 => ?_) (fun c52 => ?_)
    · have hgl := bI_n0.mp c52
      refine x_iconst (v := nI 0) G d_Ta_piece_83 rfl ?_
      exact m_iret E G d_Ta_piece_84 hx rfl rfl ⟨by rw [pP_pc, if_pos hsg, if_neg (fun q => by first | exact absurd (q.1.symm.trans hgl) (by decide) | exact h4 q.2)]; rfl, by rw [pP_pc, if_pos hsg, if_neg (fun q => by first | exact absurd (q.1.symm.trans hgl) (by decide) | exact h4 q.2)]; exact ⟨hC, fun _ _ _ => rfl⟩⟩
    · have hgl := bI_0.mp c52
      refine x_aload0 G d_Ta_piece_55 ?_
      refine m_geti G d_Ta_piece_56 fl_Ta_34 rfl (by decide) rfl ?_
      rw [hC.2.1.2.1]
      refine x_aload0 G d_Ta_piece_59 ?_
      refine m_geti G d_Ta_piece_60 fl_Ta_31 rfl (by decide) rfl ?_
      rw [hC.2.1.1]
      refine x_isub G d_Ta_piece_63 ?_
      rw [pk_sub ht.le]
      refine x_iconst (v := nI 4) G d_Ta_piece_64 rfl ?_
      refine x_icmp_gt G d_Ta_piece_65 (fun c65 => ?_) (fun c65 => ?_)
      · have h4 : ¬ s.tk.en - s.tk.st ≤ 4 := by rw [nlt (by decide) (by omega)] at c65; omega
        refine x_iconst (v := nI 0) G d_Ta_piece_83 rfl ?_
        exact m_iret E G d_Ta_piece_84 hx rfl rfl ⟨by rw [pP_pc, if_pos hsg, if_neg (fun q => by first | exact absurd (q.1.symm.trans hgl) (by decide) | exact h4 q.2)]; rfl, by rw [pP_pc, if_pos hsg, if_neg (fun q => by first | exact absurd (q.1.symm.trans hgl) (by decide) | exact h4 q.2)]; exact ⟨hC, fun _ _ _ => rfl⟩⟩
      · have h4 : s.tk.en - s.tk.st ≤ 4 := by rw [nlt (by decide) (by omega)] at c65; omega
        refine x_aload0 G d_Ta_piece_68 ?_
        refine x_aload0 G d_Ta_piece_69 ?_
        refine m_callV_pi (p_Ta_number (kg κ) (d - 1) (by omega) σ B n hn96 hB key s hC ht hsg) G d_Ta_piece_70 lk_Ta_88 rfl ⟨by decide, rfl⟩ (by decide) (by omega) rfl (Nat.le_of_ble_eq_true rfl) hx ?_
        refine m_callV_pn (p_Ta_operand (kg κ) (d - 1) (by omega) σ B n hn96 hB key s hC ht (by omega) 0 (numN B s.tk.st (s.tk.en - s.tk.st)) _ (by unfold encO; rw [if_neg (by decide +kernel), if_pos rfl])) G d_Ta_piece_73 lk_Ta_91 rfl ⟨by decide, rfl⟩ (by decide) (by omega) rfl (Nat.le_of_ble_eq_true rfl) hx (fun σ1 h1 => ?_)
        refine x_if_eq G d_Ta_piece_76 (fun c76 => absurd c76 ((by decide +kernel))) (fun c76 => ?_)
        refine x_iconst (v := nI 1) G d_Ta_piece_79 rfl ?_
        refine x_goto G d_Ta_piece_80 ?_
        exact m_iret E G d_Ta_piece_84 hx rfl rfl ⟨by rw [pP_pc, if_pos hsg, if_pos ⟨hgl, h4⟩]; rfl, by rw [pP_pc, if_pos hsg, if_pos ⟨hgl, h4⟩]; exact h1⟩
  · rw [hsg]
    obtain ⟨w1, w2, w3⟩ := ht.wrd (Or.inl hsg)
    refine x_lookup (81) 85 G d_Ta_piece_4 (by decide +kernel) (by decide +kernel) rfl ?_
    refine x_aload0 G d_Ta_piece_85 ?_
    refine m_geti G d_Ta_piece_86 fl_Ta_40 rfl (by decide) rfl ?_
    rw [hC.2.1.2.2.2]
    refine x_if_ne G d_Ta_piece_89 (fun c89 => ?_) (fun c89 => ?_)
    · have hgl := bI_n0.mp c89
      refine x_iconst (v := nI 0) G d_Ta_piece_118 rfl ?_
      exact m_iret E G d_Ta_piece_119 hx rfl rfl ⟨by rw [pP_pc, if_neg (by rw [hsg]; decide), if_pos hsg, if_neg (fun q => absurd (q.1.symm.trans hgl) (by decide))]; rfl, by rw [pP_pc, if_neg (by rw [hsg]; decide), if_pos hsg, if_neg (fun q => absurd (q.1.symm.trans hgl) (by decide))]; exact ⟨hC, fun _ _ _ => rfl⟩⟩
    · have hgl := bI_0.mp c89
      refine x_aload0 G d_Ta_piece_92 ?_
      refine m_callV_pi (p_Ta_name (kg κ) (d - 1) (by omega) σ B n hn96 hB key s hC ht hk3 hsg) G d_Ta_piece_93 lk_Ta_95 rfl ⟨by decide, rfl⟩ (by decide) (by omega) rfl (Nat.le_of_ble_eq_true rfl) hx ?_
      refine x_if_lt G d_Ta_piece_96 (fun c96 => ?_) (fun c96 => ?_)
      · have hnm : ¬ (s.tk.en - s.tk.st = 1 ∧ leB key (B s.tk.st) = true) := fun q => by
          rw [if_pos q.1] at c96
          unfold nmI at c96
          rw [if_pos q.2] at c96
          exact nI_pos (by have := lix_le key (B s.tk.st); omega) c96
        refine x_iconst (v := nI 0) G d_Ta_piece_118 rfl ?_
        exact m_iret E G d_Ta_piece_119 hx rfl rfl ⟨by rw [pP_pc, if_neg (by rw [hsg]; decide), if_pos hsg, if_neg (fun q => hnm q.2)]; rfl, by rw [pP_pc, if_neg (by rw [hsg]; decide), if_pos hsg, if_neg (fun q => hnm q.2)]; exact ⟨hC, fun _ _ _ => rfl⟩⟩
      · have hnm : s.tk.en - s.tk.st = 1 ∧ leB key (B s.tk.st) = true := by
          by_cases q : s.tk.en - s.tk.st = 1
          · rw [if_pos q] at c96
            unfold nmI at c96
            by_cases q2 : leB key (B s.tk.st) = true
            · exact ⟨q, q2⟩
            · rw [if_neg q2] at c96
              exact absurd (by decide) c96
          · rw [if_neg q] at c96
            exact absurd (by decide) c96
        refine x_aload0 G d_Ta_piece_99 ?_
        refine x_sipush (v := nI 10000) G d_Ta_piece_100 rfl ?_
        refine x_aload0 G d_Ta_piece_103 ?_
        refine m_callV_pi (p_Ta_name (kg κ) (d - 1) (by omega) σ B n hn96 hB key s hC ht hk3 hsg) G d_Ta_piece_104 lk_Ta_95 rfl ⟨by decide, rfl⟩ (by decide) (by omega) rfl (Nat.le_of_ble_eq_true rfl) hx ?_
        refine x_iadd G d_Ta_piece_107 ?_
        rw [if_pos hnm.1, show nmI key (B s.tk.st) = nI (lix key (B s.tk.st)) by unfold nmI; rw [if_pos hnm.2], nI_add]
        refine m_callV_pn (p_Ta_operand (kg κ) (d - 1) (by omega) σ B n hn96 hB key s hC ht (by omega) 1 (B s.tk.st) _ (by unfold encO; rw [if_neg (by decide +kernel), if_neg (by decide +kernel), tn_nI (by have := leB_lt hnm.2; omega)])) G d_Ta_piece_108 lk_Ta_91 rfl ⟨by decide, rfl⟩ (by decide) (by omega) rfl (Nat.le_of_ble_eq_true rfl) hx (fun σ1 h1 => ?_)
        refine x_if_eq G d_Ta_piece_111 (fun c111 => absurd c111 ((by decide +kernel))) (fun c111 => ?_)
        refine x_iconst (v := nI 1) G d_Ta_piece_114 rfl ?_
        refine x_goto G d_Ta_piece_115 ?_
        exact m_iret E G d_Ta_piece_119 hx rfl rfl ⟨by rw [pP_pc, if_neg (by rw [hsg]; decide), if_pos hsg, if_pos ⟨hgl, hnm.1, hnm.2⟩]; rfl, by rw [pP_pc, if_neg (by rw [hsg]; decide), if_pos hsg, if_pos ⟨hgl, hnm.1, hnm.2⟩]; exact h1⟩
  · rw [hsg]
    obtain ⟨w1, w2, w3⟩ := ht.sgn (by omega)
    refine x_lookup (116) 120 G d_Ta_piece_4 (by decide +kernel) (by decide +kernel) rfl ?_
    refine x_iload2 G d_Ta_piece_120 ?_
    refine x_bipush (v := nI 8) G d_Ta_piece_121 rfl ?_
    refine x_icmp_ge G d_Ta_piece_123 (fun c123 => ?_) (fun c123 => ?_)
    · have h8 : ¬ nots < 8 := by rw [nle (by decide) (by omega)] at c123; omega
      refine x_iconst (v := nI 0) G d_Ta_piece_141 rfl ?_
      exact m_iret E G d_Ta_piece_142 hx rfl rfl ⟨by rw [pP_pc, if_neg (by rw [hsg]; decide), if_neg (by rw [hsg]; decide), if_pos hsg, if_neg h8]; rfl, by rw [pP_pc, if_neg (by rw [hsg]; decide), if_neg (by rw [hsg]; decide), if_pos hsg, if_neg h8]; exact ⟨hC, fun _ _ _ => rfl⟩⟩
    · have h8 : nots < 8 := by rw [nle (by decide) (by omega)] at c123; omega
      refine x_aload0 G d_Ta_piece_126 ?_
      refine x_iload1 G d_Ta_piece_127 ?_
      refine x_iload2 G d_Ta_piece_128 ?_
      refine x_iconst (v := nI 1) G d_Ta_piece_129 rfl ?_
      refine x_iadd G d_Ta_piece_130 ?_
      rw [show nI nots + nI 1 = nI (nots + 1) from nI_1 _]
      refine m_callV_pn (p_Ta_negation (kg κ) (d - 1) (by omega) σ B n hn96 hB key s hC ht f par (nots + 1) ihp hpar (by omega) (by omega) hol0 (by omega) (by unfold dep at hdd ⊢; omega)) G d_Ta_piece_131 lk_Ta_100 rfl ⟨by decide, rfl⟩ (by decide) (by omega) rfl (Nat.le_of_ble_eq_true rfl) hx (fun σ1 h1 => ?_)
      generalize hrr : pP B n key f 2 0 par (nots + 1) (adP B n s) = r at h1 ⊢
      refine x_if_eq G d_Ta_piece_134 (fun c134 => ?_) (fun c134 => ?_)
      · replace c134 := bI_0.mp c134
        refine x_iconst (v := nI 0) G d_Ta_piece_141 rfl ?_
        exact m_iret E G d_Ta_piece_142 hx rfl rfl ⟨by rw [pP_pc, if_neg (by rw [hsg]; decide), if_neg (by rw [hsg]; decide), if_pos hsg, if_pos h8, hrr, if_neg (by rw [c134]; decide), c134]; rfl, by rw [pP_pc, if_neg (by rw [hsg]; decide), if_neg (by rw [hsg]; decide), if_pos hsg, if_pos h8, hrr, if_neg (by rw [c134]; decide)]; rw [if_neg (by rw [c134]; decide)] at h1; exact h1⟩
      · replace c134 := bI_n0.mp c134
        refine x_iconst (v := nI 1) G d_Ta_piece_137 rfl ?_
        refine x_goto G d_Ta_piece_138 ?_
        exact m_iret E G d_Ta_piece_142 hx rfl rfl ⟨by rw [pP_pc, if_neg (by rw [hsg]; decide), if_neg (by rw [hsg]; decide), if_pos hsg, if_pos h8, hrr, if_pos c134]; rfl, by rw [pP_pc, if_neg (by rw [hsg]; decide), if_neg (by rw [hsg]; decide), if_pos hsg, if_pos h8, hrr, if_pos c134]; rw [if_pos c134] at h1; exact h1⟩
  · rw [hsg]
    obtain ⟨w1, w2, w3⟩ := ht.sgn (by omega)
    refine x_lookup (139) 143 G d_Ta_piece_4 (by decide +kernel) (by decide +kernel) rfl ?_
    refine x_iload1 G d_Ta_piece_143 ?_
    refine x_bipush (v := nI 8) G d_Ta_piece_144 rfl ?_
    refine x_icmp_ge G d_Ta_piece_146 (fun c146 => ?_) (fun c146 => ?_)
    · have h8 : ¬ par < 8 := by rw [nle (by decide) (by omega)] at c146; omega
      refine x_iconst (v := nI 0) G d_Ta_piece_164 rfl ?_
      exact m_iret E G d_Ta_piece_165 hx rfl rfl ⟨by rw [pP_pc, if_neg (by rw [hsg]; decide), if_neg (by rw [hsg]; decide), if_neg (by rw [hsg]; decide), if_pos hsg, if_neg h8]; rfl, by rw [pP_pc, if_neg (by rw [hsg]; decide), if_neg (by rw [hsg]; decide), if_neg (by rw [hsg]; decide), if_pos hsg, if_neg h8]; exact ⟨hC, fun _ _ _ => rfl⟩⟩
    · have h8 : par < 8 := by rw [nle (by decide) (by omega)] at c146; omega
      refine x_aload0 G d_Ta_piece_149 ?_
      refine x_iload1 G d_Ta_piece_150 ?_
      refine x_iconst (v := nI 1) G d_Ta_piece_151 rfl ?_
      refine x_iadd G d_Ta_piece_152 ?_
      rw [show nI par + nI 1 = nI (par + 1) from nI_1 _]
      refine x_iload2 G d_Ta_piece_153 ?_
      refine m_callV_pn (p_Ta_bracket (kg κ) (d - 1) (by omega) σ B n hn96 hB key s hC ht f (par + 1) nots ihe (by omega) hnots (by omega) hol0 (by omega) (by unfold dep at hdd ⊢; omega)) G d_Ta_piece_154 lk_Ta_103 rfl ⟨by decide, rfl⟩ (by decide) (by omega) rfl (Nat.le_of_ble_eq_true rfl) hx (fun σ1 h1 => ?_)
      generalize hrr : pP B n key f 0 0 (par + 1) nots (adP B n s) = r at h1 ⊢
      refine x_if_eq G d_Ta_piece_157 (fun c157 => ?_) (fun c157 => ?_)
      · replace c157 := bI_0.mp c157
        refine x_iconst (v := nI 0) G d_Ta_piece_164 rfl ?_
        exact m_iret E G d_Ta_piece_165 hx rfl rfl ⟨by rw [pP_pc, if_neg (by rw [hsg]; decide), if_neg (by rw [hsg]; decide), if_neg (by rw [hsg]; decide), if_pos hsg, if_pos h8, hrr]; exact congrArg (fun z => some (Value.int z)) (br_no (B := B) (n := n) c157).1, by rw [pP_pc, if_neg (by rw [hsg]; decide), if_neg (by rw [hsg]; decide), if_neg (by rw [hsg]; decide), if_pos hsg, if_pos h8, hrr]; rw [if_neg (by rw [c157]; decide)] at h1; rw [(br_no c157).2]; exact h1⟩
      · replace c157 := bI_n0.mp c157
        refine x_iconst (v := nI 1) G d_Ta_piece_160 rfl ?_
        refine x_goto G d_Ta_piece_161 ?_
        exact m_iret E G d_Ta_piece_165 hx rfl rfl ⟨by rw [pP_pc, if_neg (by rw [hsg]; decide), if_neg (by rw [hsg]; decide), if_neg (by rw [hsg]; decide), if_pos hsg, if_pos h8, hrr]; exact congrArg (fun z => some (Value.int z)) (br_yes (B := B) (n := n) c157).1, by rw [pP_pc, if_neg (by rw [hsg]; decide), if_neg (by rw [hsg]; decide), if_neg (by rw [hsg]; decide), if_pos hsg, if_pos h8, hrr]; rw [if_pos c157] at h1; rw [(br_yes c157).2]; exact h1⟩
  · skip
    refine x_lookup (162) 166 G d_Ta_piece_4 (by decide +kernel) (pcO _ ht.sl hs1 hs2 hs3 hs4) rfl ?_
    refine x_iconst (v := nI 0) G d_Ta_piece_166 rfl ?_
    exact m_iret E G d_Ta_piece_167 hx rfl rfl ⟨by rw [pP_pc, if_neg (by omega), if_neg (by omega), if_neg (by omega), if_neg (by omega)]; rfl, by rw [pP_pc, if_neg (by omega), if_neg (by omega), if_neg (by omega), if_neg (by omega)]; exact ⟨hC, fun _ _ _ => rfl⟩⟩
def mostI (lv : Nat) : Int32 := if lv = 2 then nI 1 else nI 96
theorem p_Ta_expression (g : CX) (d : Nat) (hd : 8 ≤ d) (σ : Sg) (B : Nat → Nat) (n : Nat) (hn96 : n ≤ 96) (hB : ∀ i, i < n → B i < 256) (key : Nat) (s : PS) (hC : TapC B n key s σ) (ht : TkOk B n s.tk) (hk3 : key < 3) (f lv par nots : Nat) (IHe : ∀ f', f' ≤ f → PexC B n key f') (IHp : ∀ f', f' ≤ f → PpcC B n key f') (hlv5 : lv ≤ 5) (hpar : par ≤ 8) (hnots : nots ≤ 8) (hol0 : s.out.length ≤ s.tk.st) (hnd : need n 0 lv s ≤ f + 1) (hdd : dep par nots + 6 - lv ≤ d) : RunM g d Ta_expression [.ref 73, .int (nI lv), .int (nI par), .int (nI nots)] σ (Rd B n key (pP B n key (f + 1) 0 lv par nots s) σ) := by
  refine RunM.of 3 (by decide +kernel) rfl ?_
  intro κ hg hx hk0 G E
  subst hg
  have hk : 7 ≤ kn κ := Nat.le_of_eq hk0.symm
  show X κ NC 0 [some (.ref 73), some (.int (nI lv)), some (.int (nI par)), some (.int (nI nots)), none, none, none] [] (hv σ)
  refine x_iload1 G d_Ta_expression_0 ?_
  refine x_iconst (v := nI 5) G d_Ta_expression_1 rfl ?_
  refine x_icmp_lt G d_Ta_expression_2 (fun c2 => ?_) (fun c2 => ?_)
  · have hlv : lv < 5 := by rw [nlt (by omega) (by decide)] at c2; exact c2
    refine x_aload0 G d_Ta_expression_12 ?_
    refine x_iload1 G d_Ta_expression_13 ?_
    refine x_iconst (v := nI 1) G d_Ta_expression_14 rfl ?_
    refine x_iadd G d_Ta_expression_15 ?_
    rw [show nI lv + nI 1 = nI (lv + 1) from nI_1 _]
    refine x_iload2 G d_Ta_expression_16 ?_
    refine x_iload3 G d_Ta_expression_17 ?_
    refine m_callV_pn (IHe f (Nat.le_refl _) (kg κ) (d - 1) σ (lv + 1) par nots s (by omega) (by omega) hpar hnots (by rw [need_ex] at hnd ⊢; omega) hC ht hol0) G d_Ta_expression_18 lk_Ta_51 rfl ⟨by decide, rfl⟩ (by decide) (by omega) rfl (Nat.le_of_ble_eq_true rfl) hx (fun σ1 h1 => ?_)
    obtain ⟨t1, o1⟩ := h1
    obtain ⟨g1, g2, g3, g4, g5, g6⟩ := pP_fair hB key f 0 (by decide) (lv + 1) par nots s ht
    have hEq0 := pP_ex (B := B) (n := n) (key := key) (f := f) (lv := lv) (par := par) (nots := nots) (s := s)
    rw [if_neg (by omega)] at hEq0
    generalize hrr : pP B n key f 0 (lv + 1) par nots s = r0 at t1 g1 g2 g3 g4 g5 g6 hEq0 ⊢
    refine x_if_ne G d_Ta_expression_21 (fun c21 => ?_) (fun c21 => ?_)
    · replace c21 := bI_n0.mp c21
      have J37 : ∀ y : Int32, y = mostI lv → X κ NC 37 [some (.ref 73), some (.int (nI lv)), some (.int (nI par)), some (.int (nI nots)), none, none, none] [.int y] (hv σ1) := by
        intro y hy
        subst hy
        refine x_istore4 G d_Ta_expression_37 rfl hk ?_
        refine x_iconst (v := nI 0) G d_Ta_expression_39 rfl ?_
        refine x_istore5 G d_Ta_expression_40 rfl hk ?_
        have hloop : ∀ (fl k : Nat) (s1 : PS) (σ2 : Sg) (o6 : Option Value), fl ≤ f → need n 1 lv s1 ≤ fl → TapC B n key s1 σ2 → TkOk B n s1.tk → s1.out.length ≤ s1.tk.st → k ≤ s1.tk.st → (lv = 2 → k = 0) → OutT σ σ2 → pP B n key (f + 1) 0 lv par nots s = pP B n key fl 1 lv par nots s1 → X κ NC 42 [some (.ref 73), some (.int (nI lv)), some (.int (nI par)), some (.int (nI nots)), some (.int (mostI lv)), some (.int (nI k)), o6] [] (hv σ2) := by
          intro fl
          induction fl with
          | zero => intro k s1 σ2 o6 h1 h2; rw [need_lo] at h2; omega
          | succ fl ih =>
            intro k s1 σ2 o6 hfl hnd1 t2 ht1 hol1 hkst hk2 o2 hEq
            rw [need_lo] at hnd1
            rw [pP_lo] at hEq
            have hst1 := ht1.1
            refine x_iload5 G d_Ta_expression_42 ?_
            refine x_iload4 G d_Ta_expression_44 ?_
            refine x_icmp_ge G d_Ta_expression_46 (fun c46 => ?_) (fun c46 => ?_)
            · have hend : ¬ lvN s1.tk.sg = lv := by
                unfold mostI at c46
                by_cases h2 : lv = 2
                · rw [if_pos h2, hk2 h2, nle (by decide) (by decide)] at c46; omega
                · rw [if_neg h2, nle (by decide) (by omega)] at c46
                  rcases ht1.2.2 with q | q | q
                  · rw [q.1]; have q9 : lvN 258 = 9 := by decide
                    omega
                  · omega
                  · have := ht1.2.1; omega
              refine x_iconst (v := nI 1) G d_Ta_expression_97 rfl ?_
              exact m_iret E G d_Ta_expression_98 hx rfl rfl ⟨by rw [hEq, if_neg (fun q => hend q.1)]; rfl, by rw [hEq, if_neg (fun q => hend q.1)]; exact ⟨t2, o2⟩⟩
            · refine x_aload0 G d_Ta_expression_49 ?_
              refine m_geti G d_Ta_expression_50 fl_Ta_37 rfl (by decide) rfl ?_
              rw [t2.2.1.2.2.1]
              refine m_callS_pi (p_Ta_levelOf (kg κ) (d - 1) (by omega) σ2 _ ht1.sl) G d_Ta_expression_53 lk_Ta_81 (by omega) rfl (Nat.le_of_ble_eq_true rfl) hx ?_
              refine x_iload1 G d_Ta_expression_56 ?_
              refine x_icmp_ne G d_Ta_expression_57 (fun c57 => ?_) (fun c57 => ?_)
              · have hend : ¬ lvN s1.tk.sg = lv := fun q => c57 ((lvI_lv hlv).mpr q)
                refine x_iconst (v := nI 1) G d_Ta_expression_97 rfl ?_
                exact m_iret E G d_Ta_expression_98 hx rfl rfl ⟨by rw [hEq, if_neg (fun q => hend q.1)]; rfl, by rw [hEq, if_neg (fun q => hend q.1)]; exact ⟨t2, o2⟩⟩
              · have hlvN : lvN s1.tk.sg = lv := (lvI_lv hlv).mp c57
                have hsgn := ht1.sgn (by rcases lvN_op (show lvN s1.tk.sg < 9 by omega) with q | q | q | q | q | q | q | q | q <;> omega)
                have h258 : s1.tk.sg ≠ 258 := by rcases lvN_op (show lvN s1.tk.sg < 9 by omega) with q | q | q | q | q | q | q | q | q <;> omega
                rw [if_pos ⟨hlvN, hlv⟩] at hEq
                refine x_aload0 G d_Ta_expression_60 ?_
                refine m_geti G d_Ta_expression_61 fl_Ta_37 rfl (by decide) rfl ?_
                rw [t2.2.1.2.2.1]
                refine x_istore6 G d_Ta_expression_64 rfl hk ?_
                refine x_aload0 G d_Ta_expression_66 ?_
                refine m_callV_pv (p_Ta_advance (kg κ) (d - 1) (by omega) σ2 B n hn96 hB t2.1 _ _ ht1.2.1 t2.2.1.2.1 t2.2.1.2.2.1 ht1.sl) G d_Ta_expression_67 lk_Ta_44 rfl ⟨by decide, rfl⟩ (by decide) (by omega) rfl (Nat.le_of_ble_eq_true rfl) hx (fun σ3 a3 => ?_)
                obtain ⟨t3, o3⟩ := t2.ad a3
                have ht3 : TkOk B n (adP B n s1).tk := (adv_ok hB ht1).1
                have hlt3 : s1.tk.st < (adP B n s1).tk.st := adv_lt hB ht1 h258
                have hol3 : (adP B n s1).out.length = s1.out.length := rfl
                obtain ⟨g1, g2, g3, g4, g5, g6⟩ := pP_fair hB key fl 0 (by decide) (lv + 1) par nots (adP B n s1) ht3
                refine x_aload0 G d_Ta_expression_70 ?_
                refine x_iload1 G d_Ta_expression_71 ?_
                refine x_iconst (v := nI 1) G d_Ta_expression_72 rfl ?_
                refine x_iadd G d_Ta_expression_73 ?_
                rw [show nI lv + nI 1 = nI (lv + 1) from nI_1 _]
                refine x_iload2 G d_Ta_expression_74 ?_
                refine x_iload3 G d_Ta_expression_75 ?_
                refine m_callV_pn (IHe fl (by omega) (kg κ) (d - 1) σ3 (lv + 1) par nots (adP B n s1) (by omega) (by omega) hpar hnots (by rw [need_ex]; omega) t3 ht3 (by omega)) G d_Ta_expression_76 lk_Ta_51 rfl ⟨by decide, rfl⟩ (by decide) (by omega) rfl (Nat.le_of_ble_eq_true rfl) hx (fun σ4 h4 => ?_)
                obtain ⟨t4, o4⟩ := h4
                generalize hrr : pP B n key fl 0 (lv + 1) par nots (adP B n s1) = r at t4 g1 g2 g3 g4 g5 g6 hEq ⊢
                refine x_if_ne G d_Ta_expression_79 (fun c79 => ?_) (fun c79 => ?_)
                · replace c79 := bI_n0.mp c79
                  rw [if_pos c79] at hEq
                  refine x_aload0 G d_Ta_expression_84 ?_
                  refine x_iload6 G d_Ta_expression_85 ?_
                  refine x_ineg G d_Ta_expression_87 ?_
                  refine m_callV_pv (p_Ta_emit (kg κ) (d - 1) (by omega) σ4 _ t4.2.2.1 (by have := g1.1; omega) _) G d_Ta_expression_88 lk_Ta_84 rfl ⟨by decide, rfl⟩ (by decide) (by omega) rfl (Nat.le_of_ble_eq_true rfl) hx (fun σ5 h5 => ?_)
                  obtain ⟨t5, o5⟩ := t4.emit (a := 2) (v := s1.tk.sg) (by unfold encO; rw [if_pos rfl]) h5
                  refine x_iinc5 (v := nI (k + 1)) G d_Ta_expression_91 rfl hk (nI_1 _) ?_
                  refine x_goto G d_Ta_expression_94 ?_
                  by_cases h2 : lv = 2
                  · have hk0' := hk2 h2
                    rw [if_pos h2] at hEq
                    rw [hk0']
                    refine x_iload5 G d_Ta_expression_42 ?_
                    refine x_iload4 G d_Ta_expression_44 ?_
                    refine x_icmp_ge G d_Ta_expression_46 (fun c => ?_) (fun c => absurd (by unfold mostI; rw [if_pos h2]; exact Int32.le_refl _) c)
                    refine x_iconst (v := nI 1) G d_Ta_expression_97 rfl ?_
                    exact m_iret E G d_Ta_expression_98 hx rfl rfl ⟨by rw [hEq]; rfl, by rw [hEq]; exact ⟨t5, ((o2.trans o3).trans o4).trans o5⟩⟩
                  · rw [if_neg h2] at hEq
                    exact ih (k + 1) (emP r.2 2 s1.tk.sg) σ5 _ (by omega) (by rw [need_lo]; show 24 * (n - r.2.tk.st) + 22 ≤ fl; omega) t5 g1 (by show (r.2.out ++ [(2, s1.tk.sg)]).length ≤ r.2.tk.st; rw [List.length_append]; show r.2.out.length + 1 ≤ _; omega) (by show k + 1 ≤ r.2.tk.st; omega) (fun z => absurd z h2) (((o2.trans o3).trans o4).trans o5) hEq
                · replace c79 := bI_0.mp c79
                  rw [if_neg (by rw [c79]; decide)] at hEq
                  refine x_iconst (v := nI 0) G d_Ta_expression_82 rfl ?_
                  exact m_iret E G d_Ta_expression_83 hx rfl rfl ⟨by rw [hEq, c79]; rfl, by rw [hEq]; exact ⟨t4, (o2.trans o3).trans o4⟩⟩
        exact hloop f 0 r0.2 σ1 none (Nat.le_refl _) (by rw [need_lo]; rw [need_ex] at hnd; have := g6 c21 (by decide); have := g1.1; omega) t1 g1 (by omega) (Nat.zero_le _) (fun _ => rfl) o1 (by rw [hEq0, if_pos c21])
      refine x_iload1 G d_Ta_expression_26 ?_
      refine x_iconst (v := nI 2) G d_Ta_expression_27 rfl ?_
      refine x_icmp_ne G d_Ta_expression_28 (fun c28 => ?_) (fun c28 => ?_)
      · have w28 : ¬ lv = 2 := fun e => c28 (by rw [e])
        refine x_bipush (v := nI 96) G d_Ta_expression_35 rfl ?_
        exact J37 _ (by unfold mostI; first | rw [if_pos w28] | rw [if_neg w28])
      · have w28 : lv = 2 := by
          have q := c28
          rw [neq (by omega) (by decide)] at q
          exact q
        refine x_iconst (v := nI 1) G d_Ta_expression_31 rfl ?_
        refine x_goto G d_Ta_expression_32 ?_
        exact J37 _ (by unfold mostI; first | rw [if_pos w28] | rw [if_neg w28])
    · replace c21 := bI_0.mp c21
      refine x_iconst (v := nI 0) G d_Ta_expression_24 rfl ?_
      exact m_iret E G d_Ta_expression_25 hx rfl rfl ⟨by rw [hEq0, if_neg (by rw [c21]; decide), c21]; rfl, by rw [hEq0, if_neg (by rw [c21]; decide)]; exact ⟨t1, o1⟩⟩
  · have hlv : ¬ lv < 5 := fun q => c2 (nI_lt q (by decide))
    refine x_aload0 G d_Ta_expression_5 ?_
    refine x_iload2 G d_Ta_expression_6 ?_
    refine x_iload3 G d_Ta_expression_7 ?_
    refine m_callV_pn (IHp f (Nat.le_refl _) (kg κ) (d - 1) σ par nots s (by omega) hpar hnots (by rw [need_pc]; rw [need_ex] at hnd; omega) hC ht hol0) G d_Ta_expression_8 lk_Ta_77 rfl ⟨by decide, rfl⟩ (by decide) (by omega) rfl (Nat.le_of_ble_eq_true rfl) hx (fun σ1 h1 => ?_)
    exact m_iret E G d_Ta_expression_11 hx rfl (bI_z _) ⟨by rw [pP_ex, if_pos (by omega)], by rw [pP_ex, if_pos (by omega)]; exact h1⟩
theorem dep_le (par nots : Nat) : 8 ≤ dep par nots := by unfold dep; omega
theorem C_all {B : Nat → Nat} {n key : Nat} (hn96 : n ≤ 96) (hB : ∀ i, i < n → B i < 256) (hk3 : key < 3) (f : Nat) : PexC B n key f ∧ PpcC B n key f := by
  induction f using Nat.strongRecOn with
  | ind f ih =>
    cases f with
    | zero =>
      refine ⟨fun g d σ lv par nots s h1 h2 h3 h4 h5 => ?_, fun g d σ par nots s h1 h2 h3 h5 => ?_⟩
      · rw [need_ex] at h5; omega
      · rw [need_pc] at h5; omega
    | succ f =>
      refine ⟨fun g d σ lv par nots s h1 h2 h3 h4 h5 h6 h7 h8 => ?_, fun g d σ par nots s h1 h2 h3 h5 h6 h7 h8 => ?_⟩
      · exact p_Ta_expression g d (by have := dep_le par nots; omega) σ B n hn96 hB key s h6 h7 hk3 f lv par nots (fun f' hf => (ih f' (by omega)).1) (fun f' hf => (ih f' (by omega)).2) h2 h3 h4 h8 h5 h1
      · exact p_Ta_piece g d (by have := dep_le par nots; omega) σ B n hn96 hB key s h6 h7 hk3 f par nots (ih f (by omega)).2 (ih f (by omega)).1 h2 h3 h8 (by rw [need_pc] at h5; omega) h1
