/-! THE MODEL READS A TEXT -/
theorem putT_snoc {S : Rw} {la a v : Nat} {out : List (Nat × Nat)} : upd (upd (putT S la out) (la + 2 * out.length) (nI a)) (la + 2 * out.length + 1) (nI v) = putT S la (out ++ [(a, v)]) := by
  funext i
  unfold putT
  have hl : (out ++ [(a, v)]).length = out.length + 1 := by simp
  rw [hl]
  by_cases h2 : i = la + 2 * out.length + 1
  · rw [h2, pk_us, if_pos (by omega), if_neg (by omega), show (la + 2 * out.length + 1 - la) / 2 = out.length by omega]
    simp
  · rw [pk_un h2]
    by_cases h1 : i = la + 2 * out.length
    · rw [h1, pk_us, if_pos (by omega), if_pos (by omega), show (la + 2 * out.length - la) / 2 = out.length by omega]
      simp
    · rw [pk_un h1]
      by_cases h : la ≤ i ∧ i < la + 2 * out.length
      · rw [if_pos h, if_pos (show la ≤ i ∧ i < la + 2 * (out.length + 1) by omega)]
        have e : (out ++ [(a, v)]).getD ((i - la) / 2) (0, 0) = out.getD ((i - la) / 2) (0, 0) := by
          rw [List.getD_eq_getElem?_getD, List.getD_eq_getElem?_getD, List.getElem?_append_left (by omega)]
        rw [e]
      · rw [if_neg h, if_neg (by omega)]
theorem putT_nil {S : Rw} {la : Nat} : putT S la [] = S := by
  funext i
  unfold putT
  rw [if_neg (by simp)]
theorem tkI_sign {B : Nat → Nat} {n : Nat} {k : Tk} (h : TkOk B n k) : tkI k = nI 3 ↔ k.sg < 256 := by
  unfold tkI
  have e0 : ¬ nI 0 = nI 3 := by decide +kernel
  have e1 : ¬ nI 1 = nI 3 := by decide +kernel
  have e2 : ¬ nI 2 = nI 3 := by decide +kernel
  have e4 : ¬ nI 4 = nI 3 := by decide +kernel
  rcases h.2.2 with q | q | q
  · rw [if_pos q.1]
    exact ⟨fun z => absurd z e0, fun z => by omega⟩
  · rw [if_neg (by omega), if_neg (by omega), if_neg (by omega)]
    exact ⟨fun _ => q.1, fun _ => rfl⟩
  · rcases q.1 with z | z
    · rw [if_neg (by omega), if_pos z]
      refine ⟨fun y => ?_, fun y => by omega⟩
      split at y
      · exact absurd y e4
      · exact absurd y e1
    · rw [if_neg (by omega), if_neg (by omega), if_pos z]
      refine ⟨fun y => ?_, fun y => by omega⟩
      split at y
      · exact absurd y e4
      · exact absurd y e2
theorem tkI_num {k : Tk} (h : k.sg = 257) (h1 : k.gl = false) (h2 : k.en - k.st ≤ 4) : tkI k = nI 2 := by
  unfold tkI
  rw [if_neg (by omega), if_neg (by omega), if_pos h, if_neg (by rw [h1]; intro y; rcases y with y | y; cases y; omega)]
theorem tkI_numN {k : Tk} (h : k.sg = 257) (h1 : ¬ (k.gl = false ∧ k.en - k.st ≤ 4)) : tkI k = nI 4 := by
  unfold tkI
  rw [if_neg (by omega), if_neg (by omega), if_pos h, if_pos]
  cases hg : k.gl with
  | true => exact Or.inl rfl
  | false => exact Or.inr (Nat.not_le.mp fun q => h1 ⟨hg, q⟩)
theorem tkI_wrd {k : Tk} (h : k.sg = 256) (h1 : k.gl = false) : tkI k = nI 1 := by
  unfold tkI
  rw [if_neg (by omega), if_pos h, if_neg (by rw [h1]; decide)]
theorem tkI_wrdN {k : Tk} (h : k.sg = 256) (h1 : k.gl = true) : tkI k = nI 4 := by
  unfold tkI
  rw [if_neg (by omega), if_pos h, if_pos h1]
def OutR (σ σ1 : Sg) : Prop := (∀ j, (j < 19 ∨ 29 ≤ j) → σ1 113 j = σ 113 j) ∧ ∀ q, q ≠ 113 → q ≠ 114 → σ1 q = σ q
theorem OutR.trans {σ σ1 σ2 : Sg} (h : OutR σ σ1) (g : OutR σ1 σ2) : OutR σ σ2 := ⟨fun j a => (g.1 j a).trans (h.1 j a), fun q a b => (g.2 q a b).trans (h.2 q a b)⟩
def MdC (B : Nat → Nat) (n la : Nat) (S : Rw) (s : PS) (par nots : Nat) (σ : Sg) : Prop := ByM B n σ ∧ TkM B s.tk σ ∧ σ 113 24 = nI par ∧ σ 113 25 = nI nots ∧ σ 113 26 = nI s.out.length ∧ σ 113 27 = nI la ∧ σ 113 28 = nI s.ops ∧ σ 114 = putT S la s.out
section MDC
variable {B : Nat → Nat} {n la par nots : Nat} {S : Rw} {s : PS} {σ σ1 : Sg}
theorem MdC.adv (h : MdC B n la S s par nots σ) (ht : TkOk B n s.tk) (ho : okT s.tk) (g : TkM B (lexT B n s.tk.en (wsB s.tk.en (tkI s.tk))) σ1 ∧ (∀ j, (j < 19 ∨ 24 ≤ j) → σ1 113 j = σ 113 j) ∧ ∀ q, q ≠ 113 → σ1 q = σ q) : MdC B n la S (adP B n s) par nots σ1 ∧ OutR σ σ1 := by
  obtain ⟨h1, h2, h3, h4, h5, h6, h7, h8⟩ := h
  obtain ⟨g1, g2, g3⟩ := g
  rw [was_eq ht ho] at g1
  exact ⟨⟨h1.frame (g2 18 (by decide)) (g3 129 (by decide)), g1, by rw [g2 24 (by decide)]; exact h3, by rw [g2 25 (by decide)]; exact h4, by rw [g2 26 (by decide)]; exact h5, by rw [g2 27 (by decide)]; exact h6, by rw [g2 28 (by decide)]; exact h7, by rw [g3 114 (by decide)]; exact h8⟩, fun j a => g2 j (by omega), fun q a _ => g3 q a⟩
theorem MdC.emit {a v : Nat} (h : MdC B n la S s par nots σ) (e : σ1 = updS (updS (updS σ 114 (la + 2 * s.out.length) (nI a)) 114 (la + 2 * s.out.length + 1) (nI v)) 113 26 (nI (s.out.length + 1))) : MdC B n la S (emP s a v) par nots σ1 ∧ OutR σ σ1 := by
  obtain ⟨h1, h2, h3, h4, h5, h6, h7, h8⟩ := h
  have g : ∀ j, j ≠ 26 → σ1 113 j = σ 113 j := fun j hj => by rw [e, updS_ne (by omega), updS_nk (by decide), updS_nk (by decide)]
  have g2 : ∀ q, q ≠ 113 → q ≠ 114 → σ1 q = σ q := fun q a b => by rw [e, updS_nk a, updS_nk b, updS_nk b]
  exact ⟨⟨h1.frame (g 18 (by decide)) (g2 129 (by decide) (by decide)), h2.frame (fun j a b => g j (by omega)), by rw [g 24 (by decide)]; exact h3, by rw [g 25 (by decide)]; exact h4, by rw [e, updS_at, emP_len], by rw [g 27 (by decide)]; exact h6, by rw [g 28 (by decide)]; exact h7, by rw [e, updS_nk (by decide), updS_row, updS_row, h8]; exact putT_snoc⟩, fun j a => g j (by omega), g2⟩
theorem MdC.put {j : Nat} {x : Int32} {par' nots' : Nat} {s' : PS} (h : MdC B n la S s par nots σ) (e : σ1 = updS σ 113 j x) (hs1 : s'.1 = s.1) (hs2 : s'.2.1 = s.2.1) (hj : (j = 24 ∧ x = nI par' ∧ nots' = nots ∧ s'.2.2 = s.2.2) ∨ (j = 25 ∧ x = nI nots' ∧ par' = par ∧ s'.2.2 = s.2.2) ∨ (j = 28 ∧ x = nI s'.2.2 ∧ par' = par ∧ nots' = nots)) : MdC B n la S s' par' nots' σ1 ∧ OutR σ σ1 := by
  obtain ⟨h1, h2, h3, h4, h5, h6, h7, h8⟩ := h
  have g : ∀ i, i ≠ j → σ1 113 i = σ 113 i := fun i hi => by rw [e, updS_ne (by omega)]
  have g2 : ∀ q, q ≠ 113 → σ1 q = σ q := fun q a => by rw [e, updS_nk a]
  have hj3 : j = 24 ∨ j = 25 ∨ j = 28 := by rcases hj with q | q | q <;> omega
  refine ⟨⟨h1.frame (g 18 (by omega)) (g2 129 (by decide)), ?_, ?_, ?_, ?_, ?_, ?_, ?_⟩, fun i a => g i (by omega), fun q a _ => g2 q a⟩
  · show TkM B s'.1 σ1
    rw [hs1]
    exact h2.frame (fun i a b => g i (by omega))
  · rcases hj with ⟨q1, q2, q3, q4⟩ | ⟨q1, q2, q3, q4⟩ | ⟨q1, q2, q3, q4⟩
    · rw [e, q1, updS_at, q2]
    · rw [g 24 (by omega), q3]; exact h3
    · rw [g 24 (by omega), q3]; exact h3
  · rcases hj with ⟨q1, q2, q3, q4⟩ | ⟨q1, q2, q3, q4⟩ | ⟨q1, q2, q3, q4⟩
    · rw [g 25 (by omega), q3]; exact h4
    · rw [e, q1, updS_at, q2]
    · rw [g 25 (by omega), q4]; exact h4
  · show _ = nI s'.2.1.length
    rw [g 26 (by omega), hs2]; exact h5
  · rw [g 27 (by omega)]; exact h6
  · show _ = nI s'.2.2
    rcases hj with ⟨q1, q2, q3, q4⟩ | ⟨q1, q2, q3, q4⟩ | ⟨q1, q2, q3, q4⟩
    · rw [g 28 (by omega), q4]; exact h7
    · rw [g 28 (by omega), q4]; exact h7
    · rw [e, q1, updS_at, q2]
  · show _ = putT S la s'.2.1
    rw [g2 114 (by decide), hs2]; exact h8
end MDC
def FaC (la : Nat) (S : Rw) (s : PS) (σ : Sg) : Prop := σ 113 19 = nI s.tk.st ∧ σ 114 = putT S la s.out
theorem MdC.fa {B : Nat → Nat} {n la par nots : Nat} {S : Rw} {s : PS} {σ : Sg} (h : MdC B n la S s par nots σ) : FaC la S s σ := ⟨h.2.1.1, h.2.2.2.2.2.2.2⟩
def RdM (B : Nat → Nat) (n la : Nat) (S : Rw) (r : Bool × PS) (par nots : Nat) (σ : Sg) : Option Value → Sg → Prop := PN (bI r.1) (fun σ1 => (r.1 = true → MdC B n la S r.2 par nots σ1) ∧ FaC la S r.2 σ1 ∧ OutR σ σ1)
def PlM (B : Nat → Nat) (n la : Nat) (S : Rw) (key : Nat) (μ : MD) (lv f : Nat) : Prop := ∀ (g : CX) (d : Nat) (σ : Sg) (par nots : Nat) (s : PS), dep par nots + 7 - lv ≤ d → par ≤ 8 → nots ≤ 8 → need n 0 lv s ≤ f → MdC B n la S s par nots σ → TkOk B n s.tk → s.out.length ≤ s.tk.st → RunM g d μ [.ref 113, .int (nI key)] σ (RdM B n la S (pP B n key f 0 lv par nots s) par nots σ)
def PpM (B : Nat → Nat) (n la : Nat) (S : Rw) (key f : Nat) : Prop := ∀ (g : CX) (d : Nat) (σ : Sg) (par nots : Nat) (s : PS), dep par nots ≤ d → par ≤ 8 → nots ≤ 8 → need n 2 0 s ≤ f → MdC B n la S s par nots σ → TkOk B n s.tk → s.out.length ≤ s.tk.st → RunM g d M_part0 [.ref 113, .int (nI key)] σ (RdM B n la S (pP B n key f 2 0 par nots s) par nots σ)
theorem PpM.ex {B : Nat → Nat} {n la key f : Nat} {S : Rw} (h : PpM B n la S key f) : PlM B n la S key M_part0 5 (f + 1) := fun g d σ par nots s h1 h2 h3 h4 h5 h6 h7 => by
  have := h g d σ par nots s (by omega) h2 h3 (by rw [need_pc]; rw [need_ex] at h4; omega) h5 h6 h7
  rw [pP_ex, if_pos (Nat.le_refl 5)]
  exact this
theorem lv_0 {c : Nat} : lvN c = 0 ↔ c = 124 := by unfold lvN; (repeat' split) <;> omega
theorem lv_1 {c : Nat} : lvN c = 1 ↔ c = 38 := by unfold lvN; (repeat' split) <;> omega
theorem lv_2 {c : Nat} : lvN c = 2 ↔ (c = 60 ∨ c = 61 ∨ c = 62) := by unfold lvN; (repeat' split) <;> omega
theorem lv_3 {c : Nat} : lvN c = 3 ↔ (c = 43 ∨ c = 45) := by unfold lvN; (repeat' split) <;> omega
theorem lv_4 {c : Nat} : lvN c = 4 ↔ (c = 42 ∨ c = 47) := by unfold lvN; (repeat' split) <;> omega
theorem okT_s {k : Tk} (h : k.sg < 256) : okT k := fun z => by
  rcases isWd_y z with q | q <;> omega
theorem wd4_sg {B : Nat → Nat} {n a b c d : Nat} {k : Tk} (hB : ∀ i, i < n → B i < 256) (h : TkOk B n k) (ha : 97 ≤ a ∧ a ≤ 122) (hw : wd4 B k.st k.en a b c d = true) : k.sg = 256 := by
  unfold wd4 at hw
  simp only [Bool.and_eq_true, decide_eq_true_eq] at hw
  obtain ⟨⟨⟨⟨w1, w2⟩, w3⟩, w4⟩, w5⟩ := hw
  rcases h.2.2 with q | q | q
  · omega
  · omega
  · have h1 := q.2.2 k.st (Nat.le_refl _) q.2.1
    rw [w2] at h1
    rcases sgN_cases a with z | z | z <;> omega
theorem p_M_step (g : CX) (d : Nat) (hd : 0 ≤ d) (σ : Sg) (la L : Nat) (hla : σ 113 27 = nI la) (hL : σ 113 26 = nI L) (hl9 : la + 2 * L + 1 < 3090) (w v : Int32) : RunM g d M_step [.ref 113, .int w, .int v] σ (PV (fun σ1 => σ1 = updS (updS (updS σ 114 (la + 2 * L) w) 114 (la + 2 * L + 1) v) 113 26 (nI (L + 1)))) := by
  refine RunM.of 0 (by decide +kernel) rfl ?_
  intro κ hg hx hk0 G E
  subst hg
  have hk : 3 ≤ kn κ := Nat.le_of_eq hk0.symm
  show X κ NC 0 [some (.ref 113), some (.int w), some (.int v)] [] (hv σ)
  refine x_aload0 G d_M_step_0 ?_
  refine m_getr G d_M_step_1 fl_M_7 rfl (by decide) rfl ?_
  refine x_aload0 G d_M_step_4 ?_
  refine m_geti G d_M_step_5 fl_M_249 rfl (by decide) rfl ?_
  rw [hla]
  refine x_iconst (v := nI 2) G d_M_step_8 rfl ?_
  refine x_aload0 G d_M_step_9 ?_
  refine m_geti G d_M_step_10 fl_M_252 rfl (by decide) rfl ?_
  rw [hL]
  refine x_imul G d_M_step_13 ?_
  rw [pk_mul]
  refine x_iadd G d_M_step_14 ?_
  rw [nI_add]
  refine x_iload1 G d_M_step_15 ?_
  refine m_iast_n (la + 2 * L) G d_M_step_16 rfl rfl ⟨by omega, by first | decide | omega⟩ (fun σ1 e1 => ?_)
  refine x_aload0 G d_M_step_17 ?_
  refine m_getr G d_M_step_18 fl_M_7 rfl (by decide) rfl ?_
  refine x_aload0 G d_M_step_21 ?_
  refine m_geti G d_M_step_22 fl_M_249 rfl (by decide) rfl ?_
  rw [show σ1 113 27 = nI la by rw [e1, updS_nk (by decide)]; exact hla]
  refine x_iconst (v := nI 2) G d_M_step_25 rfl ?_
  refine x_aload0 G d_M_step_26 ?_
  refine m_geti G d_M_step_27 fl_M_252 rfl (by decide) rfl ?_
  rw [show σ1 113 26 = nI L by rw [e1, updS_nk (by decide)]; exact hL]
  refine x_imul G d_M_step_30 ?_
  rw [pk_mul]
  refine x_iadd G d_M_step_31 ?_
  rw [nI_add]
  refine x_iconst (v := nI 1) G d_M_step_32 rfl ?_
  refine x_iadd G d_M_step_33 ?_
  rw [show nI (la + 2 * L) + nI 1 = nI (la + 2 * L + 1) from nI_1 _]
  refine x_iload2 G d_M_step_34 ?_
  refine m_iast_n (la + 2 * L + 1) G d_M_step_35 rfl rfl ⟨by omega, by first | decide | omega⟩ (fun σ2 e2 => ?_)
  refine x_aload0 G d_M_step_36 ?_
  refine x_dup G d_M_step_37 rfl ?_
  refine m_geti G d_M_step_38 fl_M_252 rfl (by decide) rfl ?_
  rw [show σ2 113 26 = nI L by rw [e2, updS_nk (by decide), e1, updS_nk (by decide)]; exact hL]
  refine x_iconst (v := nI 1) G d_M_step_41 rfl ?_
  refine x_iadd G d_M_step_42 ?_
  rw [show nI L + nI 1 = nI (L + 1) from nI_1 _]
  refine m_puti_n G d_M_step_43 fl_M_252 rfl (by decide) rfl rfl rfl (fun σ3 e3 => ?_)
  exact m_vret E G d_M_step_46 hx rfl ⟨rfl, (by rw [e3, e2, e1])⟩
theorem p_M_isSign (g : CX) (d : Nat) (hd : 0 ≤ d) (σ : Sg) (B : Nat → Nat) (n : Nat) (k : Tk) (hT : TkM B k σ) (ht : TkOk B n k) (c : Nat) (hc : c < 256) : RunM g d M_isSign [.ref 113, .int (nI c)] σ (PI (bI (decide (k.sg = c))) σ) := by
  refine RunM.of 0 (by decide +kernel) rfl ?_
  intro κ hg hx hk0 G E
  subst hg
  have hk : 2 ≤ kn κ := Nat.le_of_eq hk0.symm
  show X κ NC 0 [some (.ref 113), some (.int (nI c))] [] (hv σ)
  refine x_aload0 G d_M_isSign_0 ?_
  refine m_geti G d_M_isSign_1 fl_M_227 rfl (by decide) rfl ?_
  rw [hT.2.2.1]
  refine x_iconst (v := nI 3) G d_M_isSign_4 rfl ?_
  refine x_icmp_ne G d_M_isSign_5 (fun c5 => ?_) (fun c5 => ?_)
  · have h1 : ¬ k.sg < 256 := fun z => c5 ((tkI_sign ht).mpr z)
    refine x_iconst (v := nI 0) G d_M_isSign_20 rfl ?_
    exact m_iret E G d_M_isSign_21 hx rfl rfl (pi_of (by rw [decide_eq_false (fun e => h1 (by omega))]; rfl))
  · have h1 : k.sg < 256 := (tkI_sign ht).mp c5
    refine x_aload0 G d_M_isSign_8 ?_
    refine m_geti G d_M_isSign_9 fl_M_236 rfl (by decide) rfl ?_
    rw [hT.2.2.2.2.2 h1]
    refine x_iload1 G d_M_isSign_12 ?_
    refine x_icmp_ne G d_M_isSign_13 (fun c13 => ?_) (fun c13 => ?_)
    · have h2 : ¬ k.sg = c := fun e => c13 (by rw [e])
      refine x_iconst (v := nI 0) G d_M_isSign_20 rfl ?_
      exact m_iret E G d_M_isSign_21 hx rfl rfl (pi_of (by rw [decide_eq_false h2]; rfl))
    · have h2 : k.sg = c := by
        have q := c13
        rw [neq (by omega) (by omega)] at q
        exact q
      refine x_iconst (v := nI 1) G d_M_isSign_16 rfl ?_
      refine x_goto G d_M_isSign_17 ?_
      exact m_iret E G d_M_isSign_21 hx rfl rfl (pi_of (by rw [decide_eq_true h2]; rfl))
theorem p_M_isName (g : CX) (d : Nat) (hd : 0 ≤ d) (σ : Sg) (key c : Nat) (hk3 : key < 3) (hc : c < 256) : RunM g d M_isName [.int (nI key), .int (nI c)] σ (PI (bI (leB key c)) σ) := by
  refine RunM.of 0 (by decide +kernel) rfl ?_
  intro κ hg hx hk0 G E
  subst hg
  have hk : 2 ≤ kn κ := Nat.le_of_eq hk0.symm
  show X κ NC 0 [some (.int (nI key)), some (.int (nI c))] [] (hv σ)
  rcases (show key = 0 ∨ key = 1 ∨ key = 2 by omega) with rfl | rfl | rfl
  · skip
    refine x_iload0 G d_M_isName_0 ?_
    refine x_lookup (27) 28 G d_M_isName_1 (by decide +kernel) (by decide +kernel) rfl ?_
    refine x_iload1 G d_M_isName_28 ?_
    refine x_bipush (v := nI 100) G d_M_isName_29 rfl ?_
    refine x_icmp_eq G d_M_isName_31 (fun c31 => ?_) (fun c31 => ?_)
    · refine x_iconst (v := nI 1) G d_M_isName_46 rfl ?_
      refine x_goto G d_M_isName_47 ?_
      exact m_iret E G d_M_isName_51 hx rfl rfl (pi_of (by unfold leB; simp only [true_and, neq (show c < 2 ^ 31 by omega) (show 100 < 2 ^ 31 by decide), neq (show c < 2 ^ 31 by omega) (show 99 < 2 ^ 31 by decide), neq (show c < 2 ^ 31 by omega) (show 104 < 2 ^ 31 by decide), neq (show c < 2 ^ 31 by omega) (show 115 < 2 ^ 31 by decide), neq (show c < 2 ^ 31 by omega) (show 108 < 2 ^ 31 by decide)] at *; simp_all [bI, nI_0, nI1]))
    · refine x_iload1 G d_M_isName_34 ?_
      refine x_bipush (v := nI 99) G d_M_isName_35 rfl ?_
      refine x_icmp_eq G d_M_isName_37 (fun c37 => ?_) (fun c37 => ?_)
      · refine x_iconst (v := nI 1) G d_M_isName_46 rfl ?_
        refine x_goto G d_M_isName_47 ?_
        exact m_iret E G d_M_isName_51 hx rfl rfl (pi_of (by unfold leB; simp only [true_and, neq (show c < 2 ^ 31 by omega) (show 100 < 2 ^ 31 by decide), neq (show c < 2 ^ 31 by omega) (show 99 < 2 ^ 31 by decide), neq (show c < 2 ^ 31 by omega) (show 104 < 2 ^ 31 by decide), neq (show c < 2 ^ 31 by omega) (show 115 < 2 ^ 31 by decide), neq (show c < 2 ^ 31 by omega) (show 108 < 2 ^ 31 by decide)] at *; simp_all [bI, nI_0, nI1]))
      · refine x_iload1 G d_M_isName_40 ?_
        refine x_bipush (v := nI 104) G d_M_isName_41 rfl ?_
        refine x_icmp_ne G d_M_isName_43 (fun c43 => ?_) (fun c43 => ?_)
        · refine x_iconst (v := nI 0) G d_M_isName_50 rfl ?_
          exact m_iret E G d_M_isName_51 hx rfl rfl (pi_of (by unfold leB; simp only [true_and, neq (show c < 2 ^ 31 by omega) (show 100 < 2 ^ 31 by decide), neq (show c < 2 ^ 31 by omega) (show 99 < 2 ^ 31 by decide), neq (show c < 2 ^ 31 by omega) (show 104 < 2 ^ 31 by decide), neq (show c < 2 ^ 31 by omega) (show 115 < 2 ^ 31 by decide), neq (show c < 2 ^ 31 by omega) (show 108 < 2 ^ 31 by decide)] at *; simp_all [bI, nI_0, nI1]))
        · refine x_iconst (v := nI 1) G d_M_isName_46 rfl ?_
          refine x_goto G d_M_isName_47 ?_
          exact m_iret E G d_M_isName_51 hx rfl rfl (pi_of (by unfold leB; simp only [true_and, neq (show c < 2 ^ 31 by omega) (show 100 < 2 ^ 31 by decide), neq (show c < 2 ^ 31 by omega) (show 99 < 2 ^ 31 by decide), neq (show c < 2 ^ 31 by omega) (show 104 < 2 ^ 31 by decide), neq (show c < 2 ^ 31 by omega) (show 115 < 2 ^ 31 by decide), neq (show c < 2 ^ 31 by omega) (show 108 < 2 ^ 31 by decide)] at *; simp_all [bI, nI_0, nI1]))
  · skip
    refine x_iload0 G d_M_isName_0 ?_
    refine x_lookup (51) 52 G d_M_isName_1 (by decide +kernel) (by decide +kernel) rfl ?_
    refine x_iload1 G d_M_isName_52 ?_
    refine x_bipush (v := nI 115) G d_M_isName_53 rfl ?_
    refine x_icmp_eq G d_M_isName_55 (fun c55 => ?_) (fun c55 => ?_)
    · refine x_iconst (v := nI 1) G d_M_isName_64 rfl ?_
      refine x_goto G d_M_isName_65 ?_
      exact m_iret E G d_M_isName_69 hx rfl rfl (pi_of (by unfold leB; simp only [true_and, neq (show c < 2 ^ 31 by omega) (show 100 < 2 ^ 31 by decide), neq (show c < 2 ^ 31 by omega) (show 99 < 2 ^ 31 by decide), neq (show c < 2 ^ 31 by omega) (show 104 < 2 ^ 31 by decide), neq (show c < 2 ^ 31 by omega) (show 115 < 2 ^ 31 by decide), neq (show c < 2 ^ 31 by omega) (show 108 < 2 ^ 31 by decide)] at *; simp_all [bI, nI_0, nI1]))
    · refine x_iload1 G d_M_isName_58 ?_
      refine x_bipush (v := nI 108) G d_M_isName_59 rfl ?_
      refine x_icmp_ne G d_M_isName_61 (fun c61 => ?_) (fun c61 => ?_)
      · refine x_iconst (v := nI 0) G d_M_isName_68 rfl ?_
        exact m_iret E G d_M_isName_69 hx rfl rfl (pi_of (by unfold leB; simp only [true_and, neq (show c < 2 ^ 31 by omega) (show 100 < 2 ^ 31 by decide), neq (show c < 2 ^ 31 by omega) (show 99 < 2 ^ 31 by decide), neq (show c < 2 ^ 31 by omega) (show 104 < 2 ^ 31 by decide), neq (show c < 2 ^ 31 by omega) (show 115 < 2 ^ 31 by decide), neq (show c < 2 ^ 31 by omega) (show 108 < 2 ^ 31 by decide)] at *; simp_all [bI, nI_0, nI1]))
      · refine x_iconst (v := nI 1) G d_M_isName_64 rfl ?_
        refine x_goto G d_M_isName_65 ?_
        exact m_iret E G d_M_isName_69 hx rfl rfl (pi_of (by unfold leB; simp only [true_and, neq (show c < 2 ^ 31 by omega) (show 100 < 2 ^ 31 by decide), neq (show c < 2 ^ 31 by omega) (show 99 < 2 ^ 31 by decide), neq (show c < 2 ^ 31 by omega) (show 104 < 2 ^ 31 by decide), neq (show c < 2 ^ 31 by omega) (show 115 < 2 ^ 31 by decide), neq (show c < 2 ^ 31 by omega) (show 108 < 2 ^ 31 by decide)] at *; simp_all [bI, nI_0, nI1]))
  · skip
    refine x_iload0 G d_M_isName_0 ?_
    refine x_lookup (69) 70 G d_M_isName_1 (by decide +kernel) (by decide +kernel) rfl ?_
    refine x_iload1 G d_M_isName_70 ?_
    refine x_bipush (v := nI 104) G d_M_isName_71 rfl ?_
    refine x_icmp_eq G d_M_isName_73 (fun c73 => ?_) (fun c73 => ?_)
    · refine x_iconst (v := nI 1) G d_M_isName_82 rfl ?_
      refine x_goto G d_M_isName_83 ?_
      exact m_iret E G d_M_isName_87 hx rfl rfl (pi_of (by unfold leB; simp only [true_and, neq (show c < 2 ^ 31 by omega) (show 100 < 2 ^ 31 by decide), neq (show c < 2 ^ 31 by omega) (show 99 < 2 ^ 31 by decide), neq (show c < 2 ^ 31 by omega) (show 104 < 2 ^ 31 by decide), neq (show c < 2 ^ 31 by omega) (show 115 < 2 ^ 31 by decide), neq (show c < 2 ^ 31 by omega) (show 108 < 2 ^ 31 by decide)] at *; simp_all [bI, nI_0, nI1]))
    · refine x_iload1 G d_M_isName_76 ?_
      refine x_bipush (v := nI 99) G d_M_isName_77 rfl ?_
      refine x_icmp_ne G d_M_isName_79 (fun c79 => ?_) (fun c79 => ?_)
      · refine x_iconst (v := nI 0) G d_M_isName_86 rfl ?_
        exact m_iret E G d_M_isName_87 hx rfl rfl (pi_of (by unfold leB; simp only [true_and, neq (show c < 2 ^ 31 by omega) (show 100 < 2 ^ 31 by decide), neq (show c < 2 ^ 31 by omega) (show 99 < 2 ^ 31 by decide), neq (show c < 2 ^ 31 by omega) (show 104 < 2 ^ 31 by decide), neq (show c < 2 ^ 31 by omega) (show 115 < 2 ^ 31 by decide), neq (show c < 2 ^ 31 by omega) (show 108 < 2 ^ 31 by decide)] at *; simp_all [bI, nI_0, nI1]))
      · refine x_iconst (v := nI 1) G d_M_isName_82 rfl ?_
        refine x_goto G d_M_isName_83 ?_
        exact m_iret E G d_M_isName_87 hx rfl rfl (pi_of (by unfold leB; simp only [true_and, neq (show c < 2 ^ 31 by omega) (show 100 < 2 ^ 31 by decide), neq (show c < 2 ^ 31 by omega) (show 99 < 2 ^ 31 by decide), neq (show c < 2 ^ 31 by omega) (show 104 < 2 ^ 31 by decide), neq (show c < 2 ^ 31 by omega) (show 115 < 2 ^ 31 by decide), neq (show c < 2 ^ 31 by omega) (show 108 < 2 ^ 31 by decide)] at *; simp_all [bI, nI_0, nI1]))
theorem p_M_isWordAt (g : CX) (d : Nat) (hd : 0 ≤ d) (σ : Sg) (B : Nat → Nat) (n : Nat) (hn96 : n ≤ 96) (hB : ∀ i, i < n → B i < 256) (hby : ByM B n σ) (k : Tk) (hT : TkM B k σ) (ht : TkOk B n k) (a b c e : Nat) (ha9 : a < 256) (hb9 : b < 256) (hc9 : c < 256) (he9 : e < 256) (hd0 : 0 < e) : RunM g d M_isWordAt [.ref 113, .int (nI a), .int (nI b), .int (nI c), .int (nI e)] σ (PI (bI (decide (tkI k = nI 1) && wd4 B k.st k.en a b c e)) σ) := by
  refine RunM.of 1 (by decide +kernel) rfl ?_
  intro κ hg hx hk0 G E
  subst hg
  have hk : 6 ≤ kn κ := Nat.le_of_eq hk0.symm
  show X κ NC 0 [some (.ref 113), some (.int (nI a)), some (.int (nI b)), some (.int (nI c)), some (.int (nI e)), none] [] (hv σ)
  have hen := ht.2.1
  refine x_iload4 G d_M_isWordAt_0 ?_
  refine x_if_ne G d_M_isWordAt_2 (fun c2 => ?_) (fun c2 => absurd c2 ((nI_ne0 hd0 (by omega))))
  refine x_iconst (v := nI 4) G d_M_isWordAt_9 rfl ?_
  refine x_istore5 G d_M_isWordAt_10 rfl hk ?_
  refine x_aload0 G d_M_isWordAt_12 ?_
  refine m_geti G d_M_isWordAt_13 fl_M_227 rfl (by decide) rfl ?_
  rw [hT.2.2.1]
  refine x_iconst (v := nI 1) G d_M_isWordAt_16 rfl ?_
  refine x_icmp_ne G d_M_isWordAt_17 (fun c17 => ?_) (fun c17 => ?_)
  · have w17 : ¬ tkI k = nI 1 := c17
    refine x_iconst (v := nI 0) G d_M_isWordAt_102 rfl ?_
    exact m_iret E G d_M_isWordAt_103 hx rfl rfl (pi_of (by rw [decide_eq_false w17]; rfl))
  · have w17 : tkI k = nI 1 := c17
    refine x_aload0 G d_M_isWordAt_20 ?_
    refine m_geti G d_M_isWordAt_21 fl_M_224 rfl (by decide) rfl ?_
    rw [hT.2.1]
    refine x_aload0 G d_M_isWordAt_24 ?_
    refine m_geti G d_M_isWordAt_25 fl_M_230 rfl (by decide) rfl ?_
    rw [hT.1]
    refine x_isub G d_M_isWordAt_28 ?_
    rw [pk_sub ht.le]
    refine x_iload5 G d_M_isWordAt_29 ?_
    refine x_icmp_ne G d_M_isWordAt_31 (fun c31 => ?_) (fun c31 => ?_)
    · have w31 : ¬ k.en = k.st + 4 := fun e => c31 (by rw [show k.en - k.st = 4 by omega])
      refine x_iconst (v := nI 0) G d_M_isWordAt_102 rfl ?_
      exact m_iret E G d_M_isWordAt_103 hx rfl rfl (pi_of (by rw [decide_eq_true w17, Bool.true_and, wd4, decide_eq_false w31]; simp [bI, nI_0, nI1]))
    · have w31 : k.en = k.st + 4 := by
        have q := c31
        rw [neq (by omega) (by decide)] at q
        omega
      refine x_aload0 G d_M_isWordAt_34 ?_
      refine m_getr G d_M_isWordAt_35 fl_M_59 rfl (by decide) rfl ?_
      refine x_aload0 G d_M_isWordAt_38 ?_
      refine m_geti G d_M_isWordAt_39 fl_M_230 rfl (by decide) rfl ?_
      rw [hT.1]
      refine m_iald k.st G d_M_isWordAt_42 rfl rfl ⟨by omega, by first | decide | omega⟩ ?_
      rw [hby.2 k.st (by omega)]
      refine x_iload1 G d_M_isWordAt_43 ?_
      refine x_icmp_ne G d_M_isWordAt_44 (fun c44 => ?_) (fun c44 => ?_)
      · have w44 : ¬ B (k.st) = a := fun e => c44 (by rw [e])
        refine x_iconst (v := nI 0) G d_M_isWordAt_102 rfl ?_
        exact m_iret E G d_M_isWordAt_103 hx rfl rfl (pi_of (by rw [decide_eq_true w17, Bool.true_and, wd4, decide_eq_true w31, decide_eq_false w44]; simp [bI, nI_0, nI1]))
      · have w44 : B (k.st) = a := by
          have q := c44
          rw [neq (by have := hB (k.st) (by omega); omega) (by omega)] at q
          exact q
        refine x_aload0 G d_M_isWordAt_47 ?_
        refine m_getr G d_M_isWordAt_48 fl_M_59 rfl (by decide) rfl ?_
        refine x_aload0 G d_M_isWordAt_51 ?_
        refine m_geti G d_M_isWordAt_52 fl_M_230 rfl (by decide) rfl ?_
        rw [hT.1]
        refine x_iconst (v := nI 1) G d_M_isWordAt_55 rfl ?_
        refine x_iadd G d_M_isWordAt_56 ?_
        rw [nI_add]
        refine m_iald (k.st + 1) G d_M_isWordAt_57 rfl rfl ⟨by omega, by first | decide | omega⟩ ?_
        rw [hby.2 (k.st + 1) (by omega)]
        refine x_iload2 G d_M_isWordAt_58 ?_
        refine x_icmp_ne G d_M_isWordAt_59 (fun c59 => ?_) (fun c59 => ?_)
        · have w59 : ¬ B (k.st + 1) = b := fun e => c59 (by rw [e])
          refine x_iconst (v := nI 0) G d_M_isWordAt_102 rfl ?_
          exact m_iret E G d_M_isWordAt_103 hx rfl rfl (pi_of (by rw [decide_eq_true w17, Bool.true_and, wd4, decide_eq_true w31, decide_eq_true w44, decide_eq_false w59]; simp [bI, nI_0, nI1]))
        · have w59 : B (k.st + 1) = b := by
            have q := c59
            rw [neq (by have := hB (k.st + 1) (by omega); omega) (by omega)] at q
            exact q
          refine x_aload0 G d_M_isWordAt_62 ?_
          refine m_getr G d_M_isWordAt_63 fl_M_59 rfl (by decide) rfl ?_
          refine x_aload0 G d_M_isWordAt_66 ?_
          refine m_geti G d_M_isWordAt_67 fl_M_230 rfl (by decide) rfl ?_
          rw [hT.1]
          refine x_iconst (v := nI 2) G d_M_isWordAt_70 rfl ?_
          refine x_iadd G d_M_isWordAt_71 ?_
          rw [nI_add]
          refine m_iald (k.st + 2) G d_M_isWordAt_72 rfl rfl ⟨by omega, by first | decide | omega⟩ ?_
          rw [hby.2 (k.st + 2) (by omega)]
          refine x_iload3 G d_M_isWordAt_73 ?_
          refine x_icmp_ne G d_M_isWordAt_74 (fun c74 => ?_) (fun c74 => ?_)
          · have w74 : ¬ B (k.st + 2) = c := fun e => c74 (by rw [e])
            refine x_iconst (v := nI 0) G d_M_isWordAt_102 rfl ?_
            exact m_iret E G d_M_isWordAt_103 hx rfl rfl (pi_of (by rw [decide_eq_true w17, Bool.true_and, wd4, decide_eq_true w31, decide_eq_true w44, decide_eq_true w59, decide_eq_false w74]; simp [bI, nI_0, nI1]))
          · have w74 : B (k.st + 2) = c := by
              have q := c74
              rw [neq (by have := hB (k.st + 2) (by omega); omega) (by omega)] at q
              exact q
            refine x_iload4 G d_M_isWordAt_77 ?_
            refine x_if_eq G d_M_isWordAt_79 (fun c79 => absurd c79 ((nI_ne0 hd0 (by omega)))) (fun c79 => ?_)
            refine x_aload0 G d_M_isWordAt_82 ?_
            refine m_getr G d_M_isWordAt_83 fl_M_59 rfl (by decide) rfl ?_
            refine x_aload0 G d_M_isWordAt_86 ?_
            refine m_geti G d_M_isWordAt_87 fl_M_230 rfl (by decide) rfl ?_
            rw [hT.1]
            refine x_iconst (v := nI 3) G d_M_isWordAt_90 rfl ?_
            refine x_iadd G d_M_isWordAt_91 ?_
            rw [nI_add]
            refine m_iald (k.st + 3) G d_M_isWordAt_92 rfl rfl ⟨by omega, by first | decide | omega⟩ ?_
            rw [hby.2 (k.st + 3) (by omega)]
            refine x_iload4 G d_M_isWordAt_93 ?_
            refine x_icmp_ne G d_M_isWordAt_95 (fun c95 => ?_) (fun c95 => ?_)
            · have w95 : ¬ B (k.st + 3) = e := fun e => c95 (by rw [e])
              refine x_iconst (v := nI 0) G d_M_isWordAt_102 rfl ?_
              exact m_iret E G d_M_isWordAt_103 hx rfl rfl (pi_of (by rw [decide_eq_true w17, Bool.true_and, wd4, decide_eq_true w31, decide_eq_true w44, decide_eq_true w59, decide_eq_true w74, decide_eq_false w95]; simp [bI, nI_0, nI1]))
            · have w95 : B (k.st + 3) = e := by
                have q := c95
                rw [neq (by have := hB (k.st + 3) (by omega); omega) (by omega)] at q
                exact q
              refine x_iconst (v := nI 1) G d_M_isWordAt_98 rfl ?_
              refine x_goto G d_M_isWordAt_99 ?_
              exact m_iret E G d_M_isWordAt_103 hx rfl rfl (pi_of (by rw [decide_eq_true w17, Bool.true_and, wd4, decide_eq_true w31, decide_eq_true w44, decide_eq_true w59, decide_eq_true w74, decide_eq_true w95]; simp [bI, nI_0, nI1]))
theorem wd4_k {B : Nat → Nat} {n a b c e : Nat} {k : Tk} (hB : ∀ i, i < n → B i < 256) (ht : TkOk B n k) (hg : k.gl = false) (ha : 97 ≤ a ∧ a ≤ 122) : (decide (tkI k = nI 1) && wd4 B k.st k.en a b c e) = wd4 B k.st k.en a b c e := by
  cases h : wd4 B k.st k.en a b c e with
  | false => rw [Bool.and_false]
  | true => rw [decide_eq_true (tkI_wrd (wd4_sg hB ht ha h) hg)]; rfl
theorem p_M_key (g : CX) (d : Nat) (hd : 1 ≤ d) (σ : Sg) (B : Nat → Nat) (n : Nat) (hn96 : n ≤ 96) (hB : ∀ i, i < n → B i < 256) (hby : ByM B n σ) (k : Tk) (hT : TkM B k σ) (ht : TkOk B n k) (hg0 : k.gl = false) : RunM g d M_key [.ref 113] σ (PI (keyI (keyN B k.st k.en)) σ) := by
  refine RunM.of 0 (by decide +kernel) rfl ?_
  intro κ hg hx hk0 G E
  subst hg
  have hk : 1 ≤ kn κ := Nat.le_of_eq hk0.symm
  show X κ NC 0 [some (.ref 113)] [] (hv σ)
  have x0 := wd4_k (a := 119) (b := 97) (c := 108) (e := 107) hB ht hg0 (by decide)
  have x1 := wd4_k (a := 116) (b := 111) (c := 108) (e := 108) hB ht hg0 (by decide)
  have x2 := wd4_k (a := 102) (b := 105) (c := 110) (e := 101) hB ht hg0 (by decide)
  refine x_aload0 G d_M_key_0 ?_
  refine x_bipush (v := nI 119) G d_M_key_1 rfl ?_
  refine x_bipush (v := nI 97) G d_M_key_3 rfl ?_
  refine x_bipush (v := nI 108) G d_M_key_5 rfl ?_
  refine x_bipush (v := nI 107) G d_M_key_7 rfl ?_
  refine m_callV_pi (p_M_isWordAt (kg κ) (d - 1) (by omega) σ B n hn96 hB hby k hT ht 119 97 108 107 (by decide) (by decide) (by decide) (by decide) (by decide)) G d_M_key_9 lk_M_245 rfl ⟨by decide, rfl⟩ (by decide) (by omega) rfl (Nat.le_of_ble_eq_true rfl) hx ?_
  refine x_if_eq G d_M_key_12 (fun c12 => ?_) (fun c12 => ?_)
  · replace c12 := bI_0.mp c12
    rw [x0] at c12
    refine x_aload0 G d_M_key_17 ?_
    refine x_bipush (v := nI 116) G d_M_key_18 rfl ?_
    refine x_bipush (v := nI 111) G d_M_key_20 rfl ?_
    refine x_bipush (v := nI 108) G d_M_key_22 rfl ?_
    refine x_bipush (v := nI 108) G d_M_key_24 rfl ?_
    refine m_callV_pi (p_M_isWordAt (kg κ) (d - 1) (by omega) σ B n hn96 hB hby k hT ht 116 111 108 108 (by decide) (by decide) (by decide) (by decide) (by decide)) G d_M_key_26 lk_M_245 rfl ⟨by decide, rfl⟩ (by decide) (by omega) rfl (Nat.le_of_ble_eq_true rfl) hx ?_
    refine x_if_eq G d_M_key_29 (fun c29 => ?_) (fun c29 => ?_)
    · replace c29 := bI_0.mp c29
      rw [x1] at c29
      refine x_aload0 G d_M_key_34 ?_
      refine x_bipush (v := nI 102) G d_M_key_35 rfl ?_
      refine x_bipush (v := nI 105) G d_M_key_37 rfl ?_
      refine x_bipush (v := nI 110) G d_M_key_39 rfl ?_
      refine x_bipush (v := nI 101) G d_M_key_41 rfl ?_
      refine m_callV_pi (p_M_isWordAt (kg κ) (d - 1) (by omega) σ B n hn96 hB hby k hT ht 102 105 110 101 (by decide) (by decide) (by decide) (by decide) (by decide)) G d_M_key_43 lk_M_245 rfl ⟨by decide, rfl⟩ (by decide) (by omega) rfl (Nat.le_of_ble_eq_true rfl) hx ?_
      refine x_if_eq G d_M_key_46 (fun c46 => ?_) (fun c46 => ?_)
      · replace c46 := bI_0.mp c46
        rw [x2] at c46
        refine x_iconst (v := (-1)) G d_M_key_53 rfl ?_
        exact m_iret E G d_M_key_54 hx rfl rfl (pi_of (by unfold keyN; rw [if_neg (by rw [c12]; decide), if_neg (by rw [c29]; decide), if_neg (by rw [c46]; decide)]; rfl))
      · replace c46 := bI_n0.mp c46
        rw [x2] at c46
        refine x_iconst (v := nI 2) G d_M_key_49 rfl ?_
        refine x_goto G d_M_key_50 ?_
        exact m_iret E G d_M_key_54 hx rfl rfl (pi_of (by unfold keyN; rw [if_neg (by rw [c12]; decide), if_neg (by rw [c29]; decide), if_pos c46]; rfl))
    · replace c29 := bI_n0.mp c29
      rw [x1] at c29
      refine x_iconst (v := nI 1) G d_M_key_32 rfl ?_
      exact m_iret E G d_M_key_33 hx rfl rfl (pi_of (by unfold keyN; rw [if_neg (by rw [c12]; decide), if_pos c29]; rfl))
  · replace c12 := bI_n0.mp c12
    rw [x0] at c12
    refine x_iconst (v := nI 0) G d_M_key_15 rfl ?_
    exact m_iret E G d_M_key_16 hx rfl rfl (pi_of (by unfold keyN; rw [if_pos c12]; rfl))
theorem OutR.refl {σ : Sg} : OutR σ σ := ⟨fun _ _ => rfl, fun _ _ _ => rfl⟩
theorem p_M_part0 (g : CX) (d : Nat) (hd : 8 ≤ d) (σ : Sg) (B : Nat → Nat) (n : Nat) (hn96 : n ≤ 96) (hB : ∀ i, i < n → B i < 256) (la : Nat) (S : Rw) (key : Nat) (s : PS) (par nots : Nat) (hC : MdC B n la S s par nots σ) (ht : TkOk B n s.tk) (f : Nat) (ihp : PpM B n la S key f) (ihe : PlM B n la S key M_either 0 f) (hk3 : key < 3) (hla9 : la + 200 ≤ 3090) (hpar : par ≤ 8) (hnots : nots ≤ 8) (hol0 : s.out.length ≤ s.tk.st) (hnd : 24 * (n - s.tk.st) + 3 ≤ f + 1) (hdd : dep par nots ≤ d) : RunM g d M_part0 [.ref 113, .int (nI key)] σ (RdM B n la S (pP B n key (f + 1) 2 0 par nots s) par nots σ) := by
  refine RunM.of 0 (by decide +kernel) rfl ?_
  intro κ hg hx hk0 G E
  subst hg
  have hk : 2 ≤ kn κ := Nat.le_of_eq hk0.symm
  show X κ NC 0 [some (.ref 113), some (.int (nI key))] [] (hv σ)
  have hst := ht.1
  have hcase : (s.tk.sg = 257 ∧ (s.tk.gl = false ∧ s.tk.en - s.tk.st ≤ 4)) ∨ (s.tk.sg = 257 ∧ ¬ (s.tk.gl = false ∧ s.tk.en - s.tk.st ≤ 4)) ∨ (s.tk.sg = 256 ∧ (s.tk.gl = false ∧ s.tk.en - s.tk.st = 1 ∧ leB key (B s.tk.st) = true)) ∨ (s.tk.sg = 256 ∧ s.tk.gl = true) ∨ (s.tk.sg = 256 ∧ s.tk.gl = false ∧ ¬ s.tk.en - s.tk.st = 1) ∨ (s.tk.sg = 256 ∧ s.tk.gl = false ∧ s.tk.en - s.tk.st = 1 ∧ leB key (B s.tk.st) = false) ∨ s.tk.sg = 33 ∨ s.tk.sg = 40 ∨ (s.tk.sg ≠ 33 ∧ s.tk.sg ≠ 40 ∧ s.tk.sg ≠ 256 ∧ s.tk.sg ≠ 257) := by
    by_cases q1 : s.tk.sg = 257
    · by_cases q2 : s.tk.gl = false ∧ s.tk.en - s.tk.st ≤ 4
      · exact Or.inl ⟨q1, q2⟩
      · exact Or.inr (Or.inl ⟨q1, q2⟩)
    · by_cases q2 : s.tk.sg = 256
      · cases q3 : s.tk.gl with
        | true => exact Or.inr (Or.inr (Or.inr (Or.inl ⟨q2, rfl⟩)))
        | false =>
          by_cases q4 : s.tk.en - s.tk.st = 1
          · cases q5 : leB key (B s.tk.st) with
            | true => exact Or.inr (Or.inr (Or.inl ⟨q2, rfl, q4, rfl⟩))
            | false => exact Or.inr (Or.inr (Or.inr (Or.inr (Or.inr (Or.inl ⟨q2, rfl, q4, rfl⟩)))))
          · exact Or.inr (Or.inr (Or.inr (Or.inr (Or.inl ⟨q2, rfl, q4⟩))))
      · by_cases q3 : s.tk.sg = 33
        · exact Or.inr (Or.inr (Or.inr (Or.inr (Or.inr (Or.inr (Or.inl q3))))))
        · by_cases q4 : s.tk.sg = 40
          · exact Or.inr (Or.inr (Or.inr (Or.inr (Or.inr (Or.inr (Or.inr (Or.inl q4)))))))
          · exact Or.inr (Or.inr (Or.inr (Or.inr (Or.inr (Or.inr (Or.inr (Or.inr ⟨q3, q4, q2, q1⟩)))))))
  rcases hcase with ⟨hsg, hg⟩ | ⟨hsg, hg⟩ | ⟨hsg, hg⟩ | ⟨hsg, hg⟩ | ⟨hsg, hg, hl1⟩ | ⟨hsg, hg, hl1, hlb⟩ | hsg | hsg | ⟨hs1, hs2, hs3, hs4⟩
  · obtain ⟨w1, w2, w3⟩ := ht.wrd (Or.inr hsg)
    refine x_aload0 G d_M_part0_0 ?_
    refine m_geti G d_M_part0_1 fl_M_227 rfl (by decide) rfl ?_
    rw [hC.2.1.2.2.1]
    refine x_iconst (v := nI 2) G d_M_part0_4 rfl ?_
    refine x_icmp_ne G d_M_part0_5 (fun c5 => absurd ((by rw [tkI_num hsg hg.1 hg.2])) c5) (fun c5 => ?_)
    refine x_aload0 G d_M_part0_8 ?_
    refine x_iconst (v := nI 0) G d_M_part0_9 rfl ?_
    refine x_aload0 G d_M_part0_10 ?_
    refine m_geti G d_M_part0_11 fl_M_242 rfl (by decide) rfl ?_
    rw [hC.2.1.2.2.2.2.1 hsg hg.2]
    refine m_callV_pv (p_M_step (kg κ) (d - 1) (by omega) σ la _ hC.2.2.2.2.2.1 hC.2.2.2.2.1 (by omega) _ _) G d_M_part0_14 lk_M_264 rfl ⟨by decide, rfl⟩ (by decide) (by omega) rfl (Nat.le_of_ble_eq_true rfl) hx (fun σ1 h1 => ?_)
    obtain ⟨t1, o1⟩ := hC.emit (a := 0) (v := numN B s.tk.st (s.tk.en - s.tk.st)) h1
    refine x_aload0 G d_M_part0_17 ?_
    refine x_dup G d_M_part0_18 rfl ?_
    refine m_geti G d_M_part0_19 fl_M_280 rfl (by decide) rfl ?_
    rw [show σ1 113 28 = nI s.ops from t1.2.2.2.2.2.2.1]
    refine x_iconst (v := nI 1) G d_M_part0_22 rfl ?_
    refine x_iadd G d_M_part0_23 ?_
    rw [show nI s.ops + nI 1 = nI (s.ops + 1) from nI_1 _]
    refine m_puti_n G d_M_part0_24 fl_M_280 rfl (by decide) rfl rfl rfl (fun σ2 e2 => ?_)
    obtain ⟨t2, o2⟩ := t1.put (par' := par) (nots' := nots) (s' := ((s.tk, s.out ++ [(0, numN B s.tk.st (s.tk.en - s.tk.st))], s.ops + 1) : PS)) e2 rfl rfl (Or.inr (Or.inr ⟨rfl, rfl, rfl, rfl⟩))
    refine x_aload0 G d_M_part0_27 ?_
    refine m_callV_pv (p_M_nextToken (kg κ) (d - 1) (by omega) σ2 B n hn96 hB t2.1 _ _ ht.2.1 t2.2.1.2.1 t2.2.1.2.2.1) G d_M_part0_28 lk_M_261 rfl ⟨by decide, rfl⟩ (by decide) (by omega) rfl (Nat.le_of_ble_eq_true rfl) hx (fun σ3 a3 => ?_)
    obtain ⟨t3, o3⟩ := t2.adv ht (fun _ => ⟨hg.1, fun _ => hg.2⟩) a3
    refine x_iconst (v := nI 1) G d_M_part0_31 rfl ?_
    exact m_iret E G d_M_part0_32 hx rfl rfl ⟨by rw [pP_pc, if_pos hsg, if_pos hg]; rfl, by rw [pP_pc, if_pos hsg, if_pos hg]; exact ⟨fun _ => t3, t3.fa, (o1.trans o2).trans o3⟩⟩
  · skip
    refine x_aload0 G d_M_part0_0 ?_
    refine m_geti G d_M_part0_1 fl_M_227 rfl (by decide) rfl ?_
    rw [hC.2.1.2.2.1]
    refine x_iconst (v := nI 2) G d_M_part0_4 rfl ?_
    refine x_icmp_ne G d_M_part0_5 (fun c5 => ?_) (fun c5 => absurd c5 ((by rw [tkI_numN hsg hg]; decide +kernel)))
    refine x_aload0 G d_M_part0_33 ?_
    refine m_geti G d_M_part0_34 fl_M_227 rfl (by decide) rfl ?_
    rw [hC.2.1.2.2.1]
    refine x_iconst (v := nI 1) G d_M_part0_37 rfl ?_
    refine x_icmp_ne G d_M_part0_38 (fun c38 => ?_) (fun c38 => absurd c38 ((by rw [tkI_numN hsg hg]; decide +kernel)))
    refine x_aload0 G d_M_part0_84 ?_
    refine x_bipush (v := nI 33) G d_M_part0_85 rfl ?_
    refine m_callV_pi (p_M_isSign (kg κ) (d - 1) (by omega) σ B n _ hC.2.1 ht 33 (by decide)) G d_M_part0_87 lk_M_258 rfl ⟨by decide, rfl⟩ (by decide) (by omega) rfl (Nat.le_of_ble_eq_true rfl) hx ?_
    refine x_if_eq G d_M_part0_90 (fun c90 => ?_) (fun c90 => absurd ((show bI (decide _) = 0 from by rw [decide_eq_false (by omega)]; rfl)) c90)
    refine x_aload0 G d_M_part0_145 ?_
    refine x_bipush (v := nI 40) G d_M_part0_146 rfl ?_
    refine m_callV_pi (p_M_isSign (kg κ) (d - 1) (by omega) σ B n _ hC.2.1 ht 40 (by decide)) G d_M_part0_148 lk_M_258 rfl ⟨by decide, rfl⟩ (by decide) (by omega) rfl (Nat.le_of_ble_eq_true rfl) hx ?_
    refine x_if_eq G d_M_part0_151 (fun c151 => ?_) (fun c151 => absurd ((show bI (decide _) = 0 from by rw [decide_eq_false (by omega)]; rfl)) c151)
    refine x_iconst (v := nI 0) G d_M_part0_163 rfl ?_
    exact m_iret E G d_M_part0_164 hx rfl rfl ⟨by rw [pP_pc, if_pos hsg, if_neg hg]; rfl, by rw [pP_pc, if_pos hsg, if_neg hg]; exact ⟨fun z => absurd z Bool.false_ne_true, hC.fa, OutR.refl⟩⟩
  · obtain ⟨w1, w2, w3⟩ := ht.wrd (Or.inl hsg)
    have hle := letter_of ((w3 s.tk.st (Nat.le_refl _) w1).trans hsg) (hB _ (by omega))
    refine x_aload0 G d_M_part0_0 ?_
    refine m_geti G d_M_part0_1 fl_M_227 rfl (by decide) rfl ?_
    rw [hC.2.1.2.2.1]
    refine x_iconst (v := nI 2) G d_M_part0_4 rfl ?_
    refine x_icmp_ne G d_M_part0_5 (fun c5 => ?_) (fun c5 => absurd c5 ((by rw [tkI_wrd hsg hg.1]; decide +kernel)))
    refine x_aload0 G d_M_part0_33 ?_
    refine m_geti G d_M_part0_34 fl_M_227 rfl (by decide) rfl ?_
    rw [hC.2.1.2.2.1]
    refine x_iconst (v := nI 1) G d_M_part0_37 rfl ?_
    refine x_icmp_ne G d_M_part0_38 (fun c38 => absurd ((by rw [tkI_wrd hsg hg.1])) c38) (fun c38 => ?_)
    refine x_aload0 G d_M_part0_41 ?_
    refine m_geti G d_M_part0_42 fl_M_236 rfl (by decide) rfl ?_
    rw [show σ 113 23 = nI (B s.tk.st) by rw [hC.2.1.2.2.2.1 hsg, if_pos hg.2.1]]
    refine x_if_eq G d_M_part0_45 (fun c45 => absurd c45 ((nI_ne0 (by omega) (by omega)))) (fun c45 => ?_)
    refine x_iload1 G d_M_part0_48 ?_
    refine x_aload0 G d_M_part0_49 ?_
    refine m_geti G d_M_part0_50 fl_M_236 rfl (by decide) rfl ?_
    rw [show σ 113 23 = nI (B s.tk.st) by rw [hC.2.1.2.2.2.1 hsg, if_pos hg.2.1]]
    refine m_callS_pi (p_M_isName (kg κ) (d - 1) (by omega) σ key _ hk3 (by omega)) G d_M_part0_53 lk_M_283 (by omega) rfl (Nat.le_of_ble_eq_true rfl) hx ?_
    refine x_if_eq G d_M_part0_56 (fun c56 => absurd c56 ((by rw [hg.2.2]; decide))) (fun c56 => ?_)
    refine x_aload0 G d_M_part0_59 ?_
    refine x_iconst (v := nI 1) G d_M_part0_60 rfl ?_
    refine x_aload0 G d_M_part0_61 ?_
    refine m_geti G d_M_part0_62 fl_M_236 rfl (by decide) rfl ?_
    rw [show σ 113 23 = nI (B s.tk.st) by rw [hC.2.1.2.2.2.1 hsg, if_pos hg.2.1]]
    refine m_callV_pv (p_M_step (kg κ) (d - 1) (by omega) σ la _ hC.2.2.2.2.2.1 hC.2.2.2.2.1 (by omega) _ _) G d_M_part0_65 lk_M_264 rfl ⟨by decide, rfl⟩ (by decide) (by omega) rfl (Nat.le_of_ble_eq_true rfl) hx (fun σ1 h1 => ?_)
    obtain ⟨t1, o1⟩ := hC.emit (a := 1) (v := B s.tk.st) h1
    refine x_aload0 G d_M_part0_68 ?_
    refine x_dup G d_M_part0_69 rfl ?_
    refine m_geti G d_M_part0_70 fl_M_280 rfl (by decide) rfl ?_
    rw [show σ1 113 28 = nI s.ops from t1.2.2.2.2.2.2.1]
    refine x_iconst (v := nI 1) G d_M_part0_73 rfl ?_
    refine x_iadd G d_M_part0_74 ?_
    rw [show nI s.ops + nI 1 = nI (s.ops + 1) from nI_1 _]
    refine m_puti_n G d_M_part0_75 fl_M_280 rfl (by decide) rfl rfl rfl (fun σ2 e2 => ?_)
    obtain ⟨t2, o2⟩ := t1.put (par' := par) (nots' := nots) (s' := ((s.tk, s.out ++ [(1, B s.tk.st)], s.ops + 1) : PS)) e2 rfl rfl (Or.inr (Or.inr ⟨rfl, rfl, rfl, rfl⟩))
    refine x_aload0 G d_M_part0_78 ?_
    refine m_callV_pv (p_M_nextToken (kg κ) (d - 1) (by omega) σ2 B n hn96 hB t2.1 _ _ ht.2.1 t2.2.1.2.1 t2.2.1.2.2.1) G d_M_part0_79 lk_M_261 rfl ⟨by decide, rfl⟩ (by decide) (by omega) rfl (Nat.le_of_ble_eq_true rfl) hx (fun σ3 a3 => ?_)
    obtain ⟨t3, o3⟩ := t2.adv ht (fun _ => ⟨hg.1, fun z => absurd (hsg.symm.trans z) (by decide)⟩) a3
    refine x_iconst (v := nI 1) G d_M_part0_82 rfl ?_
    exact m_iret E G d_M_part0_83 hx rfl rfl ⟨by rw [pP_pc, if_neg (by omega), if_pos hsg, if_pos hg]; rfl, by rw [pP_pc, if_neg (by omega), if_pos hsg, if_pos hg]; exact ⟨fun _ => t3, t3.fa, (o1.trans o2).trans o3⟩⟩
  · skip
    refine x_aload0 G d_M_part0_0 ?_
    refine m_geti G d_M_part0_1 fl_M_227 rfl (by decide) rfl ?_
    rw [hC.2.1.2.2.1]
    refine x_iconst (v := nI 2) G d_M_part0_4 rfl ?_
    refine x_icmp_ne G d_M_part0_5 (fun c5 => ?_) (fun c5 => absurd c5 ((by rw [tkI_wrdN hsg hg]; decide +kernel)))
    refine x_aload0 G d_M_part0_33 ?_
    refine m_geti G d_M_part0_34 fl_M_227 rfl (by decide) rfl ?_
    rw [hC.2.1.2.2.1]
    refine x_iconst (v := nI 1) G d_M_part0_37 rfl ?_
    refine x_icmp_ne G d_M_part0_38 (fun c38 => ?_) (fun c38 => absurd c38 ((by rw [tkI_wrdN hsg hg]; decide +kernel)))
    refine x_aload0 G d_M_part0_84 ?_
    refine x_bipush (v := nI 33) G d_M_part0_85 rfl ?_
    refine m_callV_pi (p_M_isSign (kg κ) (d - 1) (by omega) σ B n _ hC.2.1 ht 33 (by decide)) G d_M_part0_87 lk_M_258 rfl ⟨by decide, rfl⟩ (by decide) (by omega) rfl (Nat.le_of_ble_eq_true rfl) hx ?_
    refine x_if_eq G d_M_part0_90 (fun c90 => ?_) (fun c90 => absurd ((show bI (decide _) = 0 from by rw [decide_eq_false (by omega)]; rfl)) c90)
    refine x_aload0 G d_M_part0_145 ?_
    refine x_bipush (v := nI 40) G d_M_part0_146 rfl ?_
    refine m_callV_pi (p_M_isSign (kg κ) (d - 1) (by omega) σ B n _ hC.2.1 ht 40 (by decide)) G d_M_part0_148 lk_M_258 rfl ⟨by decide, rfl⟩ (by decide) (by omega) rfl (Nat.le_of_ble_eq_true rfl) hx ?_
    refine x_if_eq G d_M_part0_151 (fun c151 => ?_) (fun c151 => absurd ((show bI (decide _) = 0 from by rw [decide_eq_false (by omega)]; rfl)) c151)
    refine x_iconst (v := nI 0) G d_M_part0_163 rfl ?_
    exact m_iret E G d_M_part0_164 hx rfl rfl ⟨by rw [pP_pc, if_neg (by omega), if_pos hsg, if_neg (fun q => absurd (q.1.symm.trans hg) (by decide))]; rfl, by rw [pP_pc, if_neg (by omega), if_pos hsg, if_neg (fun q => absurd (q.1.symm.trans hg) (by decide))]; exact ⟨fun z => absurd z Bool.false_ne_true, hC.fa, OutR.refl⟩⟩
  · skip
    refine x_aload0 G d_M_part0_0 ?_
    refine m_geti G d_M_part0_1 fl_M_227 rfl (by decide) rfl ?_
    rw [hC.2.1.2.2.1]
    refine x_iconst (v := nI 2) G d_M_part0_4 rfl ?_
    refine x_icmp_ne G d_M_part0_5 (fun c5 => ?_) (fun c5 => absurd c5 ((by rw [tkI_wrd hsg hg]; decide +kernel)))
    refine x_aload0 G d_M_part0_33 ?_
    refine m_geti G d_M_part0_34 fl_M_227 rfl (by decide) rfl ?_
    rw [hC.2.1.2.2.1]
    refine x_iconst (v := nI 1) G d_M_part0_37 rfl ?_
    refine x_icmp_ne G d_M_part0_38 (fun c38 => absurd ((by rw [tkI_wrd hsg hg])) c38) (fun c38 => ?_)
    refine x_aload0 G d_M_part0_41 ?_
    refine m_geti G d_M_part0_42 fl_M_236 rfl (by decide) rfl ?_
    rw [show σ 113 23 = 0 by rw [hC.2.1.2.2.2.1 hsg, if_neg hl1]]
    refine x_if_eq G d_M_part0_45 (fun c45 => ?_) (fun c45 => absurd (rfl) c45)
    refine x_aload0 G d_M_part0_84 ?_
    refine x_bipush (v := nI 33) G d_M_part0_85 rfl ?_
    refine m_callV_pi (p_M_isSign (kg κ) (d - 1) (by omega) σ B n _ hC.2.1 ht 33 (by decide)) G d_M_part0_87 lk_M_258 rfl ⟨by decide, rfl⟩ (by decide) (by omega) rfl (Nat.le_of_ble_eq_true rfl) hx ?_
    refine x_if_eq G d_M_part0_90 (fun c90 => ?_) (fun c90 => absurd ((show bI (decide _) = 0 from by rw [decide_eq_false (by omega)]; rfl)) c90)
    refine x_aload0 G d_M_part0_145 ?_
    refine x_bipush (v := nI 40) G d_M_part0_146 rfl ?_
    refine m_callV_pi (p_M_isSign (kg κ) (d - 1) (by omega) σ B n _ hC.2.1 ht 40 (by decide)) G d_M_part0_148 lk_M_258 rfl ⟨by decide, rfl⟩ (by decide) (by omega) rfl (Nat.le_of_ble_eq_true rfl) hx ?_
    refine x_if_eq G d_M_part0_151 (fun c151 => ?_) (fun c151 => absurd ((show bI (decide _) = 0 from by rw [decide_eq_false (by omega)]; rfl)) c151)
    refine x_iconst (v := nI 0) G d_M_part0_163 rfl ?_
    exact m_iret E G d_M_part0_164 hx rfl rfl ⟨by rw [pP_pc, if_neg (by omega), if_pos hsg, if_neg (fun q => hl1 q.2.1)]; rfl, by rw [pP_pc, if_neg (by omega), if_pos hsg, if_neg (fun q => hl1 q.2.1)]; exact ⟨fun z => absurd z Bool.false_ne_true, hC.fa, OutR.refl⟩⟩
  · obtain ⟨w1, w2, w3⟩ := ht.wrd (Or.inl hsg)
    have hle := letter_of ((w3 s.tk.st (Nat.le_refl _) w1).trans hsg) (hB _ (by omega))
    refine x_aload0 G d_M_part0_0 ?_
    refine m_geti G d_M_part0_1 fl_M_227 rfl (by decide) rfl ?_
    rw [hC.2.1.2.2.1]
    refine x_iconst (v := nI 2) G d_M_part0_4 rfl ?_
    refine x_icmp_ne G d_M_part0_5 (fun c5 => ?_) (fun c5 => absurd c5 ((by rw [tkI_wrd hsg hg]; decide +kernel)))
    refine x_aload0 G d_M_part0_33 ?_
    refine m_geti G d_M_part0_34 fl_M_227 rfl (by decide) rfl ?_
    rw [hC.2.1.2.2.1]
    refine x_iconst (v := nI 1) G d_M_part0_37 rfl ?_
    refine x_icmp_ne G d_M_part0_38 (fun c38 => absurd ((by rw [tkI_wrd hsg hg])) c38) (fun c38 => ?_)
    refine x_aload0 G d_M_part0_41 ?_
    refine m_geti G d_M_part0_42 fl_M_236 rfl (by decide) rfl ?_
    rw [show σ 113 23 = nI (B s.tk.st) by rw [hC.2.1.2.2.2.1 hsg, if_pos hl1]]
    refine x_if_eq G d_M_part0_45 (fun c45 => absurd c45 ((nI_ne0 (by omega) (by omega)))) (fun c45 => ?_)
    refine x_iload1 G d_M_part0_48 ?_
    refine x_aload0 G d_M_part0_49 ?_
    refine m_geti G d_M_part0_50 fl_M_236 rfl (by decide) rfl ?_
    rw [show σ 113 23 = nI (B s.tk.st) by rw [hC.2.1.2.2.2.1 hsg, if_pos hl1]]
    refine m_callS_pi (p_M_isName (kg κ) (d - 1) (by omega) σ key _ hk3 (by omega)) G d_M_part0_53 lk_M_283 (by omega) rfl (Nat.le_of_ble_eq_true rfl) hx ?_
    refine x_if_eq G d_M_part0_56 (fun c56 => ?_) (fun c56 => absurd ((by rw [hlb]; rfl)) c56)
    refine x_aload0 G d_M_part0_84 ?_
    refine x_bipush (v := nI 33) G d_M_part0_85 rfl ?_
    refine m_callV_pi (p_M_isSign (kg κ) (d - 1) (by omega) σ B n _ hC.2.1 ht 33 (by decide)) G d_M_part0_87 lk_M_258 rfl ⟨by decide, rfl⟩ (by decide) (by omega) rfl (Nat.le_of_ble_eq_true rfl) hx ?_
    refine x_if_eq G d_M_part0_90 (fun c90 => ?_) (fun c90 => absurd ((show bI (decide _) = 0 from by rw [decide_eq_false (by omega)]; rfl)) c90)
    refine x_aload0 G d_M_part0_145 ?_
    refine x_bipush (v := nI 40) G d_M_part0_146 rfl ?_
    refine m_callV_pi (p_M_isSign (kg κ) (d - 1) (by omega) σ B n _ hC.2.1 ht 40 (by decide)) G d_M_part0_148 lk_M_258 rfl ⟨by decide, rfl⟩ (by decide) (by omega) rfl (Nat.le_of_ble_eq_true rfl) hx ?_
    refine x_if_eq G d_M_part0_151 (fun c151 => ?_) (fun c151 => absurd ((show bI (decide _) = 0 from by rw [decide_eq_false (by omega)]; rfl)) c151)
    refine x_iconst (v := nI 0) G d_M_part0_163 rfl ?_
    exact m_iret E G d_M_part0_164 hx rfl rfl ⟨by rw [pP_pc, if_neg (by omega), if_pos hsg, if_neg (fun q => absurd (q.2.2.symm.trans hlb) (by decide))]; rfl, by rw [pP_pc, if_neg (by omega), if_pos hsg, if_neg (fun q => absurd (q.2.2.symm.trans hlb) (by decide))]; exact ⟨fun z => absurd z Bool.false_ne_true, hC.fa, OutR.refl⟩⟩
  · obtain ⟨w1, w2, w3⟩ := ht.sgn (by omega)
    refine x_aload0 G d_M_part0_0 ?_
    refine m_geti G d_M_part0_1 fl_M_227 rfl (by decide) rfl ?_
    rw [hC.2.1.2.2.1, (tkI_sign ht).mpr (by omega)]
    refine x_iconst (v := nI 2) G d_M_part0_4 rfl ?_
    refine x_icmp_ne G d_M_part0_5 (fun c5 => ?_) (fun c5 => absurd c5 ((by decide +kernel)))
    refine x_aload0 G d_M_part0_33 ?_
    refine m_geti G d_M_part0_34 fl_M_227 rfl (by decide) rfl ?_
    rw [hC.2.1.2.2.1, (tkI_sign ht).mpr (by omega)]
    refine x_iconst (v := nI 1) G d_M_part0_37 rfl ?_
    refine x_icmp_ne G d_M_part0_38 (fun c38 => ?_) (fun c38 => absurd c38 ((by decide +kernel)))
    refine x_aload0 G d_M_part0_84 ?_
    refine x_bipush (v := nI 33) G d_M_part0_85 rfl ?_
    refine m_callV_pi (p_M_isSign (kg κ) (d - 1) (by omega) σ B n _ hC.2.1 ht 33 (by decide)) G d_M_part0_87 lk_M_258 rfl ⟨by decide, rfl⟩ (by decide) (by omega) rfl (Nat.le_of_ble_eq_true rfl) hx ?_
    refine x_if_eq G d_M_part0_90 (fun c90 => absurd c90 ((show ¬ bI (decide _) = 0 from by rw [decide_eq_true hsg]; decide))) (fun c90 => ?_)
    refine x_aload0 G d_M_part0_93 ?_
    refine m_geti G d_M_part0_94 fl_M_286 rfl (by decide) rfl ?_
    rw [hC.2.2.2.1]
    refine x_bipush (v := nI 8) G d_M_part0_97 rfl ?_
    refine x_icmp_ge G d_M_part0_99 (fun c99 => ?_) (fun c99 => ?_)
    · have h8 : ¬ nots < 8 := by rw [nle (by decide) (by omega)] at c99; omega
      refine x_aload0 G d_M_part0_145 ?_
      refine x_bipush (v := nI 40) G d_M_part0_146 rfl ?_
      refine m_callV_pi (p_M_isSign (kg κ) (d - 1) (by omega) σ B n _ hC.2.1 ht 40 (by decide)) G d_M_part0_148 lk_M_258 rfl ⟨by decide, rfl⟩ (by decide) (by omega) rfl (Nat.le_of_ble_eq_true rfl) hx ?_
      refine x_if_eq G d_M_part0_151 (fun c151 => ?_) (fun c151 => absurd ((show bI (decide _) = 0 from by rw [decide_eq_false (by omega)]; rfl)) c151)
      refine x_iconst (v := nI 0) G d_M_part0_163 rfl ?_
      exact m_iret E G d_M_part0_164 hx rfl rfl ⟨by rw [pP_pc, if_neg (by omega), if_neg (by omega), if_pos hsg, if_neg h8]; rfl, by rw [pP_pc, if_neg (by omega), if_neg (by omega), if_pos hsg, if_neg h8]; exact ⟨fun z => absurd z Bool.false_ne_true, hC.fa, OutR.refl⟩⟩
    · have h8 : nots < 8 := by rw [nle (by decide) (by omega)] at c99; omega
      refine x_aload0 G d_M_part0_102 ?_
      refine x_dup G d_M_part0_103 rfl ?_
      refine m_geti G d_M_part0_104 fl_M_286 rfl (by decide) rfl ?_
      rw [hC.2.2.2.1]
      refine x_iconst (v := nI 1) G d_M_part0_107 rfl ?_
      refine x_iadd G d_M_part0_108 ?_
      rw [show nI nots + nI 1 = nI (nots + 1) from nI_1 _]
      refine m_puti_n G d_M_part0_109 fl_M_286 rfl (by decide) rfl rfl rfl (fun σ1 e1 => ?_)
      obtain ⟨t1, o1⟩ := hC.put (par' := par) (nots' := nots + 1) (s' := s) e1 rfl rfl (Or.inr (Or.inl ⟨rfl, rfl, rfl, rfl⟩))
      have ht1 : TkOk B n (adP B n s).tk := (adv_ok hB ht).1
      have hlt : s.tk.st < (adP B n s).tk.st := adv_lt hB ht (by omega)
      have hol : (adP B n s).out.length = s.out.length := rfl
      obtain ⟨g1, g2, g3, g4, g5, g6⟩ := pP_fair hB key f 2 (by decide) 0 par (nots + 1) (adP B n s) ht1
      refine x_aload0 G d_M_part0_112 ?_
      refine m_callV_pv (p_M_nextToken (kg κ) (d - 1) (by omega) σ1 B n hn96 hB t1.1 _ _ ht.2.1 t1.2.1.2.1 t1.2.1.2.2.1) G d_M_part0_113 lk_M_261 rfl ⟨by decide, rfl⟩ (by decide) (by omega) rfl (Nat.le_of_ble_eq_true rfl) hx (fun σ2 a2 => ?_)
      obtain ⟨t2, o2⟩ := t1.adv ht (okT_s (by omega)) a2
      refine x_aload0 G d_M_part0_116 ?_
      refine x_iload1 G d_M_part0_117 ?_
      refine m_callV_pn (ihp (kg κ) (d - 1) σ2 par (nots + 1) (adP B n s) (by unfold dep at hdd ⊢; omega) hpar (by omega) (by rw [need_pc]; omega) t2 ht1 (by omega)) G d_M_part0_118 lk_M_277 rfl ⟨by decide, rfl⟩ (by decide) (by omega) rfl (Nat.le_of_ble_eq_true rfl) hx (fun σ3 h3 => ?_)
      obtain ⟨t3, f3, o3⟩ := h3
      generalize hrr : pP B n key f 2 0 par (nots + 1) (adP B n s) = r at t3 f3 g1 g2 g3 g4 g5 g6 ⊢
      refine x_if_ne G d_M_part0_121 (fun c121 => ?_) (fun c121 => ?_)
      · replace c121 := bI_n0.mp c121
        have t3 := t3 c121
        refine x_aload0 G d_M_part0_126 ?_
        refine x_dup G d_M_part0_127 rfl ?_
        refine m_geti G d_M_part0_128 fl_M_286 rfl (by decide) rfl ?_
        rw [t3.2.2.2.1]
        refine x_iconst (v := nI 1) G d_M_part0_131 rfl ?_
        refine x_isub G d_M_part0_132 ?_
        rw [pk_sub (by omega), show nots + 1 - 1 = nots by omega]
        refine m_puti_n G d_M_part0_133 fl_M_286 rfl (by decide) rfl rfl rfl (fun σ4 e4 => ?_)
        obtain ⟨t4, o4⟩ := t3.put (par' := par) (nots' := nots) (s' := r.2) e4 rfl rfl (Or.inr (Or.inl ⟨rfl, rfl, rfl, rfl⟩))
        refine x_aload0 G d_M_part0_136 ?_
        refine x_iconst (v := nI 2) G d_M_part0_137 rfl ?_
        refine x_bipush (v := nI 33) G d_M_part0_138 rfl ?_
        refine m_callV_pv (p_M_step (kg κ) (d - 1) (by omega) σ4 la _ t4.2.2.2.2.2.1 t4.2.2.2.2.1 (by have := g1.1; omega) _ _) G d_M_part0_140 lk_M_264 rfl ⟨by decide, rfl⟩ (by decide) (by omega) rfl (Nat.le_of_ble_eq_true rfl) hx (fun σ5 h5 => ?_)
        obtain ⟨t5, o5⟩ := t4.emit (a := 2) (v := 33) h5
        refine x_iconst (v := nI 1) G d_M_part0_143 rfl ?_
        exact m_iret E G d_M_part0_144 hx rfl rfl ⟨by rw [pP_pc, if_neg (by omega), if_neg (by omega), if_pos hsg, if_pos h8, hrr, if_pos c121]; rfl, by rw [pP_pc, if_neg (by omega), if_neg (by omega), if_pos hsg, if_pos h8, hrr, if_pos c121]; exact ⟨fun _ => t5, t5.fa, (((o1.trans o2).trans o3).trans o4).trans o5⟩⟩
      · replace c121 := bI_0.mp c121
        refine x_iconst (v := nI 0) G d_M_part0_124 rfl ?_
        exact m_iret E G d_M_part0_125 hx rfl rfl ⟨by rw [pP_pc, if_neg (by omega), if_neg (by omega), if_pos hsg, if_pos h8, hrr, if_neg (by rw [c121]; decide), c121]; rfl, by rw [pP_pc, if_neg (by omega), if_neg (by omega), if_pos hsg, if_pos h8, hrr, if_neg (by rw [c121]; decide)]; exact ⟨fun z => absurd (z.symm.trans c121) (by decide), f3, (o1.trans o2).trans o3⟩⟩
  · obtain ⟨w1, w2, w3⟩ := ht.sgn (by omega)
    refine x_aload0 G d_M_part0_0 ?_
    refine m_geti G d_M_part0_1 fl_M_227 rfl (by decide) rfl ?_
    rw [hC.2.1.2.2.1, (tkI_sign ht).mpr (by omega)]
    refine x_iconst (v := nI 2) G d_M_part0_4 rfl ?_
    refine x_icmp_ne G d_M_part0_5 (fun c5 => ?_) (fun c5 => absurd c5 ((by decide +kernel)))
    refine x_aload0 G d_M_part0_33 ?_
    refine m_geti G d_M_part0_34 fl_M_227 rfl (by decide) rfl ?_
    rw [hC.2.1.2.2.1, (tkI_sign ht).mpr (by omega)]
    refine x_iconst (v := nI 1) G d_M_part0_37 rfl ?_
    refine x_icmp_ne G d_M_part0_38 (fun c38 => ?_) (fun c38 => absurd c38 ((by decide +kernel)))
    refine x_aload0 G d_M_part0_84 ?_
    refine x_bipush (v := nI 33) G d_M_part0_85 rfl ?_
    refine m_callV_pi (p_M_isSign (kg κ) (d - 1) (by omega) σ B n _ hC.2.1 ht 33 (by decide)) G d_M_part0_87 lk_M_258 rfl ⟨by decide, rfl⟩ (by decide) (by omega) rfl (Nat.le_of_ble_eq_true rfl) hx ?_
    refine x_if_eq G d_M_part0_90 (fun c90 => ?_) (fun c90 => absurd ((show bI (decide _) = 0 from by rw [decide_eq_false (by omega)]; rfl)) c90)
    refine x_aload0 G d_M_part0_145 ?_
    refine x_bipush (v := nI 40) G d_M_part0_146 rfl ?_
    refine m_callV_pi (p_M_isSign (kg κ) (d - 1) (by omega) σ B n _ hC.2.1 ht 40 (by decide)) G d_M_part0_148 lk_M_258 rfl ⟨by decide, rfl⟩ (by decide) (by omega) rfl (Nat.le_of_ble_eq_true rfl) hx ?_
    refine x_if_eq G d_M_part0_151 (fun c151 => absurd c151 ((show ¬ bI (decide _) = 0 from by rw [decide_eq_true hsg]; decide))) (fun c151 => ?_)
    refine x_aload0 G d_M_part0_154 ?_
    refine m_geti G d_M_part0_155 fl_M_289 rfl (by decide) rfl ?_
    rw [hC.2.2.1]
    refine x_bipush (v := nI 8) G d_M_part0_158 rfl ?_
    refine x_icmp_ne G d_M_part0_160 (fun c160 => ?_) (fun c160 => ?_)
    · have h8 : par < 8 := by
        have : par ≠ 8 := fun e => c160 (by rw [e])
        omega
      refine x_aload0 G d_M_part0_165 ?_
      refine x_dup G d_M_part0_166 rfl ?_
      refine m_geti G d_M_part0_167 fl_M_289 rfl (by decide) rfl ?_
      rw [hC.2.2.1]
      refine x_iconst (v := nI 1) G d_M_part0_170 rfl ?_
      refine x_iadd G d_M_part0_171 ?_
      rw [show nI par + nI 1 = nI (par + 1) from nI_1 _]
      refine m_puti_n G d_M_part0_172 fl_M_289 rfl (by decide) rfl rfl rfl (fun σ1 e1 => ?_)
      obtain ⟨t1, o1⟩ := hC.put (par' := par + 1) (nots' := nots) (s' := s) e1 rfl rfl (Or.inl ⟨rfl, rfl, rfl, rfl⟩)
      have ht1 : TkOk B n (adP B n s).tk := (adv_ok hB ht).1
      have hlt : s.tk.st < (adP B n s).tk.st := adv_lt hB ht (by omega)
      have hol : (adP B n s).out.length = s.out.length := rfl
      obtain ⟨g1, g2, g3, g4, g5, g6⟩ := pP_fair hB key f 0 (by decide) 0 (par + 1) nots (adP B n s) ht1
      refine x_aload0 G d_M_part0_175 ?_
      refine m_callV_pv (p_M_nextToken (kg κ) (d - 1) (by omega) σ1 B n hn96 hB t1.1 _ _ ht.2.1 t1.2.1.2.1 t1.2.1.2.2.1) G d_M_part0_176 lk_M_261 rfl ⟨by decide, rfl⟩ (by decide) (by omega) rfl (Nat.le_of_ble_eq_true rfl) hx (fun σ2 a2 => ?_)
      obtain ⟨t2, o2⟩ := t1.adv ht (okT_s (by omega)) a2
      refine x_aload0 G d_M_part0_179 ?_
      refine x_iload1 G d_M_part0_180 ?_
      refine m_callV_pn (ihe (kg κ) (d - 1) σ2 (par + 1) nots (adP B n s) (by unfold dep at hdd ⊢; omega) (by omega) hnots (by rw [need_ex]; omega) t2 ht1 (by omega)) G d_M_part0_181 lk_M_292 rfl ⟨by decide, rfl⟩ (by decide) (by omega) rfl (Nat.le_of_ble_eq_true rfl) hx (fun σ3 h3 => ?_)
      obtain ⟨t3, f3, o3⟩ := h3
      generalize hrr : pP B n key f 0 0 (par + 1) nots (adP B n s) = r at t3 f3 g1 g2 g3 g4 g5 g6 ⊢
      refine x_if_eq G d_M_part0_184 (fun c184 => ?_) (fun c184 => ?_)
      · replace c184 := bI_0.mp c184
        refine x_iconst (v := nI 0) G d_M_part0_196 rfl ?_
        exact m_iret E G d_M_part0_197 hx rfl rfl ⟨by rw [pP_pc, if_neg (by omega), if_neg (by omega), if_neg (by omega), if_pos hsg, if_pos h8, hrr, if_neg (by rw [c184]; decide), c184]; rfl, by rw [pP_pc, if_neg (by omega), if_neg (by omega), if_neg (by omega), if_pos hsg, if_pos h8, hrr, if_neg (by rw [c184]; decide)]; exact ⟨fun z => absurd (z.symm.trans c184) (by decide), f3, (o1.trans o2).trans o3⟩⟩
      · replace c184 := bI_n0.mp c184
        have t3 := t3 c184
        refine x_aload0 G d_M_part0_187 ?_
        refine x_bipush (v := nI 41) G d_M_part0_188 rfl ?_
        refine m_callV_pi (p_M_isSign (kg κ) (d - 1) (by omega) σ3 B n _ t3.2.1 g1 41 (by decide)) G d_M_part0_190 lk_M_258 rfl ⟨by decide, rfl⟩ (by decide) (by omega) rfl (Nat.le_of_ble_eq_true rfl) hx ?_
        refine x_if_ne G d_M_part0_193 (fun c193 => ?_) (fun c193 => ?_)
        · replace c193 := bI_n0.mp c193
          have c193 := of_decide_eq_true c193
          refine x_aload0 G d_M_part0_198 ?_
          refine x_dup G d_M_part0_199 rfl ?_
          refine m_geti G d_M_part0_200 fl_M_289 rfl (by decide) rfl ?_
          rw [t3.2.2.1]
          refine x_iconst (v := nI 1) G d_M_part0_203 rfl ?_
          refine x_isub G d_M_part0_204 ?_
          rw [pk_sub (by omega), show par + 1 - 1 = par by omega]
          refine m_puti_n G d_M_part0_205 fl_M_289 rfl (by decide) rfl rfl rfl (fun σ4 e4 => ?_)
          obtain ⟨t4, o4⟩ := t3.put (par' := par) (nots' := nots) (s' := r.2) e4 rfl rfl (Or.inl ⟨rfl, rfl, rfl, rfl⟩)
          refine x_aload0 G d_M_part0_208 ?_
          refine m_callV_pv (p_M_nextToken (kg κ) (d - 1) (by omega) σ4 B n hn96 hB t4.1 _ _ g1.2.1 t4.2.1.2.1 t4.2.1.2.2.1) G d_M_part0_209 lk_M_261 rfl ⟨by decide, rfl⟩ (by decide) (by omega) rfl (Nat.le_of_ble_eq_true rfl) hx (fun σ5 a5 => ?_)
          obtain ⟨t5, o5⟩ := t4.adv g1 (okT_s (by omega)) a5
          refine x_iconst (v := nI 1) G d_M_part0_212 rfl ?_
          exact m_iret E G d_M_part0_213 hx rfl rfl ⟨by rw [pP_pc, if_neg (by omega), if_neg (by omega), if_neg (by omega), if_pos hsg, if_pos h8, hrr, if_pos c184, if_pos c193]; rfl, by rw [pP_pc, if_neg (by omega), if_neg (by omega), if_neg (by omega), if_pos hsg, if_pos h8, hrr, if_pos c184, if_pos c193]; exact ⟨fun _ => t5, t5.fa, (((o1.trans o2).trans o3).trans o4).trans o5⟩⟩
        · replace c193 := bI_0.mp c193
          have c193 := of_decide_eq_false c193
          refine x_iconst (v := nI 0) G d_M_part0_196 rfl ?_
          exact m_iret E G d_M_part0_197 hx rfl rfl ⟨by rw [pP_pc, if_neg (by omega), if_neg (by omega), if_neg (by omega), if_pos hsg, if_pos h8, hrr, if_pos c184, if_neg c193]; rfl, by rw [pP_pc, if_neg (by omega), if_neg (by omega), if_neg (by omega), if_pos hsg, if_pos h8, hrr, if_pos c184, if_neg c193]; exact ⟨fun z => absurd z Bool.false_ne_true, f3, (o1.trans o2).trans o3⟩⟩
    · have h8 : ¬ par < 8 := by
        have q := c160
        rw [neq (by omega) (by decide)] at q
        omega
      refine x_iconst (v := nI 0) G d_M_part0_163 rfl ?_
      exact m_iret E G d_M_part0_164 hx rfl rfl ⟨by rw [pP_pc, if_neg (by omega), if_neg (by omega), if_neg (by omega), if_pos hsg, if_neg h8]; rfl, by rw [pP_pc, if_neg (by omega), if_neg (by omega), if_neg (by omega), if_pos hsg, if_neg h8]; exact ⟨fun z => absurd z Bool.false_ne_true, hC.fa, OutR.refl⟩⟩
  · have hn2 : ¬ tkI s.tk = nI 2 := by
      unfold tkI
      by_cases q : s.tk.sg = 258
      · rw [if_pos q]; decide +kernel
      · rw [if_neg q, if_neg hs3, if_neg hs4]; decide +kernel
    have hn1 : ¬ tkI s.tk = nI 1 := by
      unfold tkI
      by_cases q : s.tk.sg = 258
      · rw [if_pos q]; decide +kernel
      · rw [if_neg q, if_neg hs3, if_neg hs4]; decide +kernel
    refine x_aload0 G d_M_part0_0 ?_
    refine m_geti G d_M_part0_1 fl_M_227 rfl (by decide) rfl ?_
    refine x_iconst (v := nI 2) G d_M_part0_4 rfl ?_
    refine x_icmp_ne G d_M_part0_5 (fun c5 => ?_) (fun c5 => absurd c5 ((fun z => by rw [hC.2.1.2.2.1] at z; exact hn2 z)))
    refine x_aload0 G d_M_part0_33 ?_
    refine m_geti G d_M_part0_34 fl_M_227 rfl (by decide) rfl ?_
    refine x_iconst (v := nI 1) G d_M_part0_37 rfl ?_
    refine x_icmp_ne G d_M_part0_38 (fun c38 => ?_) (fun c38 => absurd c38 ((fun z => by rw [hC.2.1.2.2.1] at z; exact hn1 z)))
    refine x_aload0 G d_M_part0_84 ?_
    refine x_bipush (v := nI 33) G d_M_part0_85 rfl ?_
    refine m_callV_pi (p_M_isSign (kg κ) (d - 1) (by omega) σ B n _ hC.2.1 ht 33 (by decide)) G d_M_part0_87 lk_M_258 rfl ⟨by decide, rfl⟩ (by decide) (by omega) rfl (Nat.le_of_ble_eq_true rfl) hx ?_
    refine x_if_eq G d_M_part0_90 (fun c90 => ?_) (fun c90 => absurd ((show bI (decide _) = 0 from by rw [decide_eq_false (by omega)]; rfl)) c90)
    refine x_aload0 G d_M_part0_145 ?_
    refine x_bipush (v := nI 40) G d_M_part0_146 rfl ?_
    refine m_callV_pi (p_M_isSign (kg κ) (d - 1) (by omega) σ B n _ hC.2.1 ht 40 (by decide)) G d_M_part0_148 lk_M_258 rfl ⟨by decide, rfl⟩ (by decide) (by omega) rfl (Nat.le_of_ble_eq_true rfl) hx ?_
    refine x_if_eq G d_M_part0_151 (fun c151 => ?_) (fun c151 => absurd ((show bI (decide _) = 0 from by rw [decide_eq_false (by omega)]; rfl)) c151)
    refine x_iconst (v := nI 0) G d_M_part0_163 rfl ?_
    exact m_iret E G d_M_part0_164 hx rfl rfl ⟨by rw [pP_pc, if_neg (by omega), if_neg (by omega), if_neg (by omega), if_neg (by omega)]; rfl, by rw [pP_pc, if_neg (by omega), if_neg (by omega), if_neg (by omega), if_neg (by omega)]; exact ⟨fun z => absurd z Bool.false_ne_true, hC.fa, OutR.refl⟩⟩
theorem p_M_term (g : CX) (d : Nat) (hd : 8 ≤ d) (σ : Sg) (B : Nat → Nat) (n : Nat) (hn96 : n ≤ 96) (hB : ∀ i, i < n → B i < 256) (la : Nat) (S : Rw) (key : Nat) (s : PS) (par nots : Nat) (hC : MdC B n la S s par nots σ) (ht : TkOk B n s.tk) (f : Nat) (IHe : ∀ f', f' ≤ f → PlM B n la S key M_part0 5 f') (hk3 : key < 3) (hla9 : la + 200 ≤ 3090) (hpar : par ≤ 8) (hnots : nots ≤ 8) (hol0 : s.out.length ≤ s.tk.st) (hnd : need n 0 4 s ≤ f + 1) (hdd : dep par nots + 7 - 4 ≤ d) : RunM g d M_term [.ref 113, .int (nI key)] σ (RdM B n la S (pP B n key (f + 1) 0 4 par nots s) par nots σ) := by
  refine RunM.of 1 (by decide +kernel) rfl ?_
  intro κ hg hx hk0 G E
  subst hg
  have hk : 3 ≤ kn κ := Nat.le_of_eq hk0.symm
  show X κ NC 0 [some (.ref 113), some (.int (nI key)), none] [] (hv σ)
  have hst := ht.1
  refine x_aload0 G d_M_term_0 ?_
  refine x_iload1 G d_M_term_1 ?_
  refine m_callV_pn (IHe f (Nat.le_refl _) (kg κ) (d - 1) σ par nots s (by omega) hpar hnots (by rw [need_ex] at hnd ⊢; omega) hC ht hol0) G d_M_term_2 lk_M_277 rfl ⟨by decide, rfl⟩ (by decide) (by omega) rfl (Nat.le_of_ble_eq_true rfl) hx (fun σ1 h1 => ?_)
  obtain ⟨t1, f1, o1⟩ := h1
  obtain ⟨g1, g2, g3, g4, g5, g6⟩ := pP_fair hB key f 0 (by decide) 5 par nots s ht
  have hEq0 := pP_ex (B := B) (n := n) (key := key) (f := f) (lv := 4) (par := par) (nots := nots) (s := s)
  rw [if_neg (by decide)] at hEq0
  generalize hrr : pP B n key f 0 5 par nots s = r0 at t1 f1 g1 g2 g3 g4 g5 g6 hEq0 ⊢
  refine x_if_ne G d_M_term_5 (fun c5 => ?_) (fun c5 => ?_)
  · replace c5 := bI_n0.mp c5
    have t1 := t1 c5
    have hloop : ∀ (fl : Nat) (s1 : PS) (σ2 : Sg) (o2 : Option Value), fl ≤ f → need n 1 4 s1 ≤ fl → MdC B n la S s1 par nots σ2 → TkOk B n s1.tk → s1.out.length ≤ s1.tk.st → OutR σ σ2 → pP B n key (f + 1) 0 4 par nots s = pP B n key fl 1 4 par nots s1 → X κ NC 10 [some (.ref 113), some (.int (nI key)), o2] [] (hv σ2) := by
      intro fl
      induction fl with
      | zero => intro s1 σ2 o2 h1 h2; rw [need_lo] at h2; omega
      | succ fl ih =>
        intro s1 σ2 o2 hfl hnd1 t2 ht1 hol1 q2 hEq
        rw [need_lo] at hnd1
        rw [pP_lo] at hEq
        have hst1 := ht1.1
        refine x_aload0 G d_M_term_10 ?_
        refine x_bipush (v := nI 42) G d_M_term_11 rfl ?_
        refine m_callV_pi (p_M_isSign (kg κ) (d - 1) (by omega) σ2 B n _ t2.2.1 ht1 42 (by decide)) G d_M_term_13 lk_M_258 rfl ⟨by decide, rfl⟩ (by decide) (by omega) rfl (Nat.le_of_ble_eq_true rfl) hx ?_
        refine x_if_ne G d_M_term_16 (fun c16 => ?_) (fun c16 => ?_)
        · replace c16 := bI_n0.mp c16
          have hz16 := of_decide_eq_true c16
          have hlv : lvN s1.tk.sg = 4 := lv_4.mpr (by omega)
          have hsl : s1.tk.sg < 256 := by omega
          rw [if_pos ⟨hlv, by decide⟩] at hEq
          refine x_aload0 G d_M_term_28 ?_
          refine m_geti G d_M_term_29 fl_M_236 rfl (by decide) rfl ?_
          rw [t2.2.1.2.2.2.2.2 hsl]
          refine x_istore2 G d_M_term_32 rfl hk ?_
          refine x_aload0 G d_M_term_33 ?_
          refine m_callV_pv (p_M_nextToken (kg κ) (d - 1) (by omega) σ2 B n hn96 hB t2.1 _ _ ht1.2.1 t2.2.1.2.1 t2.2.1.2.2.1) G d_M_term_34 lk_M_261 rfl ⟨by decide, rfl⟩ (by decide) (by omega) rfl (Nat.le_of_ble_eq_true rfl) hx (fun σ3 a3 => ?_)
          obtain ⟨t3, o3⟩ := t2.adv ht1 (okT_s hsl) a3
          have ht3 : TkOk B n (adP B n s1).tk := (adv_ok hB ht1).1
          have hlt3 : s1.tk.st < (adP B n s1).tk.st := adv_lt hB ht1 (by omega)
          have hol3 : (adP B n s1).out.length = s1.out.length := rfl
          obtain ⟨g1, g2, g3, g4, g5, g6⟩ := pP_fair hB key fl 0 (by decide) 5 par nots (adP B n s1) ht3
          refine x_aload0 G d_M_term_37 ?_
          refine x_iload1 G d_M_term_38 ?_
          refine m_callV_pn (IHe fl (by omega) (kg κ) (d - 1) σ3 par nots (adP B n s1) (by omega) hpar hnots (by rw [need_ex]; omega) t3 ht3 (by omega)) G d_M_term_39 lk_M_277 rfl ⟨by decide, rfl⟩ (by decide) (by omega) rfl (Nat.le_of_ble_eq_true rfl) hx (fun σ4 h4 => ?_)
          obtain ⟨t4, f4, o4⟩ := h4
          generalize hrr : pP B n key fl 0 5 par nots (adP B n s1) = r at t4 f4 g1 g2 g3 g4 g5 g6 hEq ⊢
          have hg1 := g1.1
          refine x_if_ne G d_M_term_42 (fun c42 => ?_) (fun c42 => ?_)
          · replace c42 := bI_n0.mp c42
            have t4 := t4 c42
            rw [if_pos c42] at hEq
            rw [if_neg (by decide)] at hEq
            refine x_aload0 G d_M_term_47 ?_
            refine x_iconst (v := nI 2) G d_M_term_48 rfl ?_
            refine x_iload2 G d_M_term_49 ?_
            refine m_callV_pv (p_M_step (kg κ) (d - 1) (by omega) σ4 la _ t4.2.2.2.2.2.1 t4.2.2.2.2.1 (by have := g1.1; omega) _ _) G d_M_term_50 lk_M_264 rfl ⟨by decide, rfl⟩ (by decide) (by omega) rfl (Nat.le_of_ble_eq_true rfl) hx (fun σ5 h5 => ?_)
            obtain ⟨t5, o5⟩ := t4.emit (σ1 := σ5) (a := 2) (v := s1.tk.sg) h5
            refine x_goto G d_M_term_53 ?_
            exact ih (emP r.2 2 s1.tk.sg) σ5 _ (by omega) (by rw [need_lo]; show 24 * (n - r.2.tk.st) + 22 ≤ fl; omega) t5 g1 (by rw [emP_len]; show r.2.out.length + 1 ≤ r.2.tk.st; omega) (((q2.trans o3).trans o4).trans o5) hEq
          · replace c42 := bI_0.mp c42
            rw [if_neg (by rw [c42]; decide)] at hEq
            refine x_iconst (v := nI 0) G d_M_term_45 rfl ?_
            exact m_iret E G d_M_term_46 hx rfl rfl ⟨by rw [hEq, c42]; rfl, by rw [hEq]; exact ⟨fun z => absurd (z.symm.trans c42) (by decide), f4, (q2.trans o3).trans o4⟩⟩
        · replace c16 := bI_0.mp c16
          have hz16 := of_decide_eq_false c16
          refine x_aload0 G d_M_term_19 ?_
          refine x_bipush (v := nI 47) G d_M_term_20 rfl ?_
          refine m_callV_pi (p_M_isSign (kg κ) (d - 1) (by omega) σ2 B n _ t2.2.1 ht1 47 (by decide)) G d_M_term_22 lk_M_258 rfl ⟨by decide, rfl⟩ (by decide) (by omega) rfl (Nat.le_of_ble_eq_true rfl) hx ?_
          refine x_if_eq G d_M_term_25 (fun c25 => ?_) (fun c25 => ?_)
          · replace c25 := bI_0.mp c25
            have hz25 := of_decide_eq_false c25
            have hlv : ¬ lvN s1.tk.sg = 4 := fun z => by
              have q := lv_4.mp z
              omega
            rw [if_neg (fun z => hlv z.1)] at hEq
            refine x_iconst (v := nI 1) G d_M_term_56 rfl ?_
            exact m_iret E G d_M_term_57 hx rfl rfl ⟨by rw [hEq]; rfl, by rw [hEq]; exact ⟨fun _ => t2, t2.fa, q2⟩⟩
          · replace c25 := bI_n0.mp c25
            have hz25 := of_decide_eq_true c25
            have hlv : lvN s1.tk.sg = 4 := lv_4.mpr (by omega)
            have hsl : s1.tk.sg < 256 := by omega
            rw [if_pos ⟨hlv, by decide⟩] at hEq
            refine x_aload0 G d_M_term_28 ?_
            refine m_geti G d_M_term_29 fl_M_236 rfl (by decide) rfl ?_
            rw [t2.2.1.2.2.2.2.2 hsl]
            refine x_istore2 G d_M_term_32 rfl hk ?_
            refine x_aload0 G d_M_term_33 ?_
            refine m_callV_pv (p_M_nextToken (kg κ) (d - 1) (by omega) σ2 B n hn96 hB t2.1 _ _ ht1.2.1 t2.2.1.2.1 t2.2.1.2.2.1) G d_M_term_34 lk_M_261 rfl ⟨by decide, rfl⟩ (by decide) (by omega) rfl (Nat.le_of_ble_eq_true rfl) hx (fun σ3 a3 => ?_)
            obtain ⟨t3, o3⟩ := t2.adv ht1 (okT_s hsl) a3
            have ht3 : TkOk B n (adP B n s1).tk := (adv_ok hB ht1).1
            have hlt3 : s1.tk.st < (adP B n s1).tk.st := adv_lt hB ht1 (by omega)
            have hol3 : (adP B n s1).out.length = s1.out.length := rfl
            obtain ⟨g1, g2, g3, g4, g5, g6⟩ := pP_fair hB key fl 0 (by decide) 5 par nots (adP B n s1) ht3
            refine x_aload0 G d_M_term_37 ?_
            refine x_iload1 G d_M_term_38 ?_
            refine m_callV_pn (IHe fl (by omega) (kg κ) (d - 1) σ3 par nots (adP B n s1) (by omega) hpar hnots (by rw [need_ex]; omega) t3 ht3 (by omega)) G d_M_term_39 lk_M_277 rfl ⟨by decide, rfl⟩ (by decide) (by omega) rfl (Nat.le_of_ble_eq_true rfl) hx (fun σ4 h4 => ?_)
            obtain ⟨t4, f4, o4⟩ := h4
            generalize hrr : pP B n key fl 0 5 par nots (adP B n s1) = r at t4 f4 g1 g2 g3 g4 g5 g6 hEq ⊢
            have hg1 := g1.1
            refine x_if_ne G d_M_term_42 (fun c42 => ?_) (fun c42 => ?_)
            · replace c42 := bI_n0.mp c42
              have t4 := t4 c42
              rw [if_pos c42] at hEq
              rw [if_neg (by decide)] at hEq
              refine x_aload0 G d_M_term_47 ?_
              refine x_iconst (v := nI 2) G d_M_term_48 rfl ?_
              refine x_iload2 G d_M_term_49 ?_
              refine m_callV_pv (p_M_step (kg κ) (d - 1) (by omega) σ4 la _ t4.2.2.2.2.2.1 t4.2.2.2.2.1 (by have := g1.1; omega) _ _) G d_M_term_50 lk_M_264 rfl ⟨by decide, rfl⟩ (by decide) (by omega) rfl (Nat.le_of_ble_eq_true rfl) hx (fun σ5 h5 => ?_)
              obtain ⟨t5, o5⟩ := t4.emit (σ1 := σ5) (a := 2) (v := s1.tk.sg) h5
              refine x_goto G d_M_term_53 ?_
              exact ih (emP r.2 2 s1.tk.sg) σ5 _ (by omega) (by rw [need_lo]; show 24 * (n - r.2.tk.st) + 22 ≤ fl; omega) t5 g1 (by rw [emP_len]; show r.2.out.length + 1 ≤ r.2.tk.st; omega) (((q2.trans o3).trans o4).trans o5) hEq
            · replace c42 := bI_0.mp c42
              rw [if_neg (by rw [c42]; decide)] at hEq
              refine x_iconst (v := nI 0) G d_M_term_45 rfl ?_
              exact m_iret E G d_M_term_46 hx rfl rfl ⟨by rw [hEq, c42]; rfl, by rw [hEq]; exact ⟨fun z => absurd (z.symm.trans c42) (by decide), f4, (q2.trans o3).trans o4⟩⟩
    exact hloop f r0.2 σ1 none (Nat.le_refl _) (by rw [need_lo]; rw [need_ex] at hnd; have := g6 c5 (by decide); have := g1.1; omega) t1 g1 (by omega) o1 (by rw [hEq0, if_pos c5])
  · replace c5 := bI_0.mp c5
    refine x_iconst (v := nI 0) G d_M_term_8 rfl ?_
    exact m_iret E G d_M_term_9 hx rfl rfl ⟨by rw [hEq0, if_neg (by rw [c5]; decide), c5]; rfl, by rw [hEq0, if_neg (by rw [c5]; decide)]; exact ⟨fun z => absurd (z.symm.trans c5) (by decide), f1, o1⟩⟩
theorem p_M_sum (g : CX) (d : Nat) (hd : 8 ≤ d) (σ : Sg) (B : Nat → Nat) (n : Nat) (hn96 : n ≤ 96) (hB : ∀ i, i < n → B i < 256) (la : Nat) (S : Rw) (key : Nat) (s : PS) (par nots : Nat) (hC : MdC B n la S s par nots σ) (ht : TkOk B n s.tk) (f : Nat) (IHe : ∀ f', f' ≤ f → PlM B n la S key M_term 4 f') (hk3 : key < 3) (hla9 : la + 200 ≤ 3090) (hpar : par ≤ 8) (hnots : nots ≤ 8) (hol0 : s.out.length ≤ s.tk.st) (hnd : need n 0 3 s ≤ f + 1) (hdd : dep par nots + 7 - 3 ≤ d) : RunM g d M_sum [.ref 113, .int (nI key)] σ (RdM B n la S (pP B n key (f + 1) 0 3 par nots s) par nots σ) := by
  refine RunM.of 1 (by decide +kernel) rfl ?_
  intro κ hg hx hk0 G E
  subst hg
  have hk : 3 ≤ kn κ := Nat.le_of_eq hk0.symm
  show X κ NC 0 [some (.ref 113), some (.int (nI key)), none] [] (hv σ)
  have hst := ht.1
  refine x_aload0 G d_M_sum_0 ?_
  refine x_iload1 G d_M_sum_1 ?_
  refine m_callV_pn (IHe f (Nat.le_refl _) (kg κ) (d - 1) σ par nots s (by omega) hpar hnots (by rw [need_ex] at hnd ⊢; omega) hC ht hol0) G d_M_sum_2 lk_M_274 rfl ⟨by decide, rfl⟩ (by decide) (by omega) rfl (Nat.le_of_ble_eq_true rfl) hx (fun σ1 h1 => ?_)
  obtain ⟨t1, f1, o1⟩ := h1
  obtain ⟨g1, g2, g3, g4, g5, g6⟩ := pP_fair hB key f 0 (by decide) 4 par nots s ht
  have hEq0 := pP_ex (B := B) (n := n) (key := key) (f := f) (lv := 3) (par := par) (nots := nots) (s := s)
  rw [if_neg (by decide)] at hEq0
  generalize hrr : pP B n key f 0 4 par nots s = r0 at t1 f1 g1 g2 g3 g4 g5 g6 hEq0 ⊢
  refine x_if_ne G d_M_sum_5 (fun c5 => ?_) (fun c5 => ?_)
  · replace c5 := bI_n0.mp c5
    have t1 := t1 c5
    have hloop : ∀ (fl : Nat) (s1 : PS) (σ2 : Sg) (o2 : Option Value), fl ≤ f → need n 1 3 s1 ≤ fl → MdC B n la S s1 par nots σ2 → TkOk B n s1.tk → s1.out.length ≤ s1.tk.st → OutR σ σ2 → pP B n key (f + 1) 0 3 par nots s = pP B n key fl 1 3 par nots s1 → X κ NC 10 [some (.ref 113), some (.int (nI key)), o2] [] (hv σ2) := by
      intro fl
      induction fl with
      | zero => intro s1 σ2 o2 h1 h2; rw [need_lo] at h2; omega
      | succ fl ih =>
        intro s1 σ2 o2 hfl hnd1 t2 ht1 hol1 q2 hEq
        rw [need_lo] at hnd1
        rw [pP_lo] at hEq
        have hst1 := ht1.1
        refine x_aload0 G d_M_sum_10 ?_
        refine x_bipush (v := nI 43) G d_M_sum_11 rfl ?_
        refine m_callV_pi (p_M_isSign (kg κ) (d - 1) (by omega) σ2 B n _ t2.2.1 ht1 43 (by decide)) G d_M_sum_13 lk_M_258 rfl ⟨by decide, rfl⟩ (by decide) (by omega) rfl (Nat.le_of_ble_eq_true rfl) hx ?_
        refine x_if_ne G d_M_sum_16 (fun c16 => ?_) (fun c16 => ?_)
        · replace c16 := bI_n0.mp c16
          have hz16 := of_decide_eq_true c16
          have hlv : lvN s1.tk.sg = 3 := lv_3.mpr (by omega)
          have hsl : s1.tk.sg < 256 := by omega
          rw [if_pos ⟨hlv, by decide⟩] at hEq
          refine x_aload0 G d_M_sum_28 ?_
          refine m_geti G d_M_sum_29 fl_M_236 rfl (by decide) rfl ?_
          rw [t2.2.1.2.2.2.2.2 hsl]
          refine x_istore2 G d_M_sum_32 rfl hk ?_
          refine x_aload0 G d_M_sum_33 ?_
          refine m_callV_pv (p_M_nextToken (kg κ) (d - 1) (by omega) σ2 B n hn96 hB t2.1 _ _ ht1.2.1 t2.2.1.2.1 t2.2.1.2.2.1) G d_M_sum_34 lk_M_261 rfl ⟨by decide, rfl⟩ (by decide) (by omega) rfl (Nat.le_of_ble_eq_true rfl) hx (fun σ3 a3 => ?_)
          obtain ⟨t3, o3⟩ := t2.adv ht1 (okT_s hsl) a3
          have ht3 : TkOk B n (adP B n s1).tk := (adv_ok hB ht1).1
          have hlt3 : s1.tk.st < (adP B n s1).tk.st := adv_lt hB ht1 (by omega)
          have hol3 : (adP B n s1).out.length = s1.out.length := rfl
          obtain ⟨g1, g2, g3, g4, g5, g6⟩ := pP_fair hB key fl 0 (by decide) 4 par nots (adP B n s1) ht3
          refine x_aload0 G d_M_sum_37 ?_
          refine x_iload1 G d_M_sum_38 ?_
          refine m_callV_pn (IHe fl (by omega) (kg κ) (d - 1) σ3 par nots (adP B n s1) (by omega) hpar hnots (by rw [need_ex]; omega) t3 ht3 (by omega)) G d_M_sum_39 lk_M_274 rfl ⟨by decide, rfl⟩ (by decide) (by omega) rfl (Nat.le_of_ble_eq_true rfl) hx (fun σ4 h4 => ?_)
          obtain ⟨t4, f4, o4⟩ := h4
          generalize hrr : pP B n key fl 0 4 par nots (adP B n s1) = r at t4 f4 g1 g2 g3 g4 g5 g6 hEq ⊢
          have hg1 := g1.1
          refine x_if_ne G d_M_sum_42 (fun c42 => ?_) (fun c42 => ?_)
          · replace c42 := bI_n0.mp c42
            have t4 := t4 c42
            rw [if_pos c42] at hEq
            rw [if_neg (by decide)] at hEq
            refine x_aload0 G d_M_sum_47 ?_
            refine x_iconst (v := nI 2) G d_M_sum_48 rfl ?_
            refine x_iload2 G d_M_sum_49 ?_
            refine m_callV_pv (p_M_step (kg κ) (d - 1) (by omega) σ4 la _ t4.2.2.2.2.2.1 t4.2.2.2.2.1 (by have := g1.1; omega) _ _) G d_M_sum_50 lk_M_264 rfl ⟨by decide, rfl⟩ (by decide) (by omega) rfl (Nat.le_of_ble_eq_true rfl) hx (fun σ5 h5 => ?_)
            obtain ⟨t5, o5⟩ := t4.emit (σ1 := σ5) (a := 2) (v := s1.tk.sg) h5
            refine x_goto G d_M_sum_53 ?_
            exact ih (emP r.2 2 s1.tk.sg) σ5 _ (by omega) (by rw [need_lo]; show 24 * (n - r.2.tk.st) + 22 ≤ fl; omega) t5 g1 (by rw [emP_len]; show r.2.out.length + 1 ≤ r.2.tk.st; omega) (((q2.trans o3).trans o4).trans o5) hEq
          · replace c42 := bI_0.mp c42
            rw [if_neg (by rw [c42]; decide)] at hEq
            refine x_iconst (v := nI 0) G d_M_sum_45 rfl ?_
            exact m_iret E G d_M_sum_46 hx rfl rfl ⟨by rw [hEq, c42]; rfl, by rw [hEq]; exact ⟨fun z => absurd (z.symm.trans c42) (by decide), f4, (q2.trans o3).trans o4⟩⟩
        · replace c16 := bI_0.mp c16
          have hz16 := of_decide_eq_false c16
          refine x_aload0 G d_M_sum_19 ?_
          refine x_bipush (v := nI 45) G d_M_sum_20 rfl ?_
          refine m_callV_pi (p_M_isSign (kg κ) (d - 1) (by omega) σ2 B n _ t2.2.1 ht1 45 (by decide)) G d_M_sum_22 lk_M_258 rfl ⟨by decide, rfl⟩ (by decide) (by omega) rfl (Nat.le_of_ble_eq_true rfl) hx ?_
          refine x_if_eq G d_M_sum_25 (fun c25 => ?_) (fun c25 => ?_)
          · replace c25 := bI_0.mp c25
            have hz25 := of_decide_eq_false c25
            have hlv : ¬ lvN s1.tk.sg = 3 := fun z => by
              have q := lv_3.mp z
              omega
            rw [if_neg (fun z => hlv z.1)] at hEq
            refine x_iconst (v := nI 1) G d_M_sum_56 rfl ?_
            exact m_iret E G d_M_sum_57 hx rfl rfl ⟨by rw [hEq]; rfl, by rw [hEq]; exact ⟨fun _ => t2, t2.fa, q2⟩⟩
          · replace c25 := bI_n0.mp c25
            have hz25 := of_decide_eq_true c25
            have hlv : lvN s1.tk.sg = 3 := lv_3.mpr (by omega)
            have hsl : s1.tk.sg < 256 := by omega
            rw [if_pos ⟨hlv, by decide⟩] at hEq
            refine x_aload0 G d_M_sum_28 ?_
            refine m_geti G d_M_sum_29 fl_M_236 rfl (by decide) rfl ?_
            rw [t2.2.1.2.2.2.2.2 hsl]
            refine x_istore2 G d_M_sum_32 rfl hk ?_
            refine x_aload0 G d_M_sum_33 ?_
            refine m_callV_pv (p_M_nextToken (kg κ) (d - 1) (by omega) σ2 B n hn96 hB t2.1 _ _ ht1.2.1 t2.2.1.2.1 t2.2.1.2.2.1) G d_M_sum_34 lk_M_261 rfl ⟨by decide, rfl⟩ (by decide) (by omega) rfl (Nat.le_of_ble_eq_true rfl) hx (fun σ3 a3 => ?_)
            obtain ⟨t3, o3⟩ := t2.adv ht1 (okT_s hsl) a3
            have ht3 : TkOk B n (adP B n s1).tk := (adv_ok hB ht1).1
            have hlt3 : s1.tk.st < (adP B n s1).tk.st := adv_lt hB ht1 (by omega)
            have hol3 : (adP B n s1).out.length = s1.out.length := rfl
            obtain ⟨g1, g2, g3, g4, g5, g6⟩ := pP_fair hB key fl 0 (by decide) 4 par nots (adP B n s1) ht3
            refine x_aload0 G d_M_sum_37 ?_
            refine x_iload1 G d_M_sum_38 ?_
            refine m_callV_pn (IHe fl (by omega) (kg κ) (d - 1) σ3 par nots (adP B n s1) (by omega) hpar hnots (by rw [need_ex]; omega) t3 ht3 (by omega)) G d_M_sum_39 lk_M_274 rfl ⟨by decide, rfl⟩ (by decide) (by omega) rfl (Nat.le_of_ble_eq_true rfl) hx (fun σ4 h4 => ?_)
            obtain ⟨t4, f4, o4⟩ := h4
            generalize hrr : pP B n key fl 0 4 par nots (adP B n s1) = r at t4 f4 g1 g2 g3 g4 g5 g6 hEq ⊢
            have hg1 := g1.1
            refine x_if_ne G d_M_sum_42 (fun c42 => ?_) (fun c42 => ?_)
            · replace c42 := bI_n0.mp c42
              have t4 := t4 c42
              rw [if_pos c42] at hEq
              rw [if_neg (by decide)] at hEq
              refine x_aload0 G d_M_sum_47 ?_
              refine x_iconst (v := nI 2) G d_M_sum_48 rfl ?_
              refine x_iload2 G d_M_sum_49 ?_
              refine m_callV_pv (p_M_step (kg κ) (d - 1) (by omega) σ4 la _ t4.2.2.2.2.2.1 t4.2.2.2.2.1 (by have := g1.1; omega) _ _) G d_M_sum_50 lk_M_264 rfl ⟨by decide, rfl⟩ (by decide) (by omega) rfl (Nat.le_of_ble_eq_true rfl) hx (fun σ5 h5 => ?_)
              obtain ⟨t5, o5⟩ := t4.emit (σ1 := σ5) (a := 2) (v := s1.tk.sg) h5
              refine x_goto G d_M_sum_53 ?_
              exact ih (emP r.2 2 s1.tk.sg) σ5 _ (by omega) (by rw [need_lo]; show 24 * (n - r.2.tk.st) + 22 ≤ fl; omega) t5 g1 (by rw [emP_len]; show r.2.out.length + 1 ≤ r.2.tk.st; omega) (((q2.trans o3).trans o4).trans o5) hEq
            · replace c42 := bI_0.mp c42
              rw [if_neg (by rw [c42]; decide)] at hEq
              refine x_iconst (v := nI 0) G d_M_sum_45 rfl ?_
              exact m_iret E G d_M_sum_46 hx rfl rfl ⟨by rw [hEq, c42]; rfl, by rw [hEq]; exact ⟨fun z => absurd (z.symm.trans c42) (by decide), f4, (q2.trans o3).trans o4⟩⟩
    exact hloop f r0.2 σ1 none (Nat.le_refl _) (by rw [need_lo]; rw [need_ex] at hnd; have := g6 c5 (by decide); have := g1.1; omega) t1 g1 (by omega) o1 (by rw [hEq0, if_pos c5])
  · replace c5 := bI_0.mp c5
    refine x_iconst (v := nI 0) G d_M_sum_8 rfl ?_
    exact m_iret E G d_M_sum_9 hx rfl rfl ⟨by rw [hEq0, if_neg (by rw [c5]; decide), c5]; rfl, by rw [hEq0, if_neg (by rw [c5]; decide)]; exact ⟨fun z => absurd (z.symm.trans c5) (by decide), f1, o1⟩⟩
theorem p_M_test (g : CX) (d : Nat) (hd : 8 ≤ d) (σ : Sg) (B : Nat → Nat) (n : Nat) (hn96 : n ≤ 96) (hB : ∀ i, i < n → B i < 256) (la : Nat) (S : Rw) (key : Nat) (s : PS) (par nots : Nat) (hC : MdC B n la S s par nots σ) (ht : TkOk B n s.tk) (f : Nat) (IHe : ∀ f', f' ≤ f → PlM B n la S key M_sum 3 f') (hk3 : key < 3) (hla9 : la + 200 ≤ 3090) (hpar : par ≤ 8) (hnots : nots ≤ 8) (hol0 : s.out.length ≤ s.tk.st) (hnd : need n 0 2 s ≤ f + 1) (hdd : dep par nots + 7 - 2 ≤ d) : RunM g d M_test [.ref 113, .int (nI key)] σ (RdM B n la S (pP B n key (f + 1) 0 2 par nots s) par nots σ) := by
  refine RunM.of 1 (by decide +kernel) rfl ?_
  intro κ hg hx hk0 G E
  subst hg
  have hk : 3 ≤ kn κ := Nat.le_of_eq hk0.symm
  show X κ NC 0 [some (.ref 113), some (.int (nI key)), none] [] (hv σ)
  have hst := ht.1
  refine x_aload0 G d_M_test_0 ?_
  refine x_iload1 G d_M_test_1 ?_
  refine m_callV_pn (IHe f (Nat.le_refl _) (kg κ) (d - 1) σ par nots s (by omega) hpar hnots (by rw [need_ex] at hnd ⊢; omega) hC ht hol0) G d_M_test_2 lk_M_271 rfl ⟨by decide, rfl⟩ (by decide) (by omega) rfl (Nat.le_of_ble_eq_true rfl) hx (fun σ1 h1 => ?_)
  obtain ⟨t1, f1, o1⟩ := h1
  obtain ⟨g1, g2, g3, g4, g5, g6⟩ := pP_fair hB key f 0 (by decide) 3 par nots s ht
  have hEq0 := pP_ex (B := B) (n := n) (key := key) (f := f) (lv := 2) (par := par) (nots := nots) (s := s)
  rw [if_neg (by decide)] at hEq0
  generalize hrr : pP B n key f 0 3 par nots s = r0 at t1 f1 g1 g2 g3 g4 g5 g6 hEq0 ⊢
  refine x_if_ne G d_M_test_5 (fun c5 => ?_) (fun c5 => ?_)
  · replace c5 := bI_n0.mp c5
    have t1 := t1 c5
    have hloop : ∀ (fl : Nat) (s1 : PS) (σ2 : Sg) (o2 : Option Value), fl ≤ f → need n 1 2 s1 ≤ fl → MdC B n la S s1 par nots σ2 → TkOk B n s1.tk → s1.out.length ≤ s1.tk.st → OutR σ σ2 → pP B n key (f + 1) 0 2 par nots s = pP B n key fl 1 2 par nots s1 → X κ NC 10 [some (.ref 113), some (.int (nI key)), o2] [] (hv σ2) := by
      intro fl
      induction fl with
      | zero => intro s1 σ2 o2 h1 h2; rw [need_lo] at h2; omega
      | succ fl ih =>
        intro s1 σ2 o2 hfl hnd1 t2 ht1 hol1 q2 hEq
        rw [need_lo] at hnd1
        rw [pP_lo] at hEq
        have hst1 := ht1.1
        refine x_aload0 G d_M_test_10 ?_
        refine x_bipush (v := nI 60) G d_M_test_11 rfl ?_
        refine m_callV_pi (p_M_isSign (kg κ) (d - 1) (by omega) σ2 B n _ t2.2.1 ht1 60 (by decide)) G d_M_test_13 lk_M_258 rfl ⟨by decide, rfl⟩ (by decide) (by omega) rfl (Nat.le_of_ble_eq_true rfl) hx ?_
        refine x_if_ne G d_M_test_16 (fun c16 => ?_) (fun c16 => ?_)
        · replace c16 := bI_n0.mp c16
          have hz16 := of_decide_eq_true c16
          have hlv : lvN s1.tk.sg = 2 := lv_2.mpr (by omega)
          have hsl : s1.tk.sg < 256 := by omega
          rw [if_pos ⟨hlv, by decide⟩] at hEq
          refine x_aload0 G d_M_test_37 ?_
          refine m_geti G d_M_test_38 fl_M_236 rfl (by decide) rfl ?_
          rw [t2.2.1.2.2.2.2.2 hsl]
          refine x_istore2 G d_M_test_41 rfl hk ?_
          refine x_aload0 G d_M_test_42 ?_
          refine m_callV_pv (p_M_nextToken (kg κ) (d - 1) (by omega) σ2 B n hn96 hB t2.1 _ _ ht1.2.1 t2.2.1.2.1 t2.2.1.2.2.1) G d_M_test_43 lk_M_261 rfl ⟨by decide, rfl⟩ (by decide) (by omega) rfl (Nat.le_of_ble_eq_true rfl) hx (fun σ3 a3 => ?_)
          obtain ⟨t3, o3⟩ := t2.adv ht1 (okT_s hsl) a3
          have ht3 : TkOk B n (adP B n s1).tk := (adv_ok hB ht1).1
          have hlt3 : s1.tk.st < (adP B n s1).tk.st := adv_lt hB ht1 (by omega)
          have hol3 : (adP B n s1).out.length = s1.out.length := rfl
          obtain ⟨g1, g2, g3, g4, g5, g6⟩ := pP_fair hB key fl 0 (by decide) 3 par nots (adP B n s1) ht3
          refine x_aload0 G d_M_test_46 ?_
          refine x_iload1 G d_M_test_47 ?_
          refine m_callV_pn (IHe fl (by omega) (kg κ) (d - 1) σ3 par nots (adP B n s1) (by omega) hpar hnots (by rw [need_ex]; omega) t3 ht3 (by omega)) G d_M_test_48 lk_M_271 rfl ⟨by decide, rfl⟩ (by decide) (by omega) rfl (Nat.le_of_ble_eq_true rfl) hx (fun σ4 h4 => ?_)
          obtain ⟨t4, f4, o4⟩ := h4
          generalize hrr : pP B n key fl 0 3 par nots (adP B n s1) = r at t4 f4 g1 g2 g3 g4 g5 g6 hEq ⊢
          have hg1 := g1.1
          refine x_if_ne G d_M_test_51 (fun c51 => ?_) (fun c51 => ?_)
          · replace c51 := bI_n0.mp c51
            have t4 := t4 c51
            rw [if_pos c51] at hEq
            rw [if_pos rfl] at hEq
            refine x_aload0 G d_M_test_56 ?_
            refine x_iconst (v := nI 2) G d_M_test_57 rfl ?_
            refine x_iload2 G d_M_test_58 ?_
            refine m_callV_pv (p_M_step (kg κ) (d - 1) (by omega) σ4 la _ t4.2.2.2.2.2.1 t4.2.2.2.2.1 (by have := g1.1; omega) _ _) G d_M_test_59 lk_M_264 rfl ⟨by decide, rfl⟩ (by decide) (by omega) rfl (Nat.le_of_ble_eq_true rfl) hx (fun σ5 h5 => ?_)
            obtain ⟨t5, o5⟩ := t4.emit (σ1 := σ5) (a := 2) (v := s1.tk.sg) h5
            refine x_iconst (v := nI 1) G d_M_test_62 rfl ?_
            exact m_iret E G d_M_test_63 hx rfl rfl ⟨by rw [hEq]; rfl, by rw [hEq]; exact ⟨fun _ => t5, t5.fa, ((q2.trans o3).trans o4).trans o5⟩⟩
          · replace c51 := bI_0.mp c51
            rw [if_neg (by rw [c51]; decide)] at hEq
            refine x_iconst (v := nI 0) G d_M_test_54 rfl ?_
            exact m_iret E G d_M_test_55 hx rfl rfl ⟨by rw [hEq, c51]; rfl, by rw [hEq]; exact ⟨fun z => absurd (z.symm.trans c51) (by decide), f4, (q2.trans o3).trans o4⟩⟩
        · replace c16 := bI_0.mp c16
          have hz16 := of_decide_eq_false c16
          refine x_aload0 G d_M_test_19 ?_
          refine x_bipush (v := nI 61) G d_M_test_20 rfl ?_
          refine m_callV_pi (p_M_isSign (kg κ) (d - 1) (by omega) σ2 B n _ t2.2.1 ht1 61 (by decide)) G d_M_test_22 lk_M_258 rfl ⟨by decide, rfl⟩ (by decide) (by omega) rfl (Nat.le_of_ble_eq_true rfl) hx ?_
          refine x_if_ne G d_M_test_25 (fun c25 => ?_) (fun c25 => ?_)
          · replace c25 := bI_n0.mp c25
            have hz25 := of_decide_eq_true c25
            have hlv : lvN s1.tk.sg = 2 := lv_2.mpr (by omega)
            have hsl : s1.tk.sg < 256 := by omega
            rw [if_pos ⟨hlv, by decide⟩] at hEq
            refine x_aload0 G d_M_test_37 ?_
            refine m_geti G d_M_test_38 fl_M_236 rfl (by decide) rfl ?_
            rw [t2.2.1.2.2.2.2.2 hsl]
            refine x_istore2 G d_M_test_41 rfl hk ?_
            refine x_aload0 G d_M_test_42 ?_
            refine m_callV_pv (p_M_nextToken (kg κ) (d - 1) (by omega) σ2 B n hn96 hB t2.1 _ _ ht1.2.1 t2.2.1.2.1 t2.2.1.2.2.1) G d_M_test_43 lk_M_261 rfl ⟨by decide, rfl⟩ (by decide) (by omega) rfl (Nat.le_of_ble_eq_true rfl) hx (fun σ3 a3 => ?_)
            obtain ⟨t3, o3⟩ := t2.adv ht1 (okT_s hsl) a3
            have ht3 : TkOk B n (adP B n s1).tk := (adv_ok hB ht1).1
            have hlt3 : s1.tk.st < (adP B n s1).tk.st := adv_lt hB ht1 (by omega)
            have hol3 : (adP B n s1).out.length = s1.out.length := rfl
            obtain ⟨g1, g2, g3, g4, g5, g6⟩ := pP_fair hB key fl 0 (by decide) 3 par nots (adP B n s1) ht3
            refine x_aload0 G d_M_test_46 ?_
            refine x_iload1 G d_M_test_47 ?_
            refine m_callV_pn (IHe fl (by omega) (kg κ) (d - 1) σ3 par nots (adP B n s1) (by omega) hpar hnots (by rw [need_ex]; omega) t3 ht3 (by omega)) G d_M_test_48 lk_M_271 rfl ⟨by decide, rfl⟩ (by decide) (by omega) rfl (Nat.le_of_ble_eq_true rfl) hx (fun σ4 h4 => ?_)
            obtain ⟨t4, f4, o4⟩ := h4
            generalize hrr : pP B n key fl 0 3 par nots (adP B n s1) = r at t4 f4 g1 g2 g3 g4 g5 g6 hEq ⊢
            have hg1 := g1.1
            refine x_if_ne G d_M_test_51 (fun c51 => ?_) (fun c51 => ?_)
            · replace c51 := bI_n0.mp c51
              have t4 := t4 c51
              rw [if_pos c51] at hEq
              rw [if_pos rfl] at hEq
              refine x_aload0 G d_M_test_56 ?_
              refine x_iconst (v := nI 2) G d_M_test_57 rfl ?_
              refine x_iload2 G d_M_test_58 ?_
              refine m_callV_pv (p_M_step (kg κ) (d - 1) (by omega) σ4 la _ t4.2.2.2.2.2.1 t4.2.2.2.2.1 (by have := g1.1; omega) _ _) G d_M_test_59 lk_M_264 rfl ⟨by decide, rfl⟩ (by decide) (by omega) rfl (Nat.le_of_ble_eq_true rfl) hx (fun σ5 h5 => ?_)
              obtain ⟨t5, o5⟩ := t4.emit (σ1 := σ5) (a := 2) (v := s1.tk.sg) h5
              refine x_iconst (v := nI 1) G d_M_test_62 rfl ?_
              exact m_iret E G d_M_test_63 hx rfl rfl ⟨by rw [hEq]; rfl, by rw [hEq]; exact ⟨fun _ => t5, t5.fa, ((q2.trans o3).trans o4).trans o5⟩⟩
            · replace c51 := bI_0.mp c51
              rw [if_neg (by rw [c51]; decide)] at hEq
              refine x_iconst (v := nI 0) G d_M_test_54 rfl ?_
              exact m_iret E G d_M_test_55 hx rfl rfl ⟨by rw [hEq, c51]; rfl, by rw [hEq]; exact ⟨fun z => absurd (z.symm.trans c51) (by decide), f4, (q2.trans o3).trans o4⟩⟩
          · replace c25 := bI_0.mp c25
            have hz25 := of_decide_eq_false c25
            refine x_aload0 G d_M_test_28 ?_
            refine x_bipush (v := nI 62) G d_M_test_29 rfl ?_
            refine m_callV_pi (p_M_isSign (kg κ) (d - 1) (by omega) σ2 B n _ t2.2.1 ht1 62 (by decide)) G d_M_test_31 lk_M_258 rfl ⟨by decide, rfl⟩ (by decide) (by omega) rfl (Nat.le_of_ble_eq_true rfl) hx ?_
            refine x_if_eq G d_M_test_34 (fun c34 => ?_) (fun c34 => ?_)
            · replace c34 := bI_0.mp c34
              have hz34 := of_decide_eq_false c34
              have hlv : ¬ lvN s1.tk.sg = 2 := fun z => by
                have q := lv_2.mp z
                omega
              rw [if_neg (fun z => hlv z.1)] at hEq
              refine x_iconst (v := nI 1) G d_M_test_62 rfl ?_
              exact m_iret E G d_M_test_63 hx rfl rfl ⟨by rw [hEq]; rfl, by rw [hEq]; exact ⟨fun _ => t2, t2.fa, q2⟩⟩
            · replace c34 := bI_n0.mp c34
              have hz34 := of_decide_eq_true c34
              have hlv : lvN s1.tk.sg = 2 := lv_2.mpr (by omega)
              have hsl : s1.tk.sg < 256 := by omega
              rw [if_pos ⟨hlv, by decide⟩] at hEq
              refine x_aload0 G d_M_test_37 ?_
              refine m_geti G d_M_test_38 fl_M_236 rfl (by decide) rfl ?_
              rw [t2.2.1.2.2.2.2.2 hsl]
              refine x_istore2 G d_M_test_41 rfl hk ?_
              refine x_aload0 G d_M_test_42 ?_
              refine m_callV_pv (p_M_nextToken (kg κ) (d - 1) (by omega) σ2 B n hn96 hB t2.1 _ _ ht1.2.1 t2.2.1.2.1 t2.2.1.2.2.1) G d_M_test_43 lk_M_261 rfl ⟨by decide, rfl⟩ (by decide) (by omega) rfl (Nat.le_of_ble_eq_true rfl) hx (fun σ3 a3 => ?_)
              obtain ⟨t3, o3⟩ := t2.adv ht1 (okT_s hsl) a3
              have ht3 : TkOk B n (adP B n s1).tk := (adv_ok hB ht1).1
              have hlt3 : s1.tk.st < (adP B n s1).tk.st := adv_lt hB ht1 (by omega)
              have hol3 : (adP B n s1).out.length = s1.out.length := rfl
              obtain ⟨g1, g2, g3, g4, g5, g6⟩ := pP_fair hB key fl 0 (by decide) 3 par nots (adP B n s1) ht3
              refine x_aload0 G d_M_test_46 ?_
              refine x_iload1 G d_M_test_47 ?_
              refine m_callV_pn (IHe fl (by omega) (kg κ) (d - 1) σ3 par nots (adP B n s1) (by omega) hpar hnots (by rw [need_ex]; omega) t3 ht3 (by omega)) G d_M_test_48 lk_M_271 rfl ⟨by decide, rfl⟩ (by decide) (by omega) rfl (Nat.le_of_ble_eq_true rfl) hx (fun σ4 h4 => ?_)
              obtain ⟨t4, f4, o4⟩ := h4
              generalize hrr : pP B n key fl 0 3 par nots (adP B n s1) = r at t4 f4 g1 g2 g3 g4 g5 g6 hEq ⊢
              have hg1 := g1.1
              refine x_if_ne G d_M_test_51 (fun c51 => ?_) (fun c51 => ?_)
              · replace c51 := bI_n0.mp c51
                have t4 := t4 c51
                rw [if_pos c51] at hEq
                rw [if_pos rfl] at hEq
                refine x_aload0 G d_M_test_56 ?_
                refine x_iconst (v := nI 2) G d_M_test_57 rfl ?_
                refine x_iload2 G d_M_test_58 ?_
                refine m_callV_pv (p_M_step (kg κ) (d - 1) (by omega) σ4 la _ t4.2.2.2.2.2.1 t4.2.2.2.2.1 (by have := g1.1; omega) _ _) G d_M_test_59 lk_M_264 rfl ⟨by decide, rfl⟩ (by decide) (by omega) rfl (Nat.le_of_ble_eq_true rfl) hx (fun σ5 h5 => ?_)
                obtain ⟨t5, o5⟩ := t4.emit (σ1 := σ5) (a := 2) (v := s1.tk.sg) h5
                refine x_iconst (v := nI 1) G d_M_test_62 rfl ?_
                exact m_iret E G d_M_test_63 hx rfl rfl ⟨by rw [hEq]; rfl, by rw [hEq]; exact ⟨fun _ => t5, t5.fa, ((q2.trans o3).trans o4).trans o5⟩⟩
              · replace c51 := bI_0.mp c51
                rw [if_neg (by rw [c51]; decide)] at hEq
                refine x_iconst (v := nI 0) G d_M_test_54 rfl ?_
                exact m_iret E G d_M_test_55 hx rfl rfl ⟨by rw [hEq, c51]; rfl, by rw [hEq]; exact ⟨fun z => absurd (z.symm.trans c51) (by decide), f4, (q2.trans o3).trans o4⟩⟩
    exact hloop f r0.2 σ1 none (Nat.le_refl _) (by rw [need_lo]; rw [need_ex] at hnd; have := g6 c5 (by decide); have := g1.1; omega) t1 g1 (by omega) o1 (by rw [hEq0, if_pos c5])
  · replace c5 := bI_0.mp c5
    refine x_iconst (v := nI 0) G d_M_test_8 rfl ?_
    exact m_iret E G d_M_test_9 hx rfl rfl ⟨by rw [hEq0, if_neg (by rw [c5]; decide), c5]; rfl, by rw [hEq0, if_neg (by rw [c5]; decide)]; exact ⟨fun z => absurd (z.symm.trans c5) (by decide), f1, o1⟩⟩
theorem p_M_both (g : CX) (d : Nat) (hd : 8 ≤ d) (σ : Sg) (B : Nat → Nat) (n : Nat) (hn96 : n ≤ 96) (hB : ∀ i, i < n → B i < 256) (la : Nat) (S : Rw) (key : Nat) (s : PS) (par nots : Nat) (hC : MdC B n la S s par nots σ) (ht : TkOk B n s.tk) (f : Nat) (IHe : ∀ f', f' ≤ f → PlM B n la S key M_test 2 f') (hk3 : key < 3) (hla9 : la + 200 ≤ 3090) (hpar : par ≤ 8) (hnots : nots ≤ 8) (hol0 : s.out.length ≤ s.tk.st) (hnd : need n 0 1 s ≤ f + 1) (hdd : dep par nots + 7 - 1 ≤ d) : RunM g d M_both [.ref 113, .int (nI key)] σ (RdM B n la S (pP B n key (f + 1) 0 1 par nots s) par nots σ) := by
  refine RunM.of 0 (by decide +kernel) rfl ?_
  intro κ hg hx hk0 G E
  subst hg
  have hk : 2 ≤ kn κ := Nat.le_of_eq hk0.symm
  show X κ NC 0 [some (.ref 113), some (.int (nI key))] [] (hv σ)
  have hst := ht.1
  refine x_aload0 G d_M_both_0 ?_
  refine x_iload1 G d_M_both_1 ?_
  refine m_callV_pn (IHe f (Nat.le_refl _) (kg κ) (d - 1) σ par nots s (by omega) hpar hnots (by rw [need_ex] at hnd ⊢; omega) hC ht hol0) G d_M_both_2 lk_M_268 rfl ⟨by decide, rfl⟩ (by decide) (by omega) rfl (Nat.le_of_ble_eq_true rfl) hx (fun σ1 h1 => ?_)
  obtain ⟨t1, f1, o1⟩ := h1
  obtain ⟨g1, g2, g3, g4, g5, g6⟩ := pP_fair hB key f 0 (by decide) 2 par nots s ht
  have hEq0 := pP_ex (B := B) (n := n) (key := key) (f := f) (lv := 1) (par := par) (nots := nots) (s := s)
  rw [if_neg (by decide)] at hEq0
  generalize hrr : pP B n key f 0 2 par nots s = r0 at t1 f1 g1 g2 g3 g4 g5 g6 hEq0 ⊢
  refine x_if_ne G d_M_both_5 (fun c5 => ?_) (fun c5 => ?_)
  · replace c5 := bI_n0.mp c5
    have t1 := t1 c5
    have hloop : ∀ (fl : Nat) (s1 : PS) (σ2 : Sg), fl ≤ f → need n 1 1 s1 ≤ fl → MdC B n la S s1 par nots σ2 → TkOk B n s1.tk → s1.out.length ≤ s1.tk.st → OutR σ σ2 → pP B n key (f + 1) 0 1 par nots s = pP B n key fl 1 1 par nots s1 → X κ NC 10 [some (.ref 113), some (.int (nI key))] [] (hv σ2) := by
      intro fl
      induction fl with
      | zero => intro s1 σ2 h1 h2; rw [need_lo] at h2; omega
      | succ fl ih =>
        intro s1 σ2 hfl hnd1 t2 ht1 hol1 q2 hEq
        rw [need_lo] at hnd1
        rw [pP_lo] at hEq
        have hst1 := ht1.1
        refine x_aload0 G d_M_both_10 ?_
        refine x_bipush (v := nI 38) G d_M_both_11 rfl ?_
        refine m_callV_pi (p_M_isSign (kg κ) (d - 1) (by omega) σ2 B n _ t2.2.1 ht1 38 (by decide)) G d_M_both_13 lk_M_258 rfl ⟨by decide, rfl⟩ (by decide) (by omega) rfl (Nat.le_of_ble_eq_true rfl) hx ?_
        refine x_if_eq G d_M_both_16 (fun c16 => ?_) (fun c16 => ?_)
        · replace c16 := bI_0.mp c16
          have hz16 := of_decide_eq_false c16
          have hlv : ¬ lvN s1.tk.sg = 1 := fun z => by
            have q := lv_1.mp z
            omega
          rw [if_neg (fun z => hlv z.1)] at hEq
          refine x_iconst (v := nI 1) G d_M_both_43 rfl ?_
          exact m_iret E G d_M_both_44 hx rfl rfl ⟨by rw [hEq]; rfl, by rw [hEq]; exact ⟨fun _ => t2, t2.fa, q2⟩⟩
        · replace c16 := bI_n0.mp c16
          have hz16 := of_decide_eq_true c16
          have hlv : lvN s1.tk.sg = 1 := lv_1.mpr (by omega)
          have hsl : s1.tk.sg < 256 := by omega
          rw [if_pos ⟨hlv, by decide⟩] at hEq
          refine x_aload0 G d_M_both_19 ?_
          refine m_callV_pv (p_M_nextToken (kg κ) (d - 1) (by omega) σ2 B n hn96 hB t2.1 _ _ ht1.2.1 t2.2.1.2.1 t2.2.1.2.2.1) G d_M_both_20 lk_M_261 rfl ⟨by decide, rfl⟩ (by decide) (by omega) rfl (Nat.le_of_ble_eq_true rfl) hx (fun σ3 a3 => ?_)
          obtain ⟨t3, o3⟩ := t2.adv ht1 (okT_s hsl) a3
          have ht3 : TkOk B n (adP B n s1).tk := (adv_ok hB ht1).1
          have hlt3 : s1.tk.st < (adP B n s1).tk.st := adv_lt hB ht1 (by omega)
          have hol3 : (adP B n s1).out.length = s1.out.length := rfl
          obtain ⟨g1, g2, g3, g4, g5, g6⟩ := pP_fair hB key fl 0 (by decide) 2 par nots (adP B n s1) ht3
          refine x_aload0 G d_M_both_23 ?_
          refine x_iload1 G d_M_both_24 ?_
          refine m_callV_pn (IHe fl (by omega) (kg κ) (d - 1) σ3 par nots (adP B n s1) (by omega) hpar hnots (by rw [need_ex]; omega) t3 ht3 (by omega)) G d_M_both_25 lk_M_268 rfl ⟨by decide, rfl⟩ (by decide) (by omega) rfl (Nat.le_of_ble_eq_true rfl) hx (fun σ4 h4 => ?_)
          obtain ⟨t4, f4, o4⟩ := h4
          generalize hrr : pP B n key fl 0 2 par nots (adP B n s1) = r at t4 f4 g1 g2 g3 g4 g5 g6 hEq ⊢
          have hg1 := g1.1
          refine x_if_ne G d_M_both_28 (fun c28 => ?_) (fun c28 => ?_)
          · replace c28 := bI_n0.mp c28
            have t4 := t4 c28
            rw [if_pos c28] at hEq
            rw [if_neg (by decide)] at hEq
            refine x_aload0 G d_M_both_33 ?_
            refine x_iconst (v := nI 2) G d_M_both_34 rfl ?_
            refine x_bipush (v := nI 38) G d_M_both_35 rfl ?_
            refine m_callV_pv (p_M_step (kg κ) (d - 1) (by omega) σ4 la _ t4.2.2.2.2.2.1 t4.2.2.2.2.1 (by have := g1.1; omega) _ _) G d_M_both_37 lk_M_264 rfl ⟨by decide, rfl⟩ (by decide) (by omega) rfl (Nat.le_of_ble_eq_true rfl) hx (fun σ5 h5 => ?_)
            obtain ⟨t5, o5⟩ := t4.emit (σ1 := σ5) (a := 2) (v := s1.tk.sg) (by rw [hz16]; exact h5)
            refine x_goto G d_M_both_40 ?_
            exact ih (emP r.2 2 s1.tk.sg) σ5 (by omega) (by rw [need_lo]; show 24 * (n - r.2.tk.st) + 22 ≤ fl; omega) t5 g1 (by rw [emP_len]; show r.2.out.length + 1 ≤ r.2.tk.st; omega) (((q2.trans o3).trans o4).trans o5) hEq
          · replace c28 := bI_0.mp c28
            rw [if_neg (by rw [c28]; decide)] at hEq
            refine x_iconst (v := nI 0) G d_M_both_31 rfl ?_
            exact m_iret E G d_M_both_32 hx rfl rfl ⟨by rw [hEq, c28]; rfl, by rw [hEq]; exact ⟨fun z => absurd (z.symm.trans c28) (by decide), f4, (q2.trans o3).trans o4⟩⟩
    exact hloop f r0.2 σ1 (Nat.le_refl _) (by rw [need_lo]; rw [need_ex] at hnd; have := g6 c5 (by decide); have := g1.1; omega) t1 g1 (by omega) o1 (by rw [hEq0, if_pos c5])
  · replace c5 := bI_0.mp c5
    refine x_iconst (v := nI 0) G d_M_both_8 rfl ?_
    exact m_iret E G d_M_both_9 hx rfl rfl ⟨by rw [hEq0, if_neg (by rw [c5]; decide), c5]; rfl, by rw [hEq0, if_neg (by rw [c5]; decide)]; exact ⟨fun z => absurd (z.symm.trans c5) (by decide), f1, o1⟩⟩
theorem p_M_either (g : CX) (d : Nat) (hd : 8 ≤ d) (σ : Sg) (B : Nat → Nat) (n : Nat) (hn96 : n ≤ 96) (hB : ∀ i, i < n → B i < 256) (la : Nat) (S : Rw) (key : Nat) (s : PS) (par nots : Nat) (hC : MdC B n la S s par nots σ) (ht : TkOk B n s.tk) (f : Nat) (IHe : ∀ f', f' ≤ f → PlM B n la S key M_both 1 f') (hk3 : key < 3) (hla9 : la + 200 ≤ 3090) (hpar : par ≤ 8) (hnots : nots ≤ 8) (hol0 : s.out.length ≤ s.tk.st) (hnd : need n 0 0 s ≤ f + 1) (hdd : dep par nots + 7 - 0 ≤ d) : RunM g d M_either [.ref 113, .int (nI key)] σ (RdM B n la S (pP B n key (f + 1) 0 0 par nots s) par nots σ) := by
  refine RunM.of 0 (by decide +kernel) rfl ?_
  intro κ hg hx hk0 G E
  subst hg
  have hk : 2 ≤ kn κ := Nat.le_of_eq hk0.symm
  show X κ NC 0 [some (.ref 113), some (.int (nI key))] [] (hv σ)
  have hst := ht.1
  refine x_aload0 G d_M_either_0 ?_
  refine x_iload1 G d_M_either_1 ?_
  refine m_callV_pn (IHe f (Nat.le_refl _) (kg κ) (d - 1) σ par nots s (by omega) hpar hnots (by rw [need_ex] at hnd ⊢; omega) hC ht hol0) G d_M_either_2 lk_M_255 rfl ⟨by decide, rfl⟩ (by decide) (by omega) rfl (Nat.le_of_ble_eq_true rfl) hx (fun σ1 h1 => ?_)
  obtain ⟨t1, f1, o1⟩ := h1
  obtain ⟨g1, g2, g3, g4, g5, g6⟩ := pP_fair hB key f 0 (by decide) 1 par nots s ht
  have hEq0 := pP_ex (B := B) (n := n) (key := key) (f := f) (lv := 0) (par := par) (nots := nots) (s := s)
  rw [if_neg (by decide)] at hEq0
  generalize hrr : pP B n key f 0 1 par nots s = r0 at t1 f1 g1 g2 g3 g4 g5 g6 hEq0 ⊢
  refine x_if_ne G d_M_either_5 (fun c5 => ?_) (fun c5 => ?_)
  · replace c5 := bI_n0.mp c5
    have t1 := t1 c5
    have hloop : ∀ (fl : Nat) (s1 : PS) (σ2 : Sg), fl ≤ f → need n 1 0 s1 ≤ fl → MdC B n la S s1 par nots σ2 → TkOk B n s1.tk → s1.out.length ≤ s1.tk.st → OutR σ σ2 → pP B n key (f + 1) 0 0 par nots s = pP B n key fl 1 0 par nots s1 → X κ NC 10 [some (.ref 113), some (.int (nI key))] [] (hv σ2) := by
      intro fl
      induction fl with
      | zero => intro s1 σ2 h1 h2; rw [need_lo] at h2; omega
      | succ fl ih =>
        intro s1 σ2 hfl hnd1 t2 ht1 hol1 q2 hEq
        rw [need_lo] at hnd1
        rw [pP_lo] at hEq
        have hst1 := ht1.1
        refine x_aload0 G d_M_either_10 ?_
        refine x_bipush (v := nI 124) G d_M_either_11 rfl ?_
        refine m_callV_pi (p_M_isSign (kg κ) (d - 1) (by omega) σ2 B n _ t2.2.1 ht1 124 (by decide)) G d_M_either_13 lk_M_258 rfl ⟨by decide, rfl⟩ (by decide) (by omega) rfl (Nat.le_of_ble_eq_true rfl) hx ?_
        refine x_if_eq G d_M_either_16 (fun c16 => ?_) (fun c16 => ?_)
        · replace c16 := bI_0.mp c16
          have hz16 := of_decide_eq_false c16
          have hlv : ¬ lvN s1.tk.sg = 0 := fun z => by
            have q := lv_0.mp z
            omega
          rw [if_neg (fun z => hlv z.1)] at hEq
          refine x_iconst (v := nI 1) G d_M_either_43 rfl ?_
          exact m_iret E G d_M_either_44 hx rfl rfl ⟨by rw [hEq]; rfl, by rw [hEq]; exact ⟨fun _ => t2, t2.fa, q2⟩⟩
        · replace c16 := bI_n0.mp c16
          have hz16 := of_decide_eq_true c16
          have hlv : lvN s1.tk.sg = 0 := lv_0.mpr (by omega)
          have hsl : s1.tk.sg < 256 := by omega
          rw [if_pos ⟨hlv, by decide⟩] at hEq
          refine x_aload0 G d_M_either_19 ?_
          refine m_callV_pv (p_M_nextToken (kg κ) (d - 1) (by omega) σ2 B n hn96 hB t2.1 _ _ ht1.2.1 t2.2.1.2.1 t2.2.1.2.2.1) G d_M_either_20 lk_M_261 rfl ⟨by decide, rfl⟩ (by decide) (by omega) rfl (Nat.le_of_ble_eq_true rfl) hx (fun σ3 a3 => ?_)
          obtain ⟨t3, o3⟩ := t2.adv ht1 (okT_s hsl) a3
          have ht3 : TkOk B n (adP B n s1).tk := (adv_ok hB ht1).1
          have hlt3 : s1.tk.st < (adP B n s1).tk.st := adv_lt hB ht1 (by omega)
          have hol3 : (adP B n s1).out.length = s1.out.length := rfl
          obtain ⟨g1, g2, g3, g4, g5, g6⟩ := pP_fair hB key fl 0 (by decide) 1 par nots (adP B n s1) ht3
          refine x_aload0 G d_M_either_23 ?_
          refine x_iload1 G d_M_either_24 ?_
          refine m_callV_pn (IHe fl (by omega) (kg κ) (d - 1) σ3 par nots (adP B n s1) (by omega) hpar hnots (by rw [need_ex]; omega) t3 ht3 (by omega)) G d_M_either_25 lk_M_255 rfl ⟨by decide, rfl⟩ (by decide) (by omega) rfl (Nat.le_of_ble_eq_true rfl) hx (fun σ4 h4 => ?_)
          obtain ⟨t4, f4, o4⟩ := h4
          generalize hrr : pP B n key fl 0 1 par nots (adP B n s1) = r at t4 f4 g1 g2 g3 g4 g5 g6 hEq ⊢
          have hg1 := g1.1
          refine x_if_ne G d_M_either_28 (fun c28 => ?_) (fun c28 => ?_)
          · replace c28 := bI_n0.mp c28
            have t4 := t4 c28
            rw [if_pos c28] at hEq
            rw [if_neg (by decide)] at hEq
            refine x_aload0 G d_M_either_33 ?_
            refine x_iconst (v := nI 2) G d_M_either_34 rfl ?_
            refine x_bipush (v := nI 124) G d_M_either_35 rfl ?_
            refine m_callV_pv (p_M_step (kg κ) (d - 1) (by omega) σ4 la _ t4.2.2.2.2.2.1 t4.2.2.2.2.1 (by have := g1.1; omega) _ _) G d_M_either_37 lk_M_264 rfl ⟨by decide, rfl⟩ (by decide) (by omega) rfl (Nat.le_of_ble_eq_true rfl) hx (fun σ5 h5 => ?_)
            obtain ⟨t5, o5⟩ := t4.emit (σ1 := σ5) (a := 2) (v := s1.tk.sg) (by rw [hz16]; exact h5)
            refine x_goto G d_M_either_40 ?_
            exact ih (emP r.2 2 s1.tk.sg) σ5 (by omega) (by rw [need_lo]; show 24 * (n - r.2.tk.st) + 22 ≤ fl; omega) t5 g1 (by rw [emP_len]; show r.2.out.length + 1 ≤ r.2.tk.st; omega) (((q2.trans o3).trans o4).trans o5) hEq
          · replace c28 := bI_0.mp c28
            rw [if_neg (by rw [c28]; decide)] at hEq
            refine x_iconst (v := nI 0) G d_M_either_31 rfl ?_
            exact m_iret E G d_M_either_32 hx rfl rfl ⟨by rw [hEq, c28]; rfl, by rw [hEq]; exact ⟨fun z => absurd (z.symm.trans c28) (by decide), f4, (q2.trans o3).trans o4⟩⟩
    exact hloop f r0.2 σ1 (Nat.le_refl _) (by rw [need_lo]; rw [need_ex] at hnd; have := g6 c5 (by decide); have := g1.1; omega) t1 g1 (by omega) o1 (by rw [hEq0, if_pos c5])
  · replace c5 := bI_0.mp c5
    refine x_iconst (v := nI 0) G d_M_either_8 rfl ?_
    exact m_iret E G d_M_either_9 hx rfl rfl ⟨by rw [hEq0, if_neg (by rw [c5]; decide), c5]; rfl, by rw [hEq0, if_neg (by rw [c5]; decide)]; exact ⟨fun z => absurd (z.symm.trans c5) (by decide), f1, o1⟩⟩
theorem PlM.of {B : Nat → Nat} {n la key lv : Nat} {S : Rw} {μ ν : MD} (hp : ∀ (g : CX) (d : Nat) (σ : Sg) (par nots : Nat) (s : PS) (f : Nat), 8 ≤ d → (∀ f', f' ≤ f → PlM B n la S key ν (lv + 1) f') → par ≤ 8 → nots ≤ 8 → MdC B n la S s par nots σ → TkOk B n s.tk → s.out.length ≤ s.tk.st → need n 0 lv s ≤ f + 1 → dep par nots + 7 - lv ≤ d → RunM g d μ [.ref 113, .int (nI key)] σ (RdM B n la S (pP B n key (f + 1) 0 lv par nots s) par nots σ)) (hlv : lv ≤ 4) (f : Nat) (ih : ∀ f', f' < f → PlM B n la S key ν (lv + 1) f') : PlM B n la S key μ lv f := by
  intro g d σ par nots s h1 h2 h3 h4 h5 h6 h7
  cases f with
  | zero => rw [need_ex] at h4; omega
  | succ f => exact hp g d σ par nots s f (by have := dep_le par nots; omega) (fun f' hf => ih f' (by omega)) h2 h3 h5 h6 h7 h4 h1
theorem M_all {B : Nat → Nat} {n la key : Nat} {S : Rw} (hn96 : n ≤ 96) (hB : ∀ i, i < n → B i < 256) (hk3 : key < 3) (hla9 : la + 200 ≤ 3090) (f : Nat) : PlM B n la S key M_either 0 f ∧ PlM B n la S key M_both 1 f ∧ PlM B n la S key M_test 2 f ∧ PlM B n la S key M_sum 3 f ∧ PlM B n la S key M_term 4 f ∧ PlM B n la S key M_part0 5 f ∧ PpM B n la S key f := by
  induction f using Nat.strongRecOn with
  | ind f ih =>
    have h5 : PlM B n la S key M_part0 5 f := by
      cases f with
      | zero => intro g d σ par nots s h1 h2 h3 h4; rw [need_ex] at h4; omega
      | succ f => exact (ih f (by omega)).2.2.2.2.2.2.ex
    refine ⟨?_, ?_, ?_, ?_, ?_, h5, ?_⟩
    · exact PlM.of (fun g d σ par nots s f' q1 q2 q3 q4 q5 q6 q7 q8 q9 => p_M_either g d q1 σ B n hn96 hB la S key s par nots q5 q6 f' q2 hk3 hla9 q3 q4 q7 q8 q9) (by decide) f (fun f' hf => (ih f' hf).2.1)
    · exact PlM.of (fun g d σ par nots s f' q1 q2 q3 q4 q5 q6 q7 q8 q9 => p_M_both g d q1 σ B n hn96 hB la S key s par nots q5 q6 f' q2 hk3 hla9 q3 q4 q7 q8 q9) (by decide) f (fun f' hf => (ih f' hf).2.2.1)
    · exact PlM.of (fun g d σ par nots s f' q1 q2 q3 q4 q5 q6 q7 q8 q9 => p_M_test g d q1 σ B n hn96 hB la S key s par nots q5 q6 f' q2 hk3 hla9 q3 q4 q7 q8 q9) (by decide) f (fun f' hf => (ih f' hf).2.2.2.1)
    · exact PlM.of (fun g d σ par nots s f' q1 q2 q3 q4 q5 q6 q7 q8 q9 => p_M_sum g d q1 σ B n hn96 hB la S key s par nots q5 q6 f' q2 hk3 hla9 q3 q4 q7 q8 q9) (by decide) f (fun f' hf => (ih f' hf).2.2.2.2.1)
    · exact PlM.of (fun g d σ par nots s f' q1 q2 q3 q4 q5 q6 q7 q8 q9 => p_M_term g d q1 σ B n hn96 hB la S key s par nots q5 q6 f' q2 hk3 hla9 q3 q4 q7 q8 q9) (by decide) f (fun f' hf => (ih f' hf).2.2.2.2.2.1)
    · intro g d σ par nots s h1 h2 h3 h4 h6 h7 h8
      rw [need_pc] at h4
      cases f with
      | zero => omega
      | succ f => exact p_M_part0 g d (by have := dep_le par nots; omega) σ B n hn96 hB la S key s par nots h6 h7 f (ih f (by omega)).2.2.2.2.2.2 (ih f (by omega)).1 hk3 hla9 h2 h3 h8 (by omega) h1
