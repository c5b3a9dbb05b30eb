/-! THE MODEL'S WORDS AND SIGNS -/
def ByM (B : Nat → Nat) (n : Nat) (σ : Sg) : Prop := σ 113 18 = nI n ∧ ∀ i, i < n → σ 129 i = nI (B i)
theorem ByM.frame {B : Nat → Nat} {n : Nat} {σ σ' : Sg} (h : ByM B n σ) (h2 : σ' 113 18 = σ 113 18) (h3 : σ' 129 = σ 129) : ByM B n σ' := ⟨by rw [h2]; exact h.1, fun i hi => by rw [h3]; exact h.2 i hi⟩
/-- the model's token: 0 the end, 1 a word, 2 a number, 3 a sign, 4 wrong -/
def tkI (k : Tk) : Int32 := if k.sg = 258 then nI 0 else if k.sg = 256 then (if k.gl = true then nI 4 else nI 1) else if k.sg = 257 then (if k.gl = true ∨ 4 < k.en - k.st then nI 4 else nI 2) else nI 3
def TkM (B : Nat → Nat) (k : Tk) (σ : Sg) : Prop := σ 113 19 = nI k.st ∧ σ 113 20 = nI k.en ∧ σ 113 21 = tkI k ∧ (k.sg = 256 → σ 113 23 = if k.en - k.st = 1 then nI (B k.st) else 0) ∧ (k.sg = 257 → k.en - k.st ≤ 4 → σ 113 22 = nI (numN B k.st (k.en - k.st))) ∧ (k.sg < 256 → σ 113 23 = nI k.sg)
theorem TkM.frame {B : Nat → Nat} {k : Tk} {σ σ' : Sg} (h : TkM B k σ) (hf : ∀ j, 19 ≤ j → j < 24 → σ' 113 j = σ 113 j) : TkM B k σ' := by
  obtain ⟨a, b, c, d, e, f⟩ := h
  rw [← hf 19 (by decide) (by decide)] at a
  rw [← hf 20 (by decide) (by decide)] at b
  rw [← hf 21 (by decide) (by decide)] at c
  rw [← hf 23 (by decide) (by decide)] at d f
  rw [← hf 22 (by decide) (by decide)] at e
  exact ⟨a, b, c, d, e, f⟩
/-- not a wrong one: a word not glued; a number not glued, of four digits at most -/
def okT (k : Tk) : Prop := isWd k.sg = true → k.gl = false ∧ (k.sg = 257 → k.en - k.st ≤ 4)
def wsB (p : Nat) (tok : Int32) : Bool := decide (0 < p) && (decide (tok = nI 1) || decide (tok = nI 2))
theorem was_eq {B : Nat → Nat} {n : Nat} {k : Tk} (h : TkOk B n k) (ho : okT k) : wsB k.en (tkI k) = isWd k.sg := by
  unfold wsB tkI
  rcases h.2.2 with q | q | q
  · rw [if_pos q.1, q.1]
    have e1 : decide (nI 0 = nI 1) = false := by decide +kernel
    have e2 : decide (nI 0 = nI 2) = false := by decide +kernel
    rw [e1, e2, Bool.or_false, Bool.and_false]
    rfl
  · have s1 : k.sg ≠ 258 := by omega
    have s2 : k.sg ≠ 256 := by omega
    have s3 : k.sg ≠ 257 := by omega
    rw [if_neg s1, if_neg s2, if_neg s3]
    have e1 : decide (nI 3 = nI 1) = false := by decide +kernel
    have e2 : decide (nI 3 = nI 2) = false := by decide +kernel
    rw [e1, e2, Bool.or_false, Bool.and_false]
    unfold isWd
    rw [decide_eq_false s2, decide_eq_false s3]
    rfl
  · have hw : isWd k.sg = true := by unfold isWd; rcases q.1 with z | z <;> rw [z] <;> rfl
    obtain ⟨g1, g2⟩ := ho hw
    have hp : decide (0 < k.en) = true := decide_eq_true (by omega)
    rw [hw, hp, Bool.true_and]
    rcases q.1 with z | z
    · rw [if_neg (by omega), if_pos z, if_neg (by rw [g1]; decide)]
      rfl
    · rw [if_neg (by omega), if_neg (by omega), if_pos z, if_neg (by rw [g1]; intro y; rcases y with y | y; cases y; have := g2 z; omega)]
      decide +kernel
theorem inB_w {x : Nat} (hx : x < 256) : inB (nI x) (nI 97) (nI 122) = decide (sgN x = 256) := by
  unfold inB
  rw [Bool.eq_iff_iff]
  simp only [Bool.and_eq_true, Bool.not_eq_true', decide_eq_false_iff_not, decide_eq_true_eq]
  rw [nlt (by omega) (by decide), nlt (by decide) (by omega)]
  rcases sgN_cases x with q | q | q <;> omega
theorem inB_d {x : Nat} (hx : x < 256) : inB (nI x) (nI 48) (nI 57) = decide (sgN x = 257) := by
  unfold inB
  rw [Bool.eq_iff_iff]
  simp only [Bool.and_eq_true, Bool.not_eq_true', decide_eq_false_iff_not, decide_eq_true_eq]
  rw [nlt (by omega) (by decide), nlt (by decide) (by omega)]
  rcases sgN_cases x with q | q | q <;> omega
def sgB (B : Nat → Nat) (n i c : Nat) : Bool := decide (i < n) && decide (sgN (B i) = c)
theorem sgB_y {B : Nat → Nat} {n i c : Nat} (h : sgB B n i c = true) : i < n ∧ sgN (B i) = c := by unfold sgB at h; simpa using h
theorem sgB_n {B : Nat → Nat} {n i c : Nat} (h : sgB B n i c = false) : ¬ (i < n ∧ sgN (B i) = c) := by unfold sgB at h; simpa using h
theorem sgB_no {B : Nat → Nat} {n i c : Nat} (h : ¬ i < n) : sgB B n i c = false := by unfold sgB; rw [decide_eq_false h]; rfl
theorem sgB_of {B : Nat → Nat} {n i c : Nat} (h : i < n) : sgB B n i c = decide (sgN (B i) = c) := by unfold sgB; rw [decide_eq_true h]; rfl
/-- the number read so far: of four digits at most -/
def nu4 (B : Nat → Nat) (st k : Nat) : Nat := if k ≤ 4 then numN B st k else numN B st 4
theorem p_M_isLetter (g : CX) (d : Nat) (hd : 1 ≤ d) (σ : Sg) (B : Nat → Nat) (n : Nat) (hn96 : n ≤ 96) (hB : ∀ i, i < n → B i < 256) (hby : ByM B n σ) (i : Nat) (hi96 : i ≤ 96) : RunM g d M_isLetter [.ref 113, .int (nI i)] σ (PI (bI (sgB B n i 256)) σ) := by
  refine RunM.of 0 (by decide +kernel) rfl ?_
  intro κ hg hx hk0 G E
  subst hg
  have hk : 2 ≤ kn κ := Nat.le_of_eq hk0.symm
  show X κ NC 0 [some (.ref 113), some (.int (nI i))] [] (hv σ)
  refine x_iload1 G d_M_isLetter_0 ?_
  refine x_aload0 G d_M_isLetter_1 ?_
  refine m_geti G d_M_isLetter_2 fl_M_213 rfl (by decide) rfl ?_
  rw [hby.1]
  refine x_icmp_ge G d_M_isLetter_5 (fun c5 => ?_) (fun c5 => ?_)
  · have hin : ¬ i < n := by rw [nle (by omega) (by omega)] at c5; omega
    refine x_iconst (v := nI 0) G d_M_isLetter_31 rfl ?_
    exact m_iret E G d_M_isLetter_32 hx rfl rfl (pi_of (by rw [sgB_no hin]; rfl))
  · have hin : i < n := by rw [nle (by omega) (by omega)] at c5; omega
    refine x_aload0 G d_M_isLetter_8 ?_
    refine m_getr G d_M_isLetter_9 fl_M_59 rfl (by decide) rfl ?_
    refine x_iload1 G d_M_isLetter_12 ?_
    refine m_iald i G d_M_isLetter_13 rfl rfl ⟨by omega, by first | decide | omega⟩ ?_
    rw [hby.2 i hin]
    refine x_i2l G d_M_isLetter_14 ?_
    refine x_ldc2 G d_M_isLetter_15 kc_M_216 ?_
    refine x_ldc2 G d_M_isLetter_18 kc_M_218 ?_
    refine m_callS_pi (p_M_isIn (kg κ) (d - 1) (Nat.zero_le _) _ _ (nI 97) (nI 122) _ _ _ rfl (by decide +kernel) (by decide +kernel)) G d_M_isLetter_21 lk_M_82 (by omega) rfl (Nat.le_of_ble_eq_true rfl) hx ?_
    rw [inB_w (hB i hin)]
    refine x_if_eq G d_M_isLetter_24 (fun c24 => ?_) (fun c24 => ?_)
    · replace c24 := bI_0.mp c24
      refine x_iconst (v := nI 0) G d_M_isLetter_31 rfl ?_
      exact m_iret E G d_M_isLetter_32 hx rfl rfl (pi_of (by rw [sgB_of hin, c24]; rfl))
    · replace c24 := bI_n0.mp c24
      refine x_iconst (v := nI 1) G d_M_isLetter_27 rfl ?_
      refine x_goto G d_M_isLetter_28 ?_
      exact m_iret E G d_M_isLetter_32 hx rfl rfl (pi_of (by rw [sgB_of hin, c24]; rfl))
theorem p_M_isDigit (g : CX) (d : Nat) (hd : 1 ≤ d) (σ : Sg) (B : Nat → Nat) (n : Nat) (hn96 : n ≤ 96) (hB : ∀ i, i < n → B i < 256) (hby : ByM B n σ) (i : Nat) (hi96 : i ≤ 96) : RunM g d M_isDigit [.ref 113, .int (nI i)] σ (PI (bI (sgB B n i 257)) σ) := by
  refine RunM.of 0 (by decide +kernel) rfl ?_
  intro κ hg hx hk0 G E
  subst hg
  have hk : 2 ≤ kn κ := Nat.le_of_eq hk0.symm
  show X κ NC 0 [some (.ref 113), some (.int (nI i))] [] (hv σ)
  refine x_iload1 G d_M_isDigit_0 ?_
  refine x_aload0 G d_M_isDigit_1 ?_
  refine m_geti G d_M_isDigit_2 fl_M_213 rfl (by decide) rfl ?_
  rw [hby.1]
  refine x_icmp_ge G d_M_isDigit_5 (fun c5 => ?_) (fun c5 => ?_)
  · have hin : ¬ i < n := by rw [nle (by omega) (by omega)] at c5; omega
    refine x_iconst (v := nI 0) G d_M_isDigit_31 rfl ?_
    exact m_iret E G d_M_isDigit_32 hx rfl rfl (pi_of (by rw [sgB_no hin]; rfl))
  · have hin : i < n := by rw [nle (by omega) (by omega)] at c5; omega
    refine x_aload0 G d_M_isDigit_8 ?_
    refine m_getr G d_M_isDigit_9 fl_M_59 rfl (by decide) rfl ?_
    refine x_iload1 G d_M_isDigit_12 ?_
    refine m_iald i G d_M_isDigit_13 rfl rfl ⟨by omega, by first | decide | omega⟩ ?_
    rw [hby.2 i hin]
    refine x_i2l G d_M_isDigit_14 ?_
    refine x_ldc2 G d_M_isDigit_15 kc_M_220 ?_
    refine x_ldc2 G d_M_isDigit_18 kc_M_222 ?_
    refine m_callS_pi (p_M_isIn (kg κ) (d - 1) (Nat.zero_le _) _ _ (nI 48) (nI 57) _ _ _ rfl (by decide +kernel) (by decide +kernel)) G d_M_isDigit_21 lk_M_82 (by omega) rfl (Nat.le_of_ble_eq_true rfl) hx ?_
    rw [inB_d (hB i hin)]
    refine x_if_eq G d_M_isDigit_24 (fun c24 => ?_) (fun c24 => ?_)
    · replace c24 := bI_0.mp c24
      refine x_iconst (v := nI 0) G d_M_isDigit_31 rfl ?_
      exact m_iret E G d_M_isDigit_32 hx rfl rfl (pi_of (by rw [sgB_of hin, c24]; rfl))
    · replace c24 := bI_n0.mp c24
      refine x_iconst (v := nI 1) G d_M_isDigit_27 rfl ?_
      refine x_goto G d_M_isDigit_28 ?_
      exact m_iret E G d_M_isDigit_32 hx rfl rfl (pi_of (by rw [sgB_of hin, c24]; rfl))
theorem p_M_nextToken (g : CX) (d : Nat) (hd : 2 ≤ d) (σ : Sg) (B : Nat → Nat) (n : Nat) (hn96 : n ≤ 96) (hB : ∀ i, i < n → B i < 256) (hby : ByM B n σ) (p : Nat) (tok : Int32) (hpn : p ≤ n) (hp : σ 113 20 = nI p) (hto : σ 113 21 = tok) : RunM g d M_nextToken [.ref 113] σ (PV (fun σ1 => TkM B (lexT B n p (wsB p tok)) σ1 ∧ (∀ j, (j < 19 ∨ 24 ≤ j) → σ1 113 j = σ 113 j) ∧ ∀ q, q ≠ 113 → σ1 q = σ q)) := by
  refine RunM.of 2 (by decide +kernel) rfl ?_
  intro κ hg hx hk0 G E
  subst hg
  have hk : 3 ≤ kn κ := Nat.le_of_eq hk0.symm
  show X κ NC 0 [some (.ref 113), none, none] [] (hv σ)
  refine x_aload0 G d_M_nextToken_0 ?_
  have J28 : ∀ y : Int32, y = bI (wsB p tok) → X κ NC 28 [some (.ref 113), none, none] [.int y] (hv σ) := by
    intro y hy
    subst hy
    refine x_istore1 G d_M_nextToken_28 rfl hk ?_
    have J72 : ∀ (k : Nat) (σ1 : Sg), run (fun i => decide (B i = 32)) n p = k → k ≤ n → p ≤ k → σ1 113 20 = nI k → (∀ j, (j < 19 ∨ 24 ≤ j) → σ1 113 j = σ 113 j) → (∀ q, q ≠ 113 → σ1 q = σ q) → X κ NC 72 [some (.ref 113), some (.int (bI (wsB p tok))), some (.int (nI p))] [] (hv σ1) := by
      intro k σ1 hrun hkn hpk h20 hF hG
      have hb : ByM B n σ1 := hby.frame (hF 18 (by decide)) (hG 129 (by decide))
      have J89 : ∀ y : Int32, y = bI (wsB p tok && decide (k = p)) → X κ NC 89 [some (.ref 113), some (.int (bI (wsB p tok))), some (.int (nI p))] [.int y] (hv σ1) := by
        intro y hy
        subst hy
        refine x_istore1 G d_M_nextToken_89 rfl hk ?_
        refine x_aload0 G d_M_nextToken_90 ?_
        refine x_aload0 G d_M_nextToken_91 ?_
        refine m_geti G d_M_nextToken_92 fl_M_224 rfl (by decide) rfl ?_
        rw [h20]
        refine m_puti_n G d_M_nextToken_95 fl_M_230 rfl (by decide) rfl rfl rfl (fun σ2 e2 => ?_)
        have hF2 : ∀ j, (j < 19 ∨ 24 ≤ j) → σ2 113 j = σ 113 j := fun j a => by rw [e2, updS_ne (by omega)]; exact hF j a
        have hG2 : ∀ q, q ≠ 113 → σ2 q = σ q := fun q a => by rw [e2, updS_nk a]; exact hG q a
        have h19 : σ2 113 19 = nI k := by rw [e2, updS_at]
        have h20b : σ2 113 20 = nI k := by rw [e2, updS_ne (by decide)]; exact h20
        have hb2 : ByM B n σ2 := hby.frame (hF2 18 (by decide)) (hG2 129 (by decide))
        refine x_aload0 G d_M_nextToken_98 ?_
        refine m_geti G d_M_nextToken_99 fl_M_230 rfl (by decide) rfl ?_
        rw [h19]
        refine x_aload0 G d_M_nextToken_102 ?_
        refine m_geti G d_M_nextToken_103 fl_M_213 rfl (by decide) rfl ?_
        rw [hb2.1]
        refine x_icmp_ne G d_M_nextToken_106 (fun c106 => ?_) (fun c106 => ?_)
        · have hkl : k < n := by
            have : k ≠ n := fun e => c106 (by rw [e])
            omega
          have hbk := hB k hkl
          have hsl := sgN_lt hbk
          refine x_aload0 G d_M_nextToken_117 ?_
          refine x_aload0 G d_M_nextToken_118 ?_
          refine m_geti G d_M_nextToken_119 fl_M_230 rfl (by decide) rfl ?_
          rw [h19]
          refine m_callV_pi (p_M_isLetter (kg κ) (d - 1) (by omega) σ2 B n hn96 hB hb2 k (by omega)) G d_M_nextToken_122 lk_M_233 rfl ⟨by decide, rfl⟩ (by decide) (by omega) rfl (Nat.le_of_ble_eq_true rfl) hx ?_
          refine x_if_eq G d_M_nextToken_125 (fun c125 => ?_) (fun c125 => ?_)
          · have w125 := sgB_n (bI_0.mp c125)
            refine x_aload0 G d_M_nextToken_198 ?_
            refine x_aload0 G d_M_nextToken_199 ?_
            refine m_geti G d_M_nextToken_200 fl_M_230 rfl (by decide) rfl ?_
            rw [h19]
            refine m_callV_pi (p_M_isDigit (kg κ) (d - 1) (by omega) σ2 B n hn96 hB hb2 k (by omega)) G d_M_nextToken_203 lk_M_239 rfl ⟨by decide, rfl⟩ (by decide) (by omega) rfl (Nat.le_of_ble_eq_true rfl) hx ?_
            refine x_if_eq G d_M_nextToken_206 (fun c206 => ?_) (fun c206 => ?_)
            · have w206 := sgB_n (bI_0.mp c206)
              have hwd : isWd (sgN (B k)) = false := by unfold isWd; rw [decide_eq_false (fun e => w125 ⟨hkl, e⟩), decide_eq_false (fun e => w206 ⟨hkl, e⟩)]; rfl
              refine x_aload0 G d_M_nextToken_311 ?_
              refine x_iconst (v := nI 3) G d_M_nextToken_312 rfl ?_
              refine m_puti_n G d_M_nextToken_313 fl_M_227 rfl (by decide) rfl rfl rfl (fun σ3 e3 => ?_)
              refine x_aload0 G d_M_nextToken_316 ?_
              refine x_aload0 G d_M_nextToken_317 ?_
              refine m_getr G d_M_nextToken_318 fl_M_59 rfl (by decide) rfl ?_
              refine x_aload0 G d_M_nextToken_321 ?_
              refine m_geti G d_M_nextToken_322 fl_M_230 rfl (by decide) rfl ?_
              rw [show σ3 113 19 = nI k by rw [e3, updS_ne (by decide)]; exact h19]
              refine m_iald k G d_M_nextToken_325 rfl rfl ⟨by omega, by first | decide | omega⟩ ?_
              rw [show σ3 129 k = nI (B k) by rw [e3, updS_nk (by decide)]; exact hb2.2 k hkl]
              refine m_puti_n G d_M_nextToken_326 fl_M_236 rfl (by decide) rfl rfl rfl (fun σ4 e4 => ?_)
              refine x_aload0 G d_M_nextToken_329 ?_
              refine x_dup G d_M_nextToken_330 rfl ?_
              refine m_geti G d_M_nextToken_331 fl_M_224 rfl (by decide) rfl ?_
              rw [show σ4 113 20 = nI k by rw [e4, updS_ne (by decide), e3, updS_ne (by decide)]; exact h20b]
              refine x_iconst (v := nI 1) G d_M_nextToken_334 rfl ?_
              refine x_iadd G d_M_nextToken_335 ?_
              rw [show nI k + nI 1 = nI (k + 1) from nI_1 _]
              refine m_puti_n G d_M_nextToken_336 fl_M_224 rfl (by decide) rfl rfl rfl (fun σ5 e5 => ?_)
              have hsb : sgN (B k) = B k := by
                rcases sgN_cases (B k) with q | q | q
                · exact absurd ⟨hkl, q.2.2⟩ w125
                · exact absurd ⟨hkl, q.2.2⟩ w206
                · exact q.2.2
              have hFx : ∀ j, (j < 19 ∨ 24 ≤ j) → σ5 113 j = σ 113 j := fun j a => by rw [e5, updS_ne (by omega), e4, updS_ne (by omega), e3, updS_ne (by omega)]; exact hF2 j a
              have hGx : ∀ q, q ≠ 113 → σ5 q = σ q := fun q a => by rw [e5, updS_nk a, e4, updS_nk a, e3, updS_nk a]; exact hG2 q a
              have hfin : PV (fun σ1 => TkM B (lexT B n p (wsB p tok)) σ1 ∧ (∀ j, (j < 19 ∨ 24 ≤ j) → σ1 113 j = σ 113 j) ∧ ∀ q, q ≠ 113 → σ1 q = σ q) none σ5 := ⟨rfl, (by rw [lexT_sgn hrun hkl hwd, hsb]; exact ⟨by rw [e5, updS_ne (by decide), e4, updS_ne (by decide), e3, updS_ne (by decide), h19], by rw [e5, updS_at], by rw [e5, updS_ne (by decide), e4, updS_ne (by decide), e3, updS_at]; unfold tkI; rw [if_neg (by show ¬ B k = 258; omega), if_neg (by show ¬ B k = 256; omega), if_neg (by show ¬ B k = 257; omega)], fun y => absurd y (by show ¬ B k = 256; omega), fun y => absurd y (by show ¬ B k = 257; omega), fun _ => by rw [e5, updS_ne (by decide), e4, updS_at]⟩), hFx, hGx⟩
              exact m_vret E G d_M_nextToken_339 hx rfl hfin
            · have w206 := (sgB_y (bI_n0.mp c206)).2
              have hwd : isWd (sgN (B k)) = true := by rw [w206]; rfl
              refine x_aload0 G d_M_nextToken_209 ?_
              refine x_iconst (v := nI 0) G d_M_nextToken_210 rfl ?_
              refine m_puti_n G d_M_nextToken_211 fl_M_242 rfl (by decide) rfl rfl rfl (fun σ3 e3 => ?_)
              have hloopD : ∀ (m z : Nat) (σ5 : Sg), z ≤ n → k ≤ z → n < z + m → (z = k ∨ (k < z ∧ run (fun i => decide (sgN (B i) = sgN (B k))) n (k + 1) = run (fun i => decide (sgN (B i) = sgN (B k))) n z)) → σ5 113 20 = nI z → σ5 113 19 = nI k → σ5 113 22 = nI (nu4 B k (z - k)) → (∀ j, (j < 19 ∨ 24 ≤ j) → σ5 113 j = σ 113 j) → (∀ q, q ≠ 113 → σ5 q = σ q) → X κ NC 214 [some (.ref 113), some (.int (bI (wsB p tok && decide (k = p)))), some (.int (nI p))] [] (hv σ5) := by
                intro m
                induction m with
                | zero => intro z σ5 h1 h2 h3; omega
                | succ m ih =>
                  intro z σ5 hz1 hz2 hz3 hru2 h520 h519 h522 hF5 hG5
                  have hb5 : ByM B n σ5 := hby.frame (hF5 18 (by decide)) (hG5 129 (by decide))
                  refine x_aload0 G d_M_nextToken_214 ?_
                  refine x_aload0 G d_M_nextToken_215 ?_
                  refine m_geti G d_M_nextToken_216 fl_M_224 rfl (by decide) rfl ?_
                  rw [h520]
                  refine m_callV_pi (p_M_isDigit (kg κ) (d - 1) (by omega) σ5 B n hn96 hB hb5 z (by omega)) G d_M_nextToken_219 lk_M_239 rfl ⟨by decide, rfl⟩ (by decide) (by omega) rfl (Nat.le_of_ble_eq_true rfl) hx ?_
                  refine x_if_eq G d_M_nextToken_222 (fun c222 => ?_) (fun c222 => ?_)
                  · have hzn := sgB_n (bI_0.mp c222)
                    have hkz : k < z := by
                      rcases hru2 with q | q
                      · exact absurd (show z < n ∧ sgN (B z) = 257 by rw [q]; exact ⟨hkl, w206⟩) hzn
                      · exact q.1
                    have hend : run (fun i => decide (sgN (B i) = sgN (B k))) n (k + 1) = z := by
                      rcases hru2 with q | q
                      · omega
                      · rw [q.2]
                        rcases Nat.lt_or_ge z n with y | y
                        · exact run_no y (decide_eq_false (fun e => hzn ⟨y, by rw [e, w206]⟩))
                        · rw [show z = n by omega, run_n]
                    refine x_aload0 G d_M_nextToken_282 ?_
                    refine x_iload1 G d_M_nextToken_283 ?_
                    refine x_if_ne G d_M_nextToken_284 (fun c284 => ?_) (fun c284 => ?_)
                    · have w284 := bI_n0.mp c284
                      refine x_iconst (v := nI 4) G d_M_nextToken_300 rfl ?_
                      refine x_goto G d_M_nextToken_301 ?_
                      refine m_puti_n G d_M_nextToken_305 fl_M_227 rfl (by decide) rfl rfl rfl (fun σ8 e8 => ?_)
                      have hFx : ∀ j, (j < 19 ∨ 24 ≤ j) → σ8 113 j = σ 113 j := fun j a => by rw [e8, updS_ne (by omega)]; exact hF5 j a
                      have hGx : ∀ q, q ≠ 113 → σ8 q = σ q := fun q a => by rw [e8, updS_nk a]; exact hG5 q a
                      have hfin : PV (fun σ1 => TkM B (lexT B n p (wsB p tok)) σ1 ∧ (∀ j, (j < 19 ∨ 24 ≤ j) → σ1 113 j = σ 113 j) ∧ ∀ q, q ≠ 113 → σ1 q = σ q) none σ8 := ⟨rfl, (by rw [lexT_wrd hrun hkl hwd, hend, w206]; exact ⟨by rw [e8, updS_ne (by decide), h519], by rw [e8, updS_ne (by decide), h520], by rw [e8, updS_at]; unfold tkI; rw [if_neg (show ¬ (257 : Nat) = 258 by decide), if_neg (show ¬ (257 : Nat) = 256 by decide), if_pos rfl, if_pos (Or.inl w284)], fun y => absurd y (show ¬ (257 : Nat) = 256 by decide), fun _ y => by rw [e8, updS_ne (by decide), h522]; exact congrArg nI (if_pos y), fun y => absurd y (show ¬ (257 : Nat) < 256 by decide)⟩), hFx, hGx⟩
                      refine x_goto G d_M_nextToken_308 ?_
                      exact m_vret E G d_M_nextToken_339 hx rfl hfin
                    · have w284 := bI_0.mp c284
                      refine x_aload0 G d_M_nextToken_287 ?_
                      refine m_geti G d_M_nextToken_288 fl_M_224 rfl (by decide) rfl ?_
                      rw [h520]
                      refine x_aload0 G d_M_nextToken_291 ?_
                      refine m_geti G d_M_nextToken_292 fl_M_230 rfl (by decide) rfl ?_
                      rw [h519]
                      refine x_isub G d_M_nextToken_295 ?_
                      rw [pk_sub (by omega)]
                      refine x_iconst (v := nI 4) G d_M_nextToken_296 rfl ?_
                      refine x_icmp_le G d_M_nextToken_297 (fun c297 => ?_) (fun c297 => ?_)
                      · have w297 : z - k ≤ 4 := (nle (by omega) (by decide)).mp c297
                        refine x_iconst (v := nI 2) G d_M_nextToken_304 rfl ?_
                        refine m_puti_n G d_M_nextToken_305 fl_M_227 rfl (by decide) rfl rfl rfl (fun σ8 e8 => ?_)
                        have hFx : ∀ j, (j < 19 ∨ 24 ≤ j) → σ8 113 j = σ 113 j := fun j a => by rw [e8, updS_ne (by omega)]; exact hF5 j a
                        have hGx : ∀ q, q ≠ 113 → σ8 q = σ q := fun q a => by rw [e8, updS_nk a]; exact hG5 q a
                        have hfin : PV (fun σ1 => TkM B (lexT B n p (wsB p tok)) σ1 ∧ (∀ j, (j < 19 ∨ 24 ≤ j) → σ1 113 j = σ 113 j) ∧ ∀ q, q ≠ 113 → σ1 q = σ q) none σ8 := ⟨rfl, (by rw [lexT_wrd hrun hkl hwd, hend, w206]; exact ⟨by rw [e8, updS_ne (by decide), h519], by rw [e8, updS_ne (by decide), h520], by rw [e8, updS_at]; unfold tkI; rw [if_neg (show ¬ (257 : Nat) = 258 by decide), if_neg (show ¬ (257 : Nat) = 256 by decide), if_pos rfl, if_neg (by intro y; rcases y with y | y; exact absurd (y.symm.trans w284) (by decide); exact absurd y (by show ¬ 4 < z - k; omega))], fun y => absurd y (show ¬ (257 : Nat) = 256 by decide), fun _ y => by rw [e8, updS_ne (by decide), h522]; exact congrArg nI (if_pos y), fun y => absurd y (show ¬ (257 : Nat) < 256 by decide)⟩), hFx, hGx⟩
                        refine x_goto G d_M_nextToken_308 ?_
                        exact m_vret E G d_M_nextToken_339 hx rfl hfin
                      · have w297 : ¬ z - k ≤ 4 := fun y => c297 ((nle (by omega) (by decide)).mpr y)
                        refine x_iconst (v := nI 4) G d_M_nextToken_300 rfl ?_
                        refine x_goto G d_M_nextToken_301 ?_
                        refine m_puti_n G d_M_nextToken_305 fl_M_227 rfl (by decide) rfl rfl rfl (fun σ8 e8 => ?_)
                        have hFx : ∀ j, (j < 19 ∨ 24 ≤ j) → σ8 113 j = σ 113 j := fun j a => by rw [e8, updS_ne (by omega)]; exact hF5 j a
                        have hGx : ∀ q, q ≠ 113 → σ8 q = σ q := fun q a => by rw [e8, updS_nk a]; exact hG5 q a
                        have hfin : PV (fun σ1 => TkM B (lexT B n p (wsB p tok)) σ1 ∧ (∀ j, (j < 19 ∨ 24 ≤ j) → σ1 113 j = σ 113 j) ∧ ∀ q, q ≠ 113 → σ1 q = σ q) none σ8 := ⟨rfl, (by rw [lexT_wrd hrun hkl hwd, hend, w206]; exact ⟨by rw [e8, updS_ne (by decide), h519], by rw [e8, updS_ne (by decide), h520], by rw [e8, updS_at]; unfold tkI; rw [if_neg (show ¬ (257 : Nat) = 258 by decide), if_neg (show ¬ (257 : Nat) = 256 by decide), if_pos rfl, if_pos (Or.inr (by show 4 < z - k; omega))], fun y => absurd y (show ¬ (257 : Nat) = 256 by decide), fun _ y => by rw [e8, updS_ne (by decide), h522]; exact congrArg nI (if_pos y), fun y => absurd y (show ¬ (257 : Nat) < 256 by decide)⟩), hFx, hGx⟩
                        refine x_goto G d_M_nextToken_308 ?_
                        exact m_vret E G d_M_nextToken_339 hx rfl hfin
                  · have hzy := sgB_y (bI_n0.mp c222)
                    have hdg := digit_of hzy.2 (hB z hzy.1)
                    refine x_aload0 G d_M_nextToken_225 ?_
                    refine x_aload0 G d_M_nextToken_226 ?_
                    refine m_geti G d_M_nextToken_227 fl_M_224 rfl (by decide) rfl ?_
                    rw [h520]
                    refine x_aload0 G d_M_nextToken_230 ?_
                    refine m_geti G d_M_nextToken_231 fl_M_230 rfl (by decide) rfl ?_
                    rw [h519]
                    refine x_isub G d_M_nextToken_234 ?_
                    rw [pk_sub (by omega)]
                    refine x_iconst (v := nI 4) G d_M_nextToken_235 rfl ?_
                    refine x_icmp_ge G d_M_nextToken_236 (fun c236 => ?_) (fun c236 => ?_)
                    · have w236 : 4 ≤ z - k := (nle (by decide) (by omega)).mp c236
                      have hnu : nI (nu4 B k (z - k)) = nI (nu4 B k (z + 1 - k)) := by
                        unfold nu4
                        rw [if_neg (show ¬ z + 1 - k ≤ 4 by omega)]
                        by_cases y : z - k = 4
                        · rw [y, if_pos (Nat.le_refl _)]
                        · rw [if_neg (by omega)]
                      refine x_aload0 G d_M_nextToken_262 ?_
                      refine m_geti G d_M_nextToken_263 fl_M_242 rfl (by decide) rfl ?_
                      rw [h522]
                      refine m_puti_n G d_M_nextToken_266 fl_M_242 rfl (by decide) rfl rfl rfl (fun σ7 e7 => ?_)
                      refine x_aload0 G d_M_nextToken_269 ?_
                      refine x_dup G d_M_nextToken_270 rfl ?_
                      refine m_geti G d_M_nextToken_271 fl_M_224 rfl (by decide) rfl ?_
                      rw [show σ7 113 20 = nI z by rw [e7, updS_ne (by decide)]; exact h520]
                      refine x_iconst (v := nI 1) G d_M_nextToken_274 rfl ?_
                      refine x_iadd G d_M_nextToken_275 ?_
                      rw [show nI z + nI 1 = nI (z + 1) from nI_1 _]
                      refine m_puti_n G d_M_nextToken_276 fl_M_224 rfl (by decide) rfl rfl rfl (fun σ6 e6 => ?_)
                      refine x_goto G d_M_nextToken_279 ?_
                      exact ih (z + 1) σ6 (by omega) (by omega) (by omega) (Or.inr ⟨by omega, by rcases hru2 with q | q; rw [q]; rw [q.2, run_yes hzy.1 (decide_eq_true (by rw [hzy.2, w206]))]⟩) (by rw [e6, updS_at]) (by rw [e6, updS_ne (by decide), e7, updS_ne (by decide)]; exact h519) (by rw [e6, updS_ne (by decide), e7, updS_at]; exact hnu) (fun j a => by rw [e6, updS_ne (by omega), e7, updS_ne (by omega)]; exact hF5 j a) (fun q a => by rw [e6, updS_nk a, e7, updS_nk a]; exact hG5 q a)
                    · have w236 : z - k < 4 := by rw [nle (by decide) (by omega)] at c236; omega
                      refine x_bipush (v := nI 10) G d_M_nextToken_239 rfl ?_
                      refine x_aload0 G d_M_nextToken_241 ?_
                      refine m_geti G d_M_nextToken_242 fl_M_242 rfl (by decide) rfl ?_
                      rw [h522, show nu4 B k (z - k) = numN B k (z - k) from if_pos (by omega)]
                      refine x_imul G d_M_nextToken_245 ?_
                      rw [pk_mul]
                      refine x_aload0 G d_M_nextToken_246 ?_
                      refine m_getr G d_M_nextToken_247 fl_M_59 rfl (by decide) rfl ?_
                      refine x_aload0 G d_M_nextToken_250 ?_
                      refine m_geti G d_M_nextToken_251 fl_M_224 rfl (by decide) rfl ?_
                      rw [h520]
                      refine m_iald z G d_M_nextToken_254 rfl rfl ⟨by omega, by first | decide | omega⟩ ?_
                      rw [hb5.2 z hzy.1]
                      refine x_iadd G d_M_nextToken_255 ?_
                      rw [nI_add]
                      refine x_bipush (v := nI 48) G d_M_nextToken_256 rfl ?_
                      refine x_isub G d_M_nextToken_258 ?_
                      rw [pk_sub (by omega)]
                      have hnu : nI (10 * numN B k (z - k) + B z - 48) = nI (nu4 B k (z + 1 - k)) := by
                        unfold nu4
                        rw [if_pos (by omega), show z + 1 - k = (z - k) + 1 by omega, numN, show k + (z - k) = z by omega]
                        congr 1
                        omega
                      refine x_goto G d_M_nextToken_259 ?_
                      refine m_puti_n G d_M_nextToken_266 fl_M_242 rfl (by decide) rfl rfl rfl (fun σ7 e7 => ?_)
                      refine x_aload0 G d_M_nextToken_269 ?_
                      refine x_dup G d_M_nextToken_270 rfl ?_
                      refine m_geti G d_M_nextToken_271 fl_M_224 rfl (by decide) rfl ?_
                      rw [show σ7 113 20 = nI z by rw [e7, updS_ne (by decide)]; exact h520]
                      refine x_iconst (v := nI 1) G d_M_nextToken_274 rfl ?_
                      refine x_iadd G d_M_nextToken_275 ?_
                      rw [show nI z + nI 1 = nI (z + 1) from nI_1 _]
                      refine m_puti_n G d_M_nextToken_276 fl_M_224 rfl (by decide) rfl rfl rfl (fun σ6 e6 => ?_)
                      refine x_goto G d_M_nextToken_279 ?_
                      exact ih (z + 1) σ6 (by omega) (by omega) (by omega) (Or.inr ⟨by omega, by rcases hru2 with q | q; rw [q]; rw [q.2, run_yes hzy.1 (decide_eq_true (by rw [hzy.2, w206]))]⟩) (by rw [e6, updS_at]) (by rw [e6, updS_ne (by decide), e7, updS_ne (by decide)]; exact h519) (by rw [e6, updS_ne (by decide), e7, updS_at]; exact hnu) (fun j a => by rw [e6, updS_ne (by omega), e7, updS_ne (by omega)]; exact hF5 j a) (fun q a => by rw [e6, updS_nk a, e7, updS_nk a]; exact hG5 q a)
              exact hloopD (n + 1) k σ3 (by omega) (Nat.le_refl _) (by omega) (Or.inl rfl) (by rw [e3, updS_ne (by decide)]; exact h20b) (by rw [e3, updS_ne (by decide)]; exact h19) (by rw [e3, updS_at, Nat.sub_self]; rfl) (fun j a => by rw [e3, updS_ne (by omega)]; exact hF2 j a) (fun q a => by rw [e3, updS_nk a]; exact hG2 q a)
          · have w125 := (sgB_y (bI_n0.mp c125)).2
            have hwd : isWd (sgN (B k)) = true := by rw [w125]; rfl
            have hloopW : ∀ (m z : Nat) (σ5 : Sg), z ≤ n → k ≤ z → n < z + m → (z = k ∨ (k < z ∧ run (fun i => decide (sgN (B i) = sgN (B k))) n (k + 1) = run (fun i => decide (sgN (B i) = sgN (B k))) n z)) → σ5 113 20 = nI z → σ5 113 19 = nI k → (∀ j, (j < 19 ∨ 24 ≤ j) → σ5 113 j = σ 113 j) → (∀ q, q ≠ 113 → σ5 q = σ q) → X κ NC 128 [some (.ref 113), some (.int (bI (wsB p tok && decide (k = p)))), some (.int (nI p))] [] (hv σ5) := by
              intro m
              induction m with
              | zero => intro z σ5 h1 h2 h3; omega
              | succ m ih =>
                intro z σ5 hz1 hz2 hz3 hru2 h520 h519 hF5 hG5
                have hb5 : ByM B n σ5 := hby.frame (hF5 18 (by decide)) (hG5 129 (by decide))
                refine x_aload0 G d_M_nextToken_128 ?_
                refine x_aload0 G d_M_nextToken_129 ?_
                refine m_geti G d_M_nextToken_130 fl_M_224 rfl (by decide) rfl ?_
                rw [h520]
                refine m_callV_pi (p_M_isLetter (kg κ) (d - 1) (by omega) σ5 B n hn96 hB hb5 z (by omega)) G d_M_nextToken_133 lk_M_233 rfl ⟨by decide, rfl⟩ (by decide) (by omega) rfl (Nat.le_of_ble_eq_true rfl) hx ?_
                refine x_if_eq G d_M_nextToken_136 (fun c136 => ?_) (fun c136 => ?_)
                · have hzn := sgB_n (bI_0.mp c136)
                  have hkz : k < z := by
                    rcases hru2 with q | q
                    · exact absurd (show z < n ∧ sgN (B z) = 256 by rw [q]; exact ⟨hkl, w125⟩) hzn
                    · exact q.1
                  have hend : run (fun i => decide (sgN (B i) = sgN (B k))) n (k + 1) = z := by
                    rcases hru2 with q | q
                    · omega
                    · rw [q.2]
                      rcases Nat.lt_or_ge z n with y | y
                      · exact run_no y (decide_eq_false (fun e => hzn ⟨y, by rw [e, w125]⟩))
                      · rw [show z = n by omega, run_n]
                  refine x_aload0 G d_M_nextToken_152 ?_
                  refine x_iload1 G d_M_nextToken_153 ?_
                  refine x_if_eq G d_M_nextToken_154 (fun c154 => ?_) (fun c154 => ?_)
                  · have w154 := bI_0.mp c154
                    refine x_iconst (v := nI 1) G d_M_nextToken_161 rfl ?_
                    refine m_puti_n G d_M_nextToken_162 fl_M_227 rfl (by decide) rfl rfl rfl (fun σ7 e7 => ?_)
                    have h720 : σ7 113 20 = nI z := by rw [e7, updS_ne (by decide)]; exact h520
                    have h719 : σ7 113 19 = nI k := by rw [e7, updS_ne (by decide)]; exact h519
                    refine x_aload0 G d_M_nextToken_165 ?_
                    refine x_aload0 G d_M_nextToken_166 ?_
                    refine m_geti G d_M_nextToken_167 fl_M_224 rfl (by decide) rfl ?_
                    rw [h720]
                    refine x_aload0 G d_M_nextToken_170 ?_
                    refine m_geti G d_M_nextToken_171 fl_M_230 rfl (by decide) rfl ?_
                    rw [h719]
                    refine x_isub G d_M_nextToken_174 ?_
                    rw [pk_sub (by omega)]
                    refine x_iconst (v := nI 1) G d_M_nextToken_175 rfl ?_
                    refine x_icmp_ne G d_M_nextToken_176 (fun c176 => ?_) (fun c176 => ?_)
                    · have w176 : ¬ z - k = 1 := fun e => c176 (by rw [e])
                      refine x_iconst (v := nI 0) G d_M_nextToken_191 rfl ?_
                      refine m_puti_n G d_M_nextToken_192 fl_M_236 rfl (by decide) rfl rfl rfl (fun σ8 e8 => ?_)
                      have hFx : ∀ j, (j < 19 ∨ 24 ≤ j) → σ8 113 j = σ 113 j := fun j a => by rw [e8, updS_ne (by omega), e7, updS_ne (by omega)]; exact hF5 j a
                      have hGx : ∀ q, q ≠ 113 → σ8 q = σ q := fun q a => by rw [e8, updS_nk a, e7, updS_nk a]; exact hG5 q a
                      have hfin : PV (fun σ1 => TkM B (lexT B n p (wsB p tok)) σ1 ∧ (∀ j, (j < 19 ∨ 24 ≤ j) → σ1 113 j = σ 113 j) ∧ ∀ q, q ≠ 113 → σ1 q = σ q) none σ8 := ⟨rfl, (by rw [lexT_wrd hrun hkl hwd, hend, w125]; exact ⟨by rw [e8, updS_ne (by decide), h719], by rw [e8, updS_ne (by decide), h720], by rw [e8, updS_ne (by decide), e7, updS_at]; unfold tkI; rw [if_neg (show ¬ (256 : Nat) = 258 by decide), if_pos rfl, if_neg (by show ¬ (wsB p tok && decide (k = p)) = true; rw [w154]; decide)], fun _ => by rw [e8, updS_at]; show _ = if z - k = 1 then _ else _; rw [if_neg w176]; exact nI_0, fun y => absurd y (show ¬ (256 : Nat) = 257 by decide), fun y => absurd y (show ¬ (256 : Nat) < 256 by decide)⟩), hFx, hGx⟩
                      refine x_goto G d_M_nextToken_195 ?_
                      exact m_vret E G d_M_nextToken_339 hx rfl hfin
                    · have w176 : z - k = 1 := by
                        have q := c176
                        rw [neq (by omega) (by decide)] at q
                        exact q
                      refine x_aload0 G d_M_nextToken_179 ?_
                      refine m_getr G d_M_nextToken_180 fl_M_59 rfl (by decide) rfl ?_
                      refine x_aload0 G d_M_nextToken_183 ?_
                      refine m_geti G d_M_nextToken_184 fl_M_230 rfl (by decide) rfl ?_
                      rw [h719]
                      refine m_iald k G d_M_nextToken_187 rfl rfl ⟨by omega, by first | decide | omega⟩ ?_
                      rw [show σ7 129 k = nI (B k) by rw [e7, updS_nk (by decide)]; exact hb5.2 k hkl]
                      refine x_goto G d_M_nextToken_188 ?_
                      refine m_puti_n G d_M_nextToken_192 fl_M_236 rfl (by decide) rfl rfl rfl (fun σ8 e8 => ?_)
                      have hFx : ∀ j, (j < 19 ∨ 24 ≤ j) → σ8 113 j = σ 113 j := fun j a => by rw [e8, updS_ne (by omega), e7, updS_ne (by omega)]; exact hF5 j a
                      have hGx : ∀ q, q ≠ 113 → σ8 q = σ q := fun q a => by rw [e8, updS_nk a, e7, updS_nk a]; exact hG5 q a
                      have hfin : PV (fun σ1 => TkM B (lexT B n p (wsB p tok)) σ1 ∧ (∀ j, (j < 19 ∨ 24 ≤ j) → σ1 113 j = σ 113 j) ∧ ∀ q, q ≠ 113 → σ1 q = σ q) none σ8 := ⟨rfl, (by rw [lexT_wrd hrun hkl hwd, hend, w125]; exact ⟨by rw [e8, updS_ne (by decide), h719], by rw [e8, updS_ne (by decide), h720], by rw [e8, updS_ne (by decide), e7, updS_at]; unfold tkI; rw [if_neg (show ¬ (256 : Nat) = 258 by decide), if_pos rfl, if_neg (by show ¬ (wsB p tok && decide (k = p)) = true; rw [w154]; decide)], fun _ => by rw [e8, updS_at]; show _ = if z - k = 1 then _ else _; rw [if_pos w176], fun y => absurd y (show ¬ (256 : Nat) = 257 by decide), fun y => absurd y (show ¬ (256 : Nat) < 256 by decide)⟩), hFx, hGx⟩
                      refine x_goto G d_M_nextToken_195 ?_
                      exact m_vret E G d_M_nextToken_339 hx rfl hfin
                  · have w154 := bI_n0.mp c154
                    refine x_iconst (v := nI 4) G d_M_nextToken_157 rfl ?_
                    refine x_goto G d_M_nextToken_158 ?_
                    refine m_puti_n G d_M_nextToken_162 fl_M_227 rfl (by decide) rfl rfl rfl (fun σ7 e7 => ?_)
                    have h720 : σ7 113 20 = nI z := by rw [e7, updS_ne (by decide)]; exact h520
                    have h719 : σ7 113 19 = nI k := by rw [e7, updS_ne (by decide)]; exact h519
                    refine x_aload0 G d_M_nextToken_165 ?_
                    refine x_aload0 G d_M_nextToken_166 ?_
                    refine m_geti G d_M_nextToken_167 fl_M_224 rfl (by decide) rfl ?_
                    rw [h720]
                    refine x_aload0 G d_M_nextToken_170 ?_
                    refine m_geti G d_M_nextToken_171 fl_M_230 rfl (by decide) rfl ?_
                    rw [h719]
                    refine x_isub G d_M_nextToken_174 ?_
                    rw [pk_sub (by omega)]
                    refine x_iconst (v := nI 1) G d_M_nextToken_175 rfl ?_
                    refine x_icmp_ne G d_M_nextToken_176 (fun c176 => ?_) (fun c176 => ?_)
                    · have w176 : ¬ z - k = 1 := fun e => c176 (by rw [e])
                      refine x_iconst (v := nI 0) G d_M_nextToken_191 rfl ?_
                      refine m_puti_n G d_M_nextToken_192 fl_M_236 rfl (by decide) rfl rfl rfl (fun σ8 e8 => ?_)
                      have hFx : ∀ j, (j < 19 ∨ 24 ≤ j) → σ8 113 j = σ 113 j := fun j a => by rw [e8, updS_ne (by omega), e7, updS_ne (by omega)]; exact hF5 j a
                      have hGx : ∀ q, q ≠ 113 → σ8 q = σ q := fun q a => by rw [e8, updS_nk a, e7, updS_nk a]; exact hG5 q a
                      have hfin : PV (fun σ1 => TkM B (lexT B n p (wsB p tok)) σ1 ∧ (∀ j, (j < 19 ∨ 24 ≤ j) → σ1 113 j = σ 113 j) ∧ ∀ q, q ≠ 113 → σ1 q = σ q) none σ8 := ⟨rfl, (by rw [lexT_wrd hrun hkl hwd, hend, w125]; exact ⟨by rw [e8, updS_ne (by decide), h719], by rw [e8, updS_ne (by decide), h720], by rw [e8, updS_ne (by decide), e7, updS_at]; unfold tkI; rw [if_neg (show ¬ (256 : Nat) = 258 by decide), if_pos rfl, if_pos (by show (wsB p tok && decide (k = p)) = true; rw [w154])], fun _ => by rw [e8, updS_at]; show _ = if z - k = 1 then _ else _; rw [if_neg w176]; exact nI_0, fun y => absurd y (show ¬ (256 : Nat) = 257 by decide), fun y => absurd y (show ¬ (256 : Nat) < 256 by decide)⟩), hFx, hGx⟩
                      refine x_goto G d_M_nextToken_195 ?_
                      exact m_vret E G d_M_nextToken_339 hx rfl hfin
                    · have w176 : z - k = 1 := by
                        have q := c176
                        rw [neq (by omega) (by decide)] at q
                        exact q
                      refine x_aload0 G d_M_nextToken_179 ?_
                      refine m_getr G d_M_nextToken_180 fl_M_59 rfl (by decide) rfl ?_
                      refine x_aload0 G d_M_nextToken_183 ?_
                      refine m_geti G d_M_nextToken_184 fl_M_230 rfl (by decide) rfl ?_
                      rw [h719]
                      refine m_iald k G d_M_nextToken_187 rfl rfl ⟨by omega, by first | decide | omega⟩ ?_
                      rw [show σ7 129 k = nI (B k) by rw [e7, updS_nk (by decide)]; exact hb5.2 k hkl]
                      refine x_goto G d_M_nextToken_188 ?_
                      refine m_puti_n G d_M_nextToken_192 fl_M_236 rfl (by decide) rfl rfl rfl (fun σ8 e8 => ?_)
                      have hFx : ∀ j, (j < 19 ∨ 24 ≤ j) → σ8 113 j = σ 113 j := fun j a => by rw [e8, updS_ne (by omega), e7, updS_ne (by omega)]; exact hF5 j a
                      have hGx : ∀ q, q ≠ 113 → σ8 q = σ q := fun q a => by rw [e8, updS_nk a, e7, updS_nk a]; exact hG5 q a
                      have hfin : PV (fun σ1 => TkM B (lexT B n p (wsB p tok)) σ1 ∧ (∀ j, (j < 19 ∨ 24 ≤ j) → σ1 113 j = σ 113 j) ∧ ∀ q, q ≠ 113 → σ1 q = σ q) none σ8 := ⟨rfl, (by rw [lexT_wrd hrun hkl hwd, hend, w125]; exact ⟨by rw [e8, updS_ne (by decide), h719], by rw [e8, updS_ne (by decide), h720], by rw [e8, updS_ne (by decide), e7, updS_at]; unfold tkI; rw [if_neg (show ¬ (256 : Nat) = 258 by decide), if_pos rfl, if_pos (by show (wsB p tok && decide (k = p)) = true; rw [w154])], fun _ => by rw [e8, updS_at]; show _ = if z - k = 1 then _ else _; rw [if_pos w176], fun y => absurd y (show ¬ (256 : Nat) = 257 by decide), fun y => absurd y (show ¬ (256 : Nat) < 256 by decide)⟩), hFx, hGx⟩
                      refine x_goto G d_M_nextToken_195 ?_
                      exact m_vret E G d_M_nextToken_339 hx rfl hfin
                · have hzy := sgB_y (bI_n0.mp c136)
                  refine x_aload0 G d_M_nextToken_139 ?_
                  refine x_dup G d_M_nextToken_140 rfl ?_
                  refine m_geti G d_M_nextToken_141 fl_M_224 rfl (by decide) rfl ?_
                  rw [h520]
                  refine x_iconst (v := nI 1) G d_M_nextToken_144 rfl ?_
                  refine x_iadd G d_M_nextToken_145 ?_
                  rw [show nI z + nI 1 = nI (z + 1) from nI_1 _]
                  refine m_puti_n G d_M_nextToken_146 fl_M_224 rfl (by decide) rfl rfl rfl (fun σ6 e6 => ?_)
                  refine x_goto G d_M_nextToken_149 ?_
                  exact ih (z + 1) σ6 (by omega) (by omega) (by omega) (Or.inr ⟨by omega, by rcases hru2 with q | q; rw [q]; rw [q.2, run_yes hzy.1 (decide_eq_true (by rw [hzy.2, w125]))]⟩) (by rw [e6, updS_at]) (by rw [e6, updS_ne (by decide)]; exact h519) (fun j a => by rw [e6, updS_ne (by omega)]; exact hF5 j a) (fun q a => by rw [e6, updS_nk a]; exact hG5 q a)
            exact hloopW (n + 1) k σ2 (by omega) (Nat.le_refl _) (by omega) (Or.inl rfl) h20b h19 hF2 hG2
        · have hkl : k = n := by
            have q := c106
            rw [neq (by omega) (by omega)] at q
            exact q
          refine x_aload0 G d_M_nextToken_109 ?_
          refine x_iconst (v := nI 0) G d_M_nextToken_110 rfl ?_
          refine m_puti_n G d_M_nextToken_111 fl_M_227 rfl (by decide) rfl rfl rfl (fun σ3 e3 => ?_)
          have hFx : ∀ j, (j < 19 ∨ 24 ≤ j) → σ3 113 j = σ 113 j := fun j a => by rw [e3, updS_ne (by omega)]; exact hF2 j a
          have hGx : ∀ q, q ≠ 113 → σ3 q = σ q := fun q a => by rw [e3, updS_nk a]; exact hG2 q a
          have hfin : PV (fun σ1 => TkM B (lexT B n p (wsB p tok)) σ1 ∧ (∀ j, (j < 19 ∨ 24 ≤ j) → σ1 113 j = σ 113 j) ∧ ∀ q, q ≠ 113 → σ1 q = σ q) none σ3 := ⟨rfl, (by rw [lexT_end (by rw [hrun, hkl])]; exact ⟨by rw [e3, updS_ne (by decide), h19, hkl], by rw [e3, updS_ne (by decide), h20b, hkl], by rw [e3, updS_at]; rfl, fun z => absurd z (show ¬ (258 : Nat) = 256 by decide), fun z => absurd z (show ¬ (258 : Nat) = 257 by decide), fun z => absurd z (show ¬ (258 : Nat) < 256 by decide)⟩), hFx, hGx⟩
          refine x_goto G d_M_nextToken_114 ?_
          exact m_vret E G d_M_nextToken_339 hx rfl hfin
      refine x_iload1 G d_M_nextToken_72 ?_
      refine x_if_eq G d_M_nextToken_73 (fun c73 => ?_) (fun c73 => ?_)
      · replace c73 := bI_0.mp c73
        refine x_iconst (v := nI 0) G d_M_nextToken_88 rfl ?_
        exact J89 _ (by rw [c73]; (try rw [decide_eq_false w81]); (try rw [decide_eq_true w81]); rfl)
      · replace c73 := bI_n0.mp c73
        refine x_iload2 G d_M_nextToken_76 ?_
        refine x_aload0 G d_M_nextToken_77 ?_
        refine m_geti G d_M_nextToken_78 fl_M_224 rfl (by decide) rfl ?_
        rw [h20]
        refine x_icmp_ne G d_M_nextToken_81 (fun c81 => ?_) (fun c81 => ?_)
        · have w81 : ¬ k = p := fun e => c81 (by rw [e])
          refine x_iconst (v := nI 0) G d_M_nextToken_88 rfl ?_
          exact J89 _ (by rw [c73]; (try rw [decide_eq_false w81]); (try rw [decide_eq_true w81]); rfl)
        · have w81 : k = p := by
            have q := c81
            rw [neq (by omega) (by omega)] at q
            exact q.symm
          refine x_iconst (v := nI 1) G d_M_nextToken_84 rfl ?_
          refine x_goto G d_M_nextToken_85 ?_
          exact J89 _ (by rw [c73]; (try rw [decide_eq_false w81]); (try rw [decide_eq_true w81]); rfl)
    refine x_aload0 G d_M_nextToken_29 ?_
    refine m_geti G d_M_nextToken_30 fl_M_224 rfl (by decide) rfl ?_
    rw [hp]
    refine x_istore2 G d_M_nextToken_33 rfl hk ?_
    have hloop : ∀ (m k : Nat) (σ1 : Sg), k ≤ n → p ≤ k → n < k + m → run (fun i => decide (B i = 32)) n p = run (fun i => decide (B i = 32)) n k → σ1 113 20 = nI k → (∀ j, (j < 19 ∨ 24 ≤ j) → σ1 113 j = σ 113 j) → (∀ q, q ≠ 113 → σ1 q = σ q) → X κ NC 34 [some (.ref 113), some (.int (bI (wsB p tok))), some (.int (nI p))] [] (hv σ1) := by
      intro m
      induction m with
      | zero => intro k σ1 h1 h2 h3; omega
      | succ m ih =>
        intro k σ1 hk1 hk2 hk3 hru h20 hF hG
        have hb : ByM B n σ1 := hby.frame (hF 18 (by decide)) (hG 129 (by decide))
        refine x_aload0 G d_M_nextToken_34 ?_
        refine m_geti G d_M_nextToken_35 fl_M_224 rfl (by decide) rfl ?_
        rw [h20]
        refine x_aload0 G d_M_nextToken_38 ?_
        refine m_geti G d_M_nextToken_39 fl_M_213 rfl (by decide) rfl ?_
        rw [hb.1]
        refine x_icmp_ge G d_M_nextToken_42 (fun c42 => ?_) (fun c42 => ?_)
        · have hkn : k = n := by rw [nle (by omega) (by omega)] at c42; omega
          first
            | exact J72 k σ1 (by rw [hru, hkn, run_n]) (by omega) (by omega) h20 hF hG
            | exact J72 k σ1 (by rw [hru]; exact run_no hkn (decide_eq_false h32)) (by omega) (by omega) h20 hF hG
        · have hkn : k < n := by rw [nle (by omega) (by omega)] at c42; omega
          refine x_aload0 G d_M_nextToken_45 ?_
          refine m_getr G d_M_nextToken_46 fl_M_59 rfl (by decide) rfl ?_
          refine x_aload0 G d_M_nextToken_49 ?_
          refine m_geti G d_M_nextToken_50 fl_M_224 rfl (by decide) rfl ?_
          rw [h20]
          refine m_iald k G d_M_nextToken_53 rfl rfl ⟨by omega, by first | decide | omega⟩ ?_
          rw [hb.2 k hkn]
          refine x_bipush (v := nI 32) G d_M_nextToken_54 rfl ?_
          refine x_icmp_ne G d_M_nextToken_56 (fun c56 => ?_) (fun c56 => ?_)
          · have h32 : B k ≠ 32 := fun z => c56 (by rw [z])
            first
              | exact J72 k σ1 (by rw [hru, hkn, run_n]) (by omega) (by omega) h20 hF hG
              | exact J72 k σ1 (by rw [hru]; exact run_no hkn (decide_eq_false h32)) (by omega) (by omega) h20 hF hG
          · have h32 : B k = 32 := by
              have z := c56
              rw [neq (by have := hB k hkn; omega) (by decide)] at z
              exact z
            refine x_aload0 G d_M_nextToken_59 ?_
            refine x_dup G d_M_nextToken_60 rfl ?_
            refine m_geti G d_M_nextToken_61 fl_M_224 rfl (by decide) rfl ?_
            rw [h20]
            refine x_iconst (v := nI 1) G d_M_nextToken_64 rfl ?_
            refine x_iadd G d_M_nextToken_65 ?_
            rw [show nI k + nI 1 = nI (k + 1) from nI_1 _]
            refine m_puti_n G d_M_nextToken_66 fl_M_224 rfl (by decide) rfl rfl rfl (fun σ2 e2 => ?_)
            refine x_goto G d_M_nextToken_69 ?_
            exact ih (k + 1) σ2 (by omega) (by omega) (by omega) (by rw [hru, run_yes hkn (decide_eq_true h32)]) (by rw [e2, updS_at]) (fun j a => by rw [e2, updS_ne (by omega)]; exact hF j a) (fun q a => by rw [e2, updS_nk a]; exact hG q a)
    exact hloop (n + 1) p σ hpn (Nat.le_refl _) (by omega) rfl hp (fun _ _ => rfl) (fun _ _ => rfl)
  refine m_geti G d_M_nextToken_1 fl_M_224 rfl (by decide) rfl ?_
  rw [hp]
  refine x_if_le G d_M_nextToken_4 (fun c4 => ?_) (fun c4 => ?_)
  · have w4 : ¬ 0 < p := by
      rw [show (0 : Int32) = nI 0 from nI_0.symm, nle (by omega) (by decide)] at c4
      omega
    refine x_iconst (v := nI 0) G d_M_nextToken_27 rfl ?_
    exact J28 _ (by unfold wsB; (try rw [decide_eq_false w4]); (try rw [decide_eq_true w4]); (try rw [decide_eq_true c12]); (try rw [decide_eq_false c12]); (try rw [decide_eq_false c20]); (try rw [decide_eq_true c20]); rfl)
  · have w4 : 0 < p := by
      rw [show (0 : Int32) = nI 0 from nI_0.symm, nle (by omega) (by decide)] at c4
      omega
    refine x_aload0 G d_M_nextToken_7 ?_
    refine m_geti G d_M_nextToken_8 fl_M_227 rfl (by decide) rfl ?_
    rw [hto]
    refine x_iconst (v := nI 1) G d_M_nextToken_11 rfl ?_
    refine x_icmp_eq G d_M_nextToken_12 (fun c12 => ?_) (fun c12 => ?_)
    · refine x_iconst (v := nI 1) G d_M_nextToken_23 rfl ?_
      refine x_goto G d_M_nextToken_24 ?_
      exact J28 _ (by unfold wsB; (try rw [decide_eq_false w4]); (try rw [decide_eq_true w4]); (try rw [decide_eq_true c12]); (try rw [decide_eq_false c12]); (try rw [decide_eq_false c20]); (try rw [decide_eq_true c20]); rfl)
    · refine x_aload0 G d_M_nextToken_15 ?_
      refine m_geti G d_M_nextToken_16 fl_M_227 rfl (by decide) rfl ?_
      rw [hto]
      refine x_iconst (v := nI 2) G d_M_nextToken_19 rfl ?_
      refine x_icmp_ne G d_M_nextToken_20 (fun c20 => ?_) (fun c20 => ?_)
      · refine x_iconst (v := nI 0) G d_M_nextToken_27 rfl ?_
        exact J28 _ (by unfold wsB; (try rw [decide_eq_false w4]); (try rw [decide_eq_true w4]); (try rw [decide_eq_true c12]); (try rw [decide_eq_false c12]); (try rw [decide_eq_false c20]); (try rw [decide_eq_true c20]); rfl)
      · refine x_iconst (v := nI 1) G d_M_nextToken_23 rfl ?_
        refine x_goto G d_M_nextToken_24 ?_
        exact J28 _ (by unfold wsB; (try rw [decide_eq_false w4]); (try rw [decide_eq_true w4]); (try rw [decide_eq_true c12]); (try rw [decide_eq_false c12]); (try rw [decide_eq_false c20]); (try rw [decide_eq_true c20]); rfl)
