/-! THE CLASS'S TAPE: the words and signs, its small methods -/
theorem m_putz_n {κ : KX} {own : String} {b : ByteArray} {d : Nat} {pc q : Nat} {L : List (Option Value)} {st : List Value} {σ : Sg} {idx ci j k : Nat} {x : Int32} (G : Gc κ own b d) (hd : dc b pc q (.putfield idx) 3) (fl : FL own idx ci j) (hs : shp k = .inl ci) (hk : k < 135) (hi : ivk k j = true) (hf : ((gcl ci).2.1 j).2.2.2 = false) (ht : clty ci j = .boolean) (hx : x = 0 ∨ x = 1) (kk : ∀ σ', σ' = updS σ k j x → X κ NC q L st (hv σ')) : X κ NC pc L (.int x :: .ref k :: st) (hv σ) := m_putz G hd fl hs hk hi hf ht hx (kk _ rfl)
/-- the Tape's word or sign ahead -/
def TkC (k : Tk) (σ : Sg) : Prop := σ 73 6 = nI k.st ∧ σ 73 7 = nI k.en ∧ σ 73 8 = nI k.sg ∧ σ 73 9 = bI k.gl
def ByC (B : Nat → Nat) (n : Nat) (σ : Sg) : Prop := σ 73 2 = nI n ∧ ∀ i, i < n → σ 74 i = nI (B i)
theorem ByC.frame {B : Nat → Nat} {n : Nat} {σ σ' : Sg} (h : ByC B n σ) (h2 : σ' 73 2 = σ 73 2) (h3 : σ' 74 = σ 74) : ByC B n σ' := ⟨by rw [h2]; exact h.1, fun i hi => by rw [h3]; exact h.2 i hi⟩
theorem sgN_lt {b : Nat} (h : b < 256) : sgN b < 258 := by rcases sgN_cases b with q | q | q <;> omega
theorem lexT_end {B : Nat → Nat} {n p : Nat} {was : Bool} (h : run (fun i => decide (B i = 32)) n p = n) : lexT B n p was = (258, n, n, false) := by unfold lexT; rw [if_pos h]
theorem lexT_wrd {B : Nat → Nat} {n p s : Nat} {was : Bool} (h : run (fun i => decide (B i = 32)) n p = s) (hs : s < n) (hw : isWd (sgN (B s)) = true) : lexT B n p was = (sgN (B s), s, run (fun i => decide (sgN (B i) = sgN (B s))) n (s + 1), was && decide (s = p)) := by
  unfold lexT; rw [h, if_neg (by omega), if_pos hw]
theorem lexT_sgn {B : Nat → Nat} {n p s : Nat} {was : Bool} (h : run (fun i => decide (B i = 32)) n p = s) (hs : s < n) (hw : isWd (sgN (B s)) = false) : lexT B n p was = (sgN (B s), s, s + 1, false) := by
  unfold lexT; rw [h, if_neg (by omega), if_neg (by rw [hw]; decide)]
theorem isWd_n {c : Nat} (h : isWd c = false) : c ≠ 256 ∧ c ≠ 257 := by unfold isWd at h; simpa using h
theorem isWd_y {c : Nat} (h : isWd c = true) : c = 256 ∨ c = 257 := by unfold isWd at h; simpa using h
def lvI (c : Nat) : Int32 := if lvN c < 9 then nI (lvN c) else -1
theorem lvI_lv {c lv : Nat} (hlv : lv < 5) : lvI c = nI lv ↔ lvN c = lv := by
  unfold lvI
  by_cases h : lvN c < 9
  · rw [if_pos h, neq (by omega) (by omega)]
  · rw [if_neg h]
    exact ⟨fun e => absurd e.symm (nI_m1 (by omega)), fun e => absurd (by rw [e]; omega) h⟩
def nmI (key c : Nat) : Int32 := if leB key c = true then nI (lix key c) else -1
theorem ix_nm : ∀ key, key < 3 → ∀ c, c < 128 → txF (3 + key) c 0 (sL (3 + key)) = nmI key c := by decide +kernel
theorem chr_c : ∀ c, c < 256 → ((nI c).toUInt32 % 65536).toInt32 = nI c := by decide +kernel
/-- the bytes from s on are a, b, c, d, and no more -/
def wd4 (B : Nat → Nat) (st en a b c d : Nat) : Bool := decide (en = st + 4) && decide (B st = a) && decide (B (st + 1) = b) && decide (B (st + 2) = c) && decide (B (st + 3) = d)
def keyN (B : Nat → Nat) (st en : Nat) : Nat := if wd4 B st en 119 97 108 107 = true then 0 else if wd4 B st en 116 111 108 108 = true then 1 else if wd4 B st en 102 105 110 101 = true then 2 else 3
def keyI (k : Nat) : Int32 := if k < 3 then nI k else -1
def kwB (B : Nat → Nat) (st en i : Nat) : Bool := decide (en = st + 4) && (List.range 4).all fun j => decide (nI (B (st + j)) = sB i j)
theorem kw_4 {B : Nat → Nat} {n st en : Nat} (hB : ∀ i, i < n → B i < 256) (hen : en ≤ n) : kwB B st en 0 = wd4 B st en 119 97 108 107 ∧ kwB B st en 1 = wd4 B st en 116 111 108 108 ∧ kwB B st en 2 = wd4 B st en 102 105 110 101 := by
  by_cases h : en = st + 4
  · have h0 := hB st (by omega)
    have h1 := hB (st + 1) (by omega)
    have h2 := hB (st + 2) (by omega)
    have h3 := hB (st + 3) (by omega)
    have e : ∀ (x c : Nat), x < 256 → c < 256 → decide (nI x = nI c) = decide (x = c) := fun x c hx hc => by
      rw [decide_eq_decide]; exact neq (by omega) (by omega)
    unfold kwB wd4
    have r4 : List.range 4 = [0, 1, 2, 3] := rfl
    rw [decide_eq_true h, r4]
    simp only [List.all_cons, List.all_nil, Bool.true_and, Bool.and_true, Nat.add_zero]
    refine ⟨?_, ?_, ?_⟩
    · rw [show sB 0 0 = nI 119 from rfl, show sB 0 1 = nI 97 from rfl, show sB 0 2 = nI 108 from rfl, show sB 0 3 = nI 107 from rfl, e _ _ h0 (by decide), e _ _ h1 (by decide), e _ _ h2 (by decide), e _ _ h3 (by decide), Bool.and_assoc, Bool.and_assoc]
    · rw [show sB 1 0 = nI 116 from rfl, show sB 1 1 = nI 111 from rfl, show sB 1 2 = nI 108 from rfl, show sB 1 3 = nI 108 from rfl, e _ _ h0 (by decide), e _ _ h1 (by decide), e _ _ h2 (by decide), e _ _ h3 (by decide), Bool.and_assoc, Bool.and_assoc]
    · rw [show sB 2 0 = nI 102 from rfl, show sB 2 1 = nI 105 from rfl, show sB 2 2 = nI 110 from rfl, show sB 2 3 = nI 101 from rfl, e _ _ h0 (by decide), e _ _ h1 (by decide), e _ _ h2 (by decide), e _ _ h3 (by decide), Bool.and_assoc, Bool.and_assoc]
  · unfold kwB wd4
    rw [decide_eq_false h]
    simp
/-- the first j bytes are text i's -/
def kwJ (B : Nat → Nat) (st i j : Nat) : Prop := ∀ m, m < j → nI (B (st + m)) = sB i m
theorem kw_yes {B : Nat → Nat} {st en i : Nat} (h : en = st + 4) (hj : kwJ B st i 4) : kwB B st en i = true := by
  unfold kwB
  rw [decide_eq_true h]
  simp only [Bool.true_and, List.all_eq_true, List.mem_range, decide_eq_true_eq]
  exact hj
theorem kw_no {B : Nat → Nat} {st en i j : Nat} (hj4 : j < 4) (hj : ¬ nI (B (st + j)) = sB i j) : kwB B st en i = false := by
  unfold kwB
  rw [Bool.and_eq_false_iff]
  refine Or.inr ?_
  rw [List.all_eq_false]
  exact ⟨j, List.mem_range.mpr hj4, by simpa using hj⟩
/-- where the Tape's reading is -/
def TapC (B : Nat → Nat) (n key : Nat) (s : PS) (σ : Sg) : Prop := ByC B n σ ∧ TkC s.tk σ ∧ σ 73 3 = nI s.out.length ∧ σ 73 4 = nI key ∧ σ 73 5 = nI s.ops ∧ ∀ k x, s.out[k]? = some x → σ 75 k = encO key (nI x.1) (nI x.2)
def OutT (σ σ1 : Sg) : Prop := ∀ q, q ≠ 73 → q ≠ 75 → σ1 q = σ q
theorem OutT.trans {σ σ1 σ2 : Sg} (h : OutT σ σ1) (g : OutT σ1 σ2) : OutT σ σ2 := fun q a b => (g q a b).trans (h q a b)
theorem TapC.emit {B : Nat → Nat} {n key : Nat} {s : PS} {σ σ1 : Sg} {a v : Nat} {x : Int32} (h : TapC B n key s σ) (hx : x = encO key (nI a) (nI v)) (e : σ1 = updS (updS σ 75 s.out.length x) 73 3 (nI (s.out.length + 1))) : TapC B n key (emP s a v) σ1 ∧ OutT σ σ1 := by
  obtain ⟨h1, h2, h3, h4, h5, h6⟩ := h
  have g : ∀ j, j ≠ 3 → σ1 73 j = σ 73 j := fun j hj => by rw [e, updS_ne (by omega), updS_nk (by decide)]
  refine ⟨⟨h1.frame (g 2 (by decide)) (by rw [e, updS_nk (by decide), updS_nk (by decide)]), ⟨by rw [g 6 (by decide)]; exact h2.1, by rw [g 7 (by decide)]; exact h2.2.1, by rw [g 8 (by decide)]; exact h2.2.2.1, by rw [g 9 (by decide)]; exact h2.2.2.2⟩, by rw [e, updS_at]; show _ = nI (s.out ++ [(a, v)]).length; simp, by rw [g 4 (by decide)]; exact h4, by rw [g 5 (by decide)]; exact h5, fun k y hy => ?_⟩, fun q a b => by rw [e, updS_nk a, updS_nk b]⟩
  have hy' : (s.out ++ [(a, v)])[k]? = some y := hy
  rw [e, updS_nk (by decide), updS_row]
  by_cases hk : k < s.out.length
  · rw [List.getElem?_append_left hk] at hy'
    rw [pk_un (by omega)]
    exact h6 k y hy'
  · have hk2 : k = s.out.length := by
      have := (List.getElem?_eq_some_iff.mp hy').1
      simp at this
      omega
    subst hk2
    simp at hy'
    rw [pk_us, ← hy', hx]
theorem TapC.adv {B : Nat → Nat} {n key : Nat} {s : PS} {σ σ1 : Sg} (h : TapC B n key s σ) (hT : TkC (adv B n s.tk) σ1) (hF : ∀ j, j ≠ 6 → j ≠ 7 → j ≠ 8 → j ≠ 9 → σ1 73 j = σ 73 j) (hG : ∀ q, q ≠ 73 → σ1 q = σ q) : TapC B n key (adP B n s) σ1 ∧ OutT σ σ1 := by
  obtain ⟨h1, h2, h3, h4, h5, h6⟩ := h
  exact ⟨⟨h1.frame (hF 2 (by decide) (by decide) (by decide) (by decide)) (hG 74 (by decide)), hT, by rw [hF 3 (by decide) (by decide) (by decide) (by decide)]; exact h3, by rw [hF 4 (by decide) (by decide) (by decide) (by decide)]; exact h4, by rw [hF 5 (by decide) (by decide) (by decide) (by decide)]; exact h5, fun k x hx => by rw [hG 75 (by decide)]; exact h6 k x hx⟩, fun q a _ => hG q a⟩
theorem p_Ta_signOf (g : CX) (d : Nat) (hd : 0 ≤ d) (σ : Sg) (x : Nat) (hx9 : x < 256) : RunM g d Ta_signOf [.int (nI x)] σ (PI (nI (sgN x)) σ) := by
  refine RunM.of 0 (by decide +kernel) rfl ?_
  intro κ hg hx hk0 G E
  subst hg
  have hk : 1 ≤ kn κ := Nat.le_of_eq hk0.symm
  show X κ NC 0 [some (.int (nI x))] [] (hv σ)
  refine x_iload0 G d_Ta_signOf_0 ?_
  refine x_bipush (v := nI 97) G d_Ta_signOf_1 rfl ?_
  refine x_icmp_lt G d_Ta_signOf_3 (fun c3 => ?_) (fun c3 => ?_)
  · have w3 : x < 97 := by rw [nlt (by omega) (by omega)] at c3; omega
    refine x_iload0 G d_Ta_signOf_18 ?_
    refine x_bipush (v := nI 48) G d_Ta_signOf_19 rfl ?_
    refine x_icmp_lt G d_Ta_signOf_21 (fun c21 => ?_) (fun c21 => ?_)
    · have w21 : x < 48 := by rw [nlt (by omega) (by omega)] at c21; omega
      refine x_iload0 G d_Ta_signOf_36 ?_
      exact m_iret E G d_Ta_signOf_37 hx rfl rfl (pi_of (congrArg nI (by unfold sgN; (repeat' split) <;> omega)))
    · have w21 : 48 ≤ x := by rw [nlt (by omega) (by omega)] at c21; omega
      refine x_iload0 G d_Ta_signOf_24 ?_
      refine x_bipush (v := nI 57) G d_Ta_signOf_25 rfl ?_
      refine x_icmp_gt G d_Ta_signOf_27 (fun c27 => ?_) (fun c27 => ?_)
      · have w27 : 57 < x := by rw [nlt (by omega) (by omega)] at c27; omega
        refine x_iload0 G d_Ta_signOf_36 ?_
        exact m_iret E G d_Ta_signOf_37 hx rfl rfl (pi_of (congrArg nI (by unfold sgN; (repeat' split) <;> omega)))
      · have w27 : x ≤ 57 := by rw [nlt (by omega) (by omega)] at c27; omega
        refine x_sipush (v := nI 257) G d_Ta_signOf_30 rfl ?_
        refine x_goto G d_Ta_signOf_33 ?_
        exact m_iret E G d_Ta_signOf_37 hx rfl rfl (pi_of (congrArg nI (by unfold sgN; (repeat' split) <;> omega)))
  · have w3 : 97 ≤ x := by rw [nlt (by omega) (by omega)] at c3; omega
    refine x_iload0 G d_Ta_signOf_6 ?_
    refine x_bipush (v := nI 122) G d_Ta_signOf_7 rfl ?_
    refine x_icmp_gt G d_Ta_signOf_9 (fun c9 => ?_) (fun c9 => ?_)
    · have w9 : 122 < x := by rw [nlt (by omega) (by omega)] at c9; omega
      refine x_iload0 G d_Ta_signOf_18 ?_
      refine x_bipush (v := nI 48) G d_Ta_signOf_19 rfl ?_
      refine x_icmp_lt G d_Ta_signOf_21 (fun c21 => ?_) (fun c21 => ?_)
      · have w21 : x < 48 := by rw [nlt (by omega) (by omega)] at c21; omega
        refine x_iload0 G d_Ta_signOf_36 ?_
        exact m_iret E G d_Ta_signOf_37 hx rfl rfl (pi_of (congrArg nI (by unfold sgN; (repeat' split) <;> omega)))
      · have w21 : 48 ≤ x := by rw [nlt (by omega) (by omega)] at c21; omega
        refine x_iload0 G d_Ta_signOf_24 ?_
        refine x_bipush (v := nI 57) G d_Ta_signOf_25 rfl ?_
        refine x_icmp_gt G d_Ta_signOf_27 (fun c27 => ?_) (fun c27 => ?_)
        · have w27 : 57 < x := by rw [nlt (by omega) (by omega)] at c27; omega
          refine x_iload0 G d_Ta_signOf_36 ?_
          exact m_iret E G d_Ta_signOf_37 hx rfl rfl (pi_of (congrArg nI (by unfold sgN; (repeat' split) <;> omega)))
        · have w27 : x ≤ 57 := by rw [nlt (by omega) (by omega)] at c27; omega
          refine x_sipush (v := nI 257) G d_Ta_signOf_30 rfl ?_
          refine x_goto G d_Ta_signOf_33 ?_
          exact m_iret E G d_Ta_signOf_37 hx rfl rfl (pi_of (congrArg nI (by unfold sgN; (repeat' split) <;> omega)))
    · have w9 : x ≤ 122 := by rw [nlt (by omega) (by omega)] at c9; omega
      refine x_sipush (v := nI 256) G d_Ta_signOf_12 rfl ?_
      refine x_goto G d_Ta_signOf_15 ?_
      exact m_iret E G d_Ta_signOf_37 hx rfl rfl (pi_of (congrArg nI (by unfold sgN; (repeat' split) <;> omega)))
theorem p_Ta_advance (g : CX) (d : Nat) (hd : 1 ≤ d) (σ : Sg) (B : Nat → Nat) (n : Nat) (hn96 : n ≤ 96) (hB : ∀ i, i < n → B i < 256) (hby : ByC B n σ) (p sg : Nat) (hpn : p ≤ n) (hp : σ 73 7 = nI p) (hsg : σ 73 8 = nI sg) (hs9 : sg < 259) : RunM g d Ta_advance [.ref 73] σ (PV (fun σ1 => TkC (lexT B n p (isWd sg)) σ1 ∧ (∀ j, j ≠ 6 → j ≠ 7 → j ≠ 8 → j ≠ 9 → σ1 73 j = σ 73 j) ∧ ∀ q, q ≠ 73 → σ1 q = σ q)) := by
  refine RunM.of 3 (by decide +kernel) rfl ?_
  intro κ hg hx hk0 G E
  subst hg
  have hk : 4 ≤ kn κ := Nat.le_of_eq hk0.symm
  show X κ NC 0 [some (.ref 73), none, none, none] [] (hv σ)
  refine x_aload0 G d_Ta_advance_0 ?_
  refine m_geti G d_Ta_advance_1 fl_Ta_34 rfl (by decide) rfl ?_
  rw [hp]
  refine x_istore1 G d_Ta_advance_4 rfl hk ?_
  have J30 : ∀ y : Int32, y = bI (isWd sg) → X κ NC 30 [some (.ref 73), some (.int (nI p)), none, none] [.int y] (hv σ) := by
    intro y hy
    subst hy
    refine x_istore2 G d_Ta_advance_30 rfl hk ?_
    have J77 : ∀ (k : Nat) (σ1 : Sg), run (fun i => decide (B i = 32)) n p = k → k ≤ n → p ≤ k → σ1 73 6 = nI k → (∀ j, j ≠ 6 → σ1 73 j = σ 73 j) → (∀ q, q ≠ 73 → σ1 q = σ q) → X κ NC 77 [some (.ref 73), some (.int (nI p)), some (.int (bI (isWd sg))), none] [] (hv σ1) := by
      intro k σ1 hrun hkn hpk h6 hF hG
      have hlen : σ1 73 2 = nI n := by rw [hF 2 (by decide)]; exact hby.1
      have hbt : ∀ i, i < n → σ1 74 i = nI (B i) := fun i hi => by rw [hG 74 (by decide)]; exact hby.2 i hi
      have hcase : (k < n ∧ isWd (sgN (B k)) = true) ∨ (k < n ∧ isWd (sgN (B k)) = false) ∨ k = n := by
        rcases Nat.lt_or_ge k n with q | q
        · cases isWd (sgN (B k)) with
          | true => exact Or.inl ⟨q, rfl⟩
          | false => exact Or.inr (Or.inl ⟨q, rfl⟩)
        · exact Or.inr (Or.inr (by omega))
      rcases hcase with ⟨hkl, hw⟩ | ⟨hkl, hw⟩ | hkl
      · have hbk := hB k hkl
        have hsl := sgN_lt hbk
        refine x_aload0 G d_Ta_advance_77 ?_
        refine x_aload0 G d_Ta_advance_78 ?_
        refine m_geti G d_Ta_advance_79 fl_Ta_31 rfl (by decide) rfl ?_
        rw [h6]
        refine x_aload0 G d_Ta_advance_82 ?_
        refine m_geti G d_Ta_advance_83 fl_Ta_18 rfl (by decide) rfl ?_
        rw [hlen]
        refine x_icmp_ge G d_Ta_advance_86 (fun c86 => absurd c86 ((nI_ge hkl (by omega)))) (fun c86 => ?_)
        refine x_aload0 G d_Ta_advance_89 ?_
        refine m_getr G d_Ta_advance_90 fl_Ta_9 rfl (by decide) rfl ?_
        refine x_aload0 G d_Ta_advance_93 ?_
        refine m_geti G d_Ta_advance_94 fl_Ta_31 rfl (by decide) rfl ?_
        rw [h6]
        refine m_iald k G d_Ta_advance_97 rfl rfl ⟨by omega, by first | decide | omega⟩ ?_
        rw [hbt k hkl]
        refine m_callS_pi (p_Ta_signOf (kg κ) (d - 1) (by omega) σ1 (B k) (hB k hkl)) G d_Ta_advance_98 lk_Ta_73 (by omega) rfl (Nat.le_of_ble_eq_true rfl) hx ?_
        refine x_goto G d_Ta_advance_101 ?_
        refine m_puti_n G d_Ta_advance_107 fl_Ta_37 rfl (by decide) rfl rfl rfl (fun σ2 e2 => ?_)
        refine x_aload0 G d_Ta_advance_110 ?_
        refine x_aload0 G d_Ta_advance_111 ?_
        refine m_geti G d_Ta_advance_112 fl_Ta_37 rfl (by decide) rfl ?_
        rw [show σ2 73 8 = nI (sgN (B k)) by rw [e2, updS_at]]
        refine x_sipush (v := nI 258) G d_Ta_advance_115 rfl ?_
        refine x_icmp_ne G d_Ta_advance_118 (fun c118 => ?_) (fun c118 => absurd c118 ((by rw [neq (by omega) (by omega)]; omega)))
        refine x_aload0 G d_Ta_advance_128 ?_
        refine m_geti G d_Ta_advance_129 fl_Ta_31 rfl (by decide) rfl ?_
        rw [show σ2 73 6 = nI k by rw [e2, updS_ne (by decide)]; exact h6]
        refine x_iconst (v := nI 1) G d_Ta_advance_132 rfl ?_
        refine x_iadd G d_Ta_advance_133 ?_
        rw [show nI k + nI 1 = nI (k + 1) from nI_1 _]
        refine m_puti_n G d_Ta_advance_134 fl_Ta_34 rfl (by decide) rfl rfl rfl (fun σ3 e3 => ?_)
        have hF3 : ∀ j, j ≠ 6 → j ≠ 7 → j ≠ 8 → j ≠ 9 → σ3 73 j = σ 73 j := fun j a b c _ => by rw [e3, updS_ne (by omega), e2, updS_ne (by omega)]; exact hF j a
        have hG3 : ∀ q, q ≠ 73 → σ3 q = σ q := fun q a => by rw [e3, updS_nk a, e2, updS_nk a]; exact hG q a
        have h36 : σ3 73 6 = nI k := by rw [e3, updS_ne (by decide), e2, updS_ne (by decide)]; exact h6
        have h38 : σ3 73 8 = nI (sgN (B k)) := by rw [e3, updS_ne (by decide), e2, updS_at]
        refine x_aload0 G d_Ta_advance_137 ?_
        refine m_geti G d_Ta_advance_138 fl_Ta_37 rfl (by decide) rfl ?_
        rw [h38]
        refine x_sipush (v := nI 256) G d_Ta_advance_141 rfl ?_
        refine x_icmp_eq G d_Ta_advance_144 (fun c144 => ?_) (fun c144 => ?_)
        · have w144 : sgN (B k) = 256 := by rw [neq (by omega) (by omega)] at c144; exact c144
          refine x_iconst (v := nI 1) G d_Ta_advance_157 rfl ?_
          refine x_goto G d_Ta_advance_158 ?_
          refine x_istore3 G d_Ta_advance_162 rfl hk ?_
          have hloop2 : ∀ (m z : Nat) (σ5 : Sg), z ≤ n → k + 1 ≤ z → n < z + m → run (fun i => decide (sgN (B i) = sgN (B k))) n (k + 1) = run (fun i => decide (sgN (B i) = sgN (B k))) n z → σ5 73 7 = nI z → σ5 73 8 = nI (sgN (B k)) → σ5 73 6 = nI k → (∀ j, j ≠ 6 → j ≠ 7 → j ≠ 8 → j ≠ 9 → σ5 73 j = σ 73 j) → (∀ q, q ≠ 73 → σ5 q = σ q) → X κ NC 163 [some (.ref 73), some (.int (nI p)), some (.int (bI (isWd sg))), some (.int (nI 1))] [] (hv σ5) := by
            intro m
            induction m with
            | zero => intro z σ5 h1 h2 h3; omega
            | succ m ih =>
              intro z σ5 hz1 hz2 hz3 hru2 h57 h58 h36 hF3 hG3
              have hlen5 : σ5 73 2 = nI n := by rw [hF3 2 (by decide) (by decide) (by decide) (by decide)]; exact hby.1
              have hbt5 : ∀ i, i < n → σ5 74 i = nI (B i) := fun i hi => by rw [hG3 74 (by decide)]; exact hby.2 i hi
              refine x_iload3 G d_Ta_advance_163 ?_
              refine x_if_eq G d_Ta_advance_164 (fun c164 => absurd c164 ((by decide +kernel))) (fun c164 => ?_)
              refine x_aload0 G d_Ta_advance_167 ?_
              refine m_geti G d_Ta_advance_168 fl_Ta_34 rfl (by decide) rfl ?_
              rw [h57]
              refine x_aload0 G d_Ta_advance_171 ?_
              refine m_geti G d_Ta_advance_172 fl_Ta_18 rfl (by decide) rfl ?_
              rw [hlen5]
              refine x_icmp_ge G d_Ta_advance_175 (fun c175 => ?_) (fun c175 => ?_)
              · have hzn : z = n := by rw [nle (by omega) (by omega)] at c175; omega
                have hend : run (fun i => decide (sgN (B i) = sgN (B k))) n (k + 1) = z := by rw [hru2, hzn, run_n]
                refine x_aload0 G d_Ta_advance_210 ?_
                refine x_iload2 G d_Ta_advance_211 ?_
                refine x_if_eq G d_Ta_advance_212 (fun c212 => ?_) (fun c212 => ?_)
                · have w212 := bI_0.mp c212
                  refine x_iconst (v := nI 0) G d_Ta_advance_231 rfl ?_
                  refine m_putz_n G d_Ta_advance_232 fl_Ta_40 rfl (by decide) rfl rfl rfl (by first | exact Or.inl rfl | exact Or.inr rfl) (fun σ4 e4 => ?_)
                  exact m_vret E G d_Ta_advance_235 hx rfl ⟨rfl, (by rw [lexT_wrd hrun hkl hw]; exact ⟨by rw [e4, updS_ne (by decide)]; exact h36, by rw [e4, updS_ne (by decide)]; exact (by rw [h57, ← hend]), by rw [e4, updS_ne (by decide)]; exact h58, by rw [e4, updS_at]; rw [w212]; rfl⟩), (fun j a b c d => by rw [e4, updS_ne (by omega)]; exact hF3 j a b c d), fun q a => by rw [e4, updS_nk a]; exact hG3 q a⟩
                · have w212 := bI_n0.mp c212
                  refine x_iload3 G d_Ta_advance_215 ?_
                  refine x_if_eq G d_Ta_advance_216 (fun c216 => absurd c216 ((by decide +kernel))) (fun c216 => ?_)
                  refine x_aload0 G d_Ta_advance_219 ?_
                  refine m_geti G d_Ta_advance_220 fl_Ta_31 rfl (by decide) rfl ?_
                  rw [h36]
                  refine x_iload1 G d_Ta_advance_223 ?_
                  refine x_icmp_ne G d_Ta_advance_224 (fun c224 => ?_) (fun c224 => ?_)
                  · have wkp : k ≠ p := fun e => c224 (by rw [e])
                    refine x_iconst (v := nI 0) G d_Ta_advance_231 rfl ?_
                    refine m_putz_n G d_Ta_advance_232 fl_Ta_40 rfl (by decide) rfl rfl rfl (by first | exact Or.inl rfl | exact Or.inr rfl) (fun σ4 e4 => ?_)
                    exact m_vret E G d_Ta_advance_235 hx rfl ⟨rfl, (by rw [lexT_wrd hrun hkl hw]; exact ⟨by rw [e4, updS_ne (by decide)]; exact h36, by rw [e4, updS_ne (by decide)]; exact (by rw [h57, ← hend]), by rw [e4, updS_ne (by decide)]; exact h58, by rw [e4, updS_at]; rw [w212, decide_eq_false wkp]; rfl⟩), (fun j a b c d => by rw [e4, updS_ne (by omega)]; exact hF3 j a b c d), fun q a => by rw [e4, updS_nk a]; exact hG3 q a⟩
                  · have wkp : k = p := by
                      have q := c224
                      rw [neq (by omega) (by omega)] at q
                      exact q
                    refine x_iconst (v := nI 1) G d_Ta_advance_227 rfl ?_
                    refine x_goto G d_Ta_advance_228 ?_
                    refine m_putz_n G d_Ta_advance_232 fl_Ta_40 rfl (by decide) rfl rfl rfl (by first | exact Or.inl rfl | exact Or.inr rfl) (fun σ4 e4 => ?_)
                    exact m_vret E G d_Ta_advance_235 hx rfl ⟨rfl, (by rw [lexT_wrd hrun hkl hw]; exact ⟨by rw [e4, updS_ne (by decide)]; exact h36, by rw [e4, updS_ne (by decide)]; exact (by rw [h57, ← hend]), by rw [e4, updS_ne (by decide)]; exact h58, by rw [e4, updS_at]; rw [w212, decide_eq_true wkp]; rfl⟩), (fun j a b c d => by rw [e4, updS_ne (by omega)]; exact hF3 j a b c d), fun q a => by rw [e4, updS_nk a]; exact hG3 q a⟩
              · have hzn : z < n := by rw [nle (by omega) (by omega)] at c175; omega
                refine x_aload0 G d_Ta_advance_178 ?_
                refine m_getr G d_Ta_advance_179 fl_Ta_9 rfl (by decide) rfl ?_
                refine x_aload0 G d_Ta_advance_182 ?_
                refine m_geti G d_Ta_advance_183 fl_Ta_34 rfl (by decide) rfl ?_
                rw [h57]
                refine m_iald z G d_Ta_advance_186 rfl rfl ⟨by omega, by first | decide | omega⟩ ?_
                rw [hbt5 z hzn]
                refine m_callS_pi (p_Ta_signOf (kg κ) (d - 1) (by omega) σ5 (B z) (hB z hzn)) G d_Ta_advance_187 lk_Ta_73 (by omega) rfl (Nat.le_of_ble_eq_true rfl) hx ?_
                refine x_aload0 G d_Ta_advance_190 ?_
                refine m_geti G d_Ta_advance_191 fl_Ta_37 rfl (by decide) rfl ?_
                rw [h58]
                refine x_icmp_ne G d_Ta_advance_194 (fun c194 => ?_) (fun c194 => ?_)
                · have hend : run (fun i => decide (sgN (B i) = sgN (B k))) n (k + 1) = z := by
                    rw [hru2, run_no hzn]
                    exact decide_eq_false (fun e => c194 (by rw [e]))
                  refine x_aload0 G d_Ta_advance_210 ?_
                  refine x_iload2 G d_Ta_advance_211 ?_
                  refine x_if_eq G d_Ta_advance_212 (fun c212 => ?_) (fun c212 => ?_)
                  · have w212 := bI_0.mp c212
                    refine x_iconst (v := nI 0) G d_Ta_advance_231 rfl ?_
                    refine m_putz_n G d_Ta_advance_232 fl_Ta_40 rfl (by decide) rfl rfl rfl (by first | exact Or.inl rfl | exact Or.inr rfl) (fun σ4 e4 => ?_)
                    exact m_vret E G d_Ta_advance_235 hx rfl ⟨rfl, (by rw [lexT_wrd hrun hkl hw]; exact ⟨by rw [e4, updS_ne (by decide)]; exact h36, by rw [e4, updS_ne (by decide)]; exact (by rw [h57, ← hend]), by rw [e4, updS_ne (by decide)]; exact h58, by rw [e4, updS_at]; rw [w212]; rfl⟩), (fun j a b c d => by rw [e4, updS_ne (by omega)]; exact hF3 j a b c d), fun q a => by rw [e4, updS_nk a]; exact hG3 q a⟩
                  · have w212 := bI_n0.mp c212
                    refine x_iload3 G d_Ta_advance_215 ?_
                    refine x_if_eq G d_Ta_advance_216 (fun c216 => absurd c216 ((by decide +kernel))) (fun c216 => ?_)
                    refine x_aload0 G d_Ta_advance_219 ?_
                    refine m_geti G d_Ta_advance_220 fl_Ta_31 rfl (by decide) rfl ?_
                    rw [h36]
                    refine x_iload1 G d_Ta_advance_223 ?_
                    refine x_icmp_ne G d_Ta_advance_224 (fun c224 => ?_) (fun c224 => ?_)
                    · have wkp : k ≠ p := fun e => c224 (by rw [e])
                      refine x_iconst (v := nI 0) G d_Ta_advance_231 rfl ?_
                      refine m_putz_n G d_Ta_advance_232 fl_Ta_40 rfl (by decide) rfl rfl rfl (by first | exact Or.inl rfl | exact Or.inr rfl) (fun σ4 e4 => ?_)
                      exact m_vret E G d_Ta_advance_235 hx rfl ⟨rfl, (by rw [lexT_wrd hrun hkl hw]; exact ⟨by rw [e4, updS_ne (by decide)]; exact h36, by rw [e4, updS_ne (by decide)]; exact (by rw [h57, ← hend]), by rw [e4, updS_ne (by decide)]; exact h58, by rw [e4, updS_at]; rw [w212, decide_eq_false wkp]; rfl⟩), (fun j a b c d => by rw [e4, updS_ne (by omega)]; exact hF3 j a b c d), fun q a => by rw [e4, updS_nk a]; exact hG3 q a⟩
                    · have wkp : k = p := by
                        have q := c224
                        rw [neq (by omega) (by omega)] at q
                        exact q
                      refine x_iconst (v := nI 1) G d_Ta_advance_227 rfl ?_
                      refine x_goto G d_Ta_advance_228 ?_
                      refine m_putz_n G d_Ta_advance_232 fl_Ta_40 rfl (by decide) rfl rfl rfl (by first | exact Or.inl rfl | exact Or.inr rfl) (fun σ4 e4 => ?_)
                      exact m_vret E G d_Ta_advance_235 hx rfl ⟨rfl, (by rw [lexT_wrd hrun hkl hw]; exact ⟨by rw [e4, updS_ne (by decide)]; exact h36, by rw [e4, updS_ne (by decide)]; exact (by rw [h57, ← hend]), by rw [e4, updS_ne (by decide)]; exact h58, by rw [e4, updS_at]; rw [w212, decide_eq_true wkp]; rfl⟩), (fun j a b c d => by rw [e4, updS_ne (by omega)]; exact hF3 j a b c d), fun q a => by rw [e4, updS_nk a]; exact hG3 q a⟩
                · have hsame : sgN (B z) = sgN (B k) := by
                    have q := c194
                    rw [neq (by have := sgN_lt (hB z hzn); omega) (by have := sgN_lt (hB k hkl); omega)] at q
                    exact q
                  refine x_aload0 G d_Ta_advance_197 ?_
                  refine x_dup G d_Ta_advance_198 rfl ?_
                  refine m_geti G d_Ta_advance_199 fl_Ta_34 rfl (by decide) rfl ?_
                  rw [h57]
                  refine x_iconst (v := nI 1) G d_Ta_advance_202 rfl ?_
                  refine x_iadd G d_Ta_advance_203 ?_
                  rw [show nI z + nI 1 = nI (z + 1) from nI_1 _]
                  refine m_puti_n G d_Ta_advance_204 fl_Ta_34 rfl (by decide) rfl rfl rfl (fun σ6 e6 => ?_)
                  refine x_goto G d_Ta_advance_207 ?_
                  exact ih (z + 1) σ6 (by omega) (by omega) (by omega) (by rw [hru2, run_yes hzn (decide_eq_true hsame)]) (by rw [e6, updS_at]) (by rw [e6, updS_ne (by decide)]; exact h58) (by rw [e6, updS_ne (by decide)]; exact h36) (fun j a b c d => by rw [e6, updS_ne (by omega)]; exact hF3 j a b c d) (fun q a => by rw [e6, updS_nk a]; exact hG3 q a)
          exact hloop2 (n + 1) (k + 1) σ3 (by omega) (by omega) (by omega) rfl (by rw [e3, updS_at]) h38 h36 hF3 hG3
        · have w144 : sgN (B k) ≠ 256 := fun e => c144 (by rw [e])
          refine x_aload0 G d_Ta_advance_147 ?_
          refine m_geti G d_Ta_advance_148 fl_Ta_37 rfl (by decide) rfl ?_
          rw [h38]
          refine x_sipush (v := nI 257) G d_Ta_advance_151 rfl ?_
          refine x_icmp_ne G d_Ta_advance_154 (fun c154 => absurd ((by rcases isWd_y hw with q | q; exact absurd q w144; rw [q])) c154) (fun c154 => ?_)
          refine x_iconst (v := nI 1) G d_Ta_advance_157 rfl ?_
          refine x_goto G d_Ta_advance_158 ?_
          refine x_istore3 G d_Ta_advance_162 rfl hk ?_
          have hloop2 : ∀ (m z : Nat) (σ5 : Sg), z ≤ n → k + 1 ≤ z → n < z + m → run (fun i => decide (sgN (B i) = sgN (B k))) n (k + 1) = run (fun i => decide (sgN (B i) = sgN (B k))) n z → σ5 73 7 = nI z → σ5 73 8 = nI (sgN (B k)) → σ5 73 6 = nI k → (∀ j, j ≠ 6 → j ≠ 7 → j ≠ 8 → j ≠ 9 → σ5 73 j = σ 73 j) → (∀ q, q ≠ 73 → σ5 q = σ q) → X κ NC 163 [some (.ref 73), some (.int (nI p)), some (.int (bI (isWd sg))), some (.int (nI 1))] [] (hv σ5) := by
            intro m
            induction m with
            | zero => intro z σ5 h1 h2 h3; omega
            | succ m ih =>
              intro z σ5 hz1 hz2 hz3 hru2 h57 h58 h36 hF3 hG3
              have hlen5 : σ5 73 2 = nI n := by rw [hF3 2 (by decide) (by decide) (by decide) (by decide)]; exact hby.1
              have hbt5 : ∀ i, i < n → σ5 74 i = nI (B i) := fun i hi => by rw [hG3 74 (by decide)]; exact hby.2 i hi
              refine x_iload3 G d_Ta_advance_163 ?_
              refine x_if_eq G d_Ta_advance_164 (fun c164 => absurd c164 ((by decide +kernel))) (fun c164 => ?_)
              refine x_aload0 G d_Ta_advance_167 ?_
              refine m_geti G d_Ta_advance_168 fl_Ta_34 rfl (by decide) rfl ?_
              rw [h57]
              refine x_aload0 G d_Ta_advance_171 ?_
              refine m_geti G d_Ta_advance_172 fl_Ta_18 rfl (by decide) rfl ?_
              rw [hlen5]
              refine x_icmp_ge G d_Ta_advance_175 (fun c175 => ?_) (fun c175 => ?_)
              · have hzn : z = n := by rw [nle (by omega) (by omega)] at c175; omega
                have hend : run (fun i => decide (sgN (B i) = sgN (B k))) n (k + 1) = z := by rw [hru2, hzn, run_n]
                refine x_aload0 G d_Ta_advance_210 ?_
                refine x_iload2 G d_Ta_advance_211 ?_
                refine x_if_eq G d_Ta_advance_212 (fun c212 => ?_) (fun c212 => ?_)
                · have w212 := bI_0.mp c212
                  refine x_iconst (v := nI 0) G d_Ta_advance_231 rfl ?_
                  refine m_putz_n G d_Ta_advance_232 fl_Ta_40 rfl (by decide) rfl rfl rfl (by first | exact Or.inl rfl | exact Or.inr rfl) (fun σ4 e4 => ?_)
                  exact m_vret E G d_Ta_advance_235 hx rfl ⟨rfl, (by rw [lexT_wrd hrun hkl hw]; exact ⟨by rw [e4, updS_ne (by decide)]; exact h36, by rw [e4, updS_ne (by decide)]; exact (by rw [h57, ← hend]), by rw [e4, updS_ne (by decide)]; exact h58, by rw [e4, updS_at]; rw [w212]; rfl⟩), (fun j a b c d => by rw [e4, updS_ne (by omega)]; exact hF3 j a b c d), fun q a => by rw [e4, updS_nk a]; exact hG3 q a⟩
                · have w212 := bI_n0.mp c212
                  refine x_iload3 G d_Ta_advance_215 ?_
                  refine x_if_eq G d_Ta_advance_216 (fun c216 => absurd c216 ((by decide +kernel))) (fun c216 => ?_)
                  refine x_aload0 G d_Ta_advance_219 ?_
                  refine m_geti G d_Ta_advance_220 fl_Ta_31 rfl (by decide) rfl ?_
                  rw [h36]
                  refine x_iload1 G d_Ta_advance_223 ?_
                  refine x_icmp_ne G d_Ta_advance_224 (fun c224 => ?_) (fun c224 => ?_)
                  · have wkp : k ≠ p := fun e => c224 (by rw [e])
                    refine x_iconst (v := nI 0) G d_Ta_advance_231 rfl ?_
                    refine m_putz_n G d_Ta_advance_232 fl_Ta_40 rfl (by decide) rfl rfl rfl (by first | exact Or.inl rfl | exact Or.inr rfl) (fun σ4 e4 => ?_)
                    exact m_vret E G d_Ta_advance_235 hx rfl ⟨rfl, (by rw [lexT_wrd hrun hkl hw]; exact ⟨by rw [e4, updS_ne (by decide)]; exact h36, by rw [e4, updS_ne (by decide)]; exact (by rw [h57, ← hend]), by rw [e4, updS_ne (by decide)]; exact h58, by rw [e4, updS_at]; rw [w212, decide_eq_false wkp]; rfl⟩), (fun j a b c d => by rw [e4, updS_ne (by omega)]; exact hF3 j a b c d), fun q a => by rw [e4, updS_nk a]; exact hG3 q a⟩
                  · have wkp : k = p := by
                      have q := c224
                      rw [neq (by omega) (by omega)] at q
                      exact q
                    refine x_iconst (v := nI 1) G d_Ta_advance_227 rfl ?_
                    refine x_goto G d_Ta_advance_228 ?_
                    refine m_putz_n G d_Ta_advance_232 fl_Ta_40 rfl (by decide) rfl rfl rfl (by first | exact Or.inl rfl | exact Or.inr rfl) (fun σ4 e4 => ?_)
                    exact m_vret E G d_Ta_advance_235 hx rfl ⟨rfl, (by rw [lexT_wrd hrun hkl hw]; exact ⟨by rw [e4, updS_ne (by decide)]; exact h36, by rw [e4, updS_ne (by decide)]; exact (by rw [h57, ← hend]), by rw [e4, updS_ne (by decide)]; exact h58, by rw [e4, updS_at]; rw [w212, decide_eq_true wkp]; rfl⟩), (fun j a b c d => by rw [e4, updS_ne (by omega)]; exact hF3 j a b c d), fun q a => by rw [e4, updS_nk a]; exact hG3 q a⟩
              · have hzn : z < n := by rw [nle (by omega) (by omega)] at c175; omega
                refine x_aload0 G d_Ta_advance_178 ?_
                refine m_getr G d_Ta_advance_179 fl_Ta_9 rfl (by decide) rfl ?_
                refine x_aload0 G d_Ta_advance_182 ?_
                refine m_geti G d_Ta_advance_183 fl_Ta_34 rfl (by decide) rfl ?_
                rw [h57]
                refine m_iald z G d_Ta_advance_186 rfl rfl ⟨by omega, by first | decide | omega⟩ ?_
                rw [hbt5 z hzn]
                refine m_callS_pi (p_Ta_signOf (kg κ) (d - 1) (by omega) σ5 (B z) (hB z hzn)) G d_Ta_advance_187 lk_Ta_73 (by omega) rfl (Nat.le_of_ble_eq_true rfl) hx ?_
                refine x_aload0 G d_Ta_advance_190 ?_
                refine m_geti G d_Ta_advance_191 fl_Ta_37 rfl (by decide) rfl ?_
                rw [h58]
                refine x_icmp_ne G d_Ta_advance_194 (fun c194 => ?_) (fun c194 => ?_)
                · have hend : run (fun i => decide (sgN (B i) = sgN (B k))) n (k + 1) = z := by
                    rw [hru2, run_no hzn]
                    exact decide_eq_false (fun e => c194 (by rw [e]))
                  refine x_aload0 G d_Ta_advance_210 ?_
                  refine x_iload2 G d_Ta_advance_211 ?_
                  refine x_if_eq G d_Ta_advance_212 (fun c212 => ?_) (fun c212 => ?_)
                  · have w212 := bI_0.mp c212
                    refine x_iconst (v := nI 0) G d_Ta_advance_231 rfl ?_
                    refine m_putz_n G d_Ta_advance_232 fl_Ta_40 rfl (by decide) rfl rfl rfl (by first | exact Or.inl rfl | exact Or.inr rfl) (fun σ4 e4 => ?_)
                    exact m_vret E G d_Ta_advance_235 hx rfl ⟨rfl, (by rw [lexT_wrd hrun hkl hw]; exact ⟨by rw [e4, updS_ne (by decide)]; exact h36, by rw [e4, updS_ne (by decide)]; exact (by rw [h57, ← hend]), by rw [e4, updS_ne (by decide)]; exact h58, by rw [e4, updS_at]; rw [w212]; rfl⟩), (fun j a b c d => by rw [e4, updS_ne (by omega)]; exact hF3 j a b c d), fun q a => by rw [e4, updS_nk a]; exact hG3 q a⟩
                  · have w212 := bI_n0.mp c212
                    refine x_iload3 G d_Ta_advance_215 ?_
                    refine x_if_eq G d_Ta_advance_216 (fun c216 => absurd c216 ((by decide +kernel))) (fun c216 => ?_)
                    refine x_aload0 G d_Ta_advance_219 ?_
                    refine m_geti G d_Ta_advance_220 fl_Ta_31 rfl (by decide) rfl ?_
                    rw [h36]
                    refine x_iload1 G d_Ta_advance_223 ?_
                    refine x_icmp_ne G d_Ta_advance_224 (fun c224 => ?_) (fun c224 => ?_)
                    · have wkp : k ≠ p := fun e => c224 (by rw [e])
                      refine x_iconst (v := nI 0) G d_Ta_advance_231 rfl ?_
                      refine m_putz_n G d_Ta_advance_232 fl_Ta_40 rfl (by decide) rfl rfl rfl (by first | exact Or.inl rfl | exact Or.inr rfl) (fun σ4 e4 => ?_)
                      exact m_vret E G d_Ta_advance_235 hx rfl ⟨rfl, (by rw [lexT_wrd hrun hkl hw]; exact ⟨by rw [e4, updS_ne (by decide)]; exact h36, by rw [e4, updS_ne (by decide)]; exact (by rw [h57, ← hend]), by rw [e4, updS_ne (by decide)]; exact h58, by rw [e4, updS_at]; rw [w212, decide_eq_false wkp]; rfl⟩), (fun j a b c d => by rw [e4, updS_ne (by omega)]; exact hF3 j a b c d), fun q a => by rw [e4, updS_nk a]; exact hG3 q a⟩
                    · have wkp : k = p := by
                        have q := c224
                        rw [neq (by omega) (by omega)] at q
                        exact q
                      refine x_iconst (v := nI 1) G d_Ta_advance_227 rfl ?_
                      refine x_goto G d_Ta_advance_228 ?_
                      refine m_putz_n G d_Ta_advance_232 fl_Ta_40 rfl (by decide) rfl rfl rfl (by first | exact Or.inl rfl | exact Or.inr rfl) (fun σ4 e4 => ?_)
                      exact m_vret E G d_Ta_advance_235 hx rfl ⟨rfl, (by rw [lexT_wrd hrun hkl hw]; exact ⟨by rw [e4, updS_ne (by decide)]; exact h36, by rw [e4, updS_ne (by decide)]; exact (by rw [h57, ← hend]), by rw [e4, updS_ne (by decide)]; exact h58, by rw [e4, updS_at]; rw [w212, decide_eq_true wkp]; rfl⟩), (fun j a b c d => by rw [e4, updS_ne (by omega)]; exact hF3 j a b c d), fun q a => by rw [e4, updS_nk a]; exact hG3 q a⟩
                · have hsame : sgN (B z) = sgN (B k) := by
                    have q := c194
                    rw [neq (by have := sgN_lt (hB z hzn); omega) (by have := sgN_lt (hB k hkl); omega)] at q
                    exact q
                  refine x_aload0 G d_Ta_advance_197 ?_
                  refine x_dup G d_Ta_advance_198 rfl ?_
                  refine m_geti G d_Ta_advance_199 fl_Ta_34 rfl (by decide) rfl ?_
                  rw [h57]
                  refine x_iconst (v := nI 1) G d_Ta_advance_202 rfl ?_
                  refine x_iadd G d_Ta_advance_203 ?_
                  rw [show nI z + nI 1 = nI (z + 1) from nI_1 _]
                  refine m_puti_n G d_Ta_advance_204 fl_Ta_34 rfl (by decide) rfl rfl rfl (fun σ6 e6 => ?_)
                  refine x_goto G d_Ta_advance_207 ?_
                  exact ih (z + 1) σ6 (by omega) (by omega) (by omega) (by rw [hru2, run_yes hzn (decide_eq_true hsame)]) (by rw [e6, updS_at]) (by rw [e6, updS_ne (by decide)]; exact h58) (by rw [e6, updS_ne (by decide)]; exact h36) (fun j a b c d => by rw [e6, updS_ne (by omega)]; exact hF3 j a b c d) (fun q a => by rw [e6, updS_nk a]; exact hG3 q a)
          exact hloop2 (n + 1) (k + 1) σ3 (by omega) (by omega) (by omega) rfl (by rw [e3, updS_at]) h38 h36 hF3 hG3
      · have hbk := hB k hkl
        have hsl := sgN_lt hbk
        have hw2 := isWd_n hw
        refine x_aload0 G d_Ta_advance_77 ?_
        refine x_aload0 G d_Ta_advance_78 ?_
        refine m_geti G d_Ta_advance_79 fl_Ta_31 rfl (by decide) rfl ?_
        rw [h6]
        refine x_aload0 G d_Ta_advance_82 ?_
        refine m_geti G d_Ta_advance_83 fl_Ta_18 rfl (by decide) rfl ?_
        rw [hlen]
        refine x_icmp_ge G d_Ta_advance_86 (fun c86 => absurd c86 ((nI_ge hkl (by omega)))) (fun c86 => ?_)
        refine x_aload0 G d_Ta_advance_89 ?_
        refine m_getr G d_Ta_advance_90 fl_Ta_9 rfl (by decide) rfl ?_
        refine x_aload0 G d_Ta_advance_93 ?_
        refine m_geti G d_Ta_advance_94 fl_Ta_31 rfl (by decide) rfl ?_
        rw [h6]
        refine m_iald k G d_Ta_advance_97 rfl rfl ⟨by omega, by first | decide | omega⟩ ?_
        rw [hbt k hkl]
        refine m_callS_pi (p_Ta_signOf (kg κ) (d - 1) (by omega) σ1 (B k) (hB k hkl)) G d_Ta_advance_98 lk_Ta_73 (by omega) rfl (Nat.le_of_ble_eq_true rfl) hx ?_
        refine x_goto G d_Ta_advance_101 ?_
        refine m_puti_n G d_Ta_advance_107 fl_Ta_37 rfl (by decide) rfl rfl rfl (fun σ2 e2 => ?_)
        refine x_aload0 G d_Ta_advance_110 ?_
        refine x_aload0 G d_Ta_advance_111 ?_
        refine m_geti G d_Ta_advance_112 fl_Ta_37 rfl (by decide) rfl ?_
        rw [show σ2 73 8 = nI (sgN (B k)) by rw [e2, updS_at]]
        refine x_sipush (v := nI 258) G d_Ta_advance_115 rfl ?_
        refine x_icmp_ne G d_Ta_advance_118 (fun c118 => ?_) (fun c118 => absurd c118 ((by rw [neq (by omega) (by omega)]; omega)))
        refine x_aload0 G d_Ta_advance_128 ?_
        refine m_geti G d_Ta_advance_129 fl_Ta_31 rfl (by decide) rfl ?_
        rw [show σ2 73 6 = nI k by rw [e2, updS_ne (by decide)]; exact h6]
        refine x_iconst (v := nI 1) G d_Ta_advance_132 rfl ?_
        refine x_iadd G d_Ta_advance_133 ?_
        rw [show nI k + nI 1 = nI (k + 1) from nI_1 _]
        refine m_puti_n G d_Ta_advance_134 fl_Ta_34 rfl (by decide) rfl rfl rfl (fun σ3 e3 => ?_)
        have hF3 : ∀ j, j ≠ 6 → j ≠ 7 → j ≠ 8 → j ≠ 9 → σ3 73 j = σ 73 j := fun j a b c _ => by rw [e3, updS_ne (by omega), e2, updS_ne (by omega)]; exact hF j a
        have hG3 : ∀ q, q ≠ 73 → σ3 q = σ q := fun q a => by rw [e3, updS_nk a, e2, updS_nk a]; exact hG q a
        have h36 : σ3 73 6 = nI k := by rw [e3, updS_ne (by decide), e2, updS_ne (by decide)]; exact h6
        refine x_aload0 G d_Ta_advance_137 ?_
        refine m_geti G d_Ta_advance_138 fl_Ta_37 rfl (by decide) rfl ?_
        rw [show σ3 73 8 = nI (sgN (B k)) by rw [e3, updS_ne (by decide), e2, updS_at]]
        refine x_sipush (v := nI 256) G d_Ta_advance_141 rfl ?_
        refine x_icmp_eq G d_Ta_advance_144 (fun c144 => absurd c144 ((by rw [neq (by omega) (by omega)]; exact hw2.1))) (fun c144 => ?_)
        refine x_aload0 G d_Ta_advance_147 ?_
        refine m_geti G d_Ta_advance_148 fl_Ta_37 rfl (by decide) rfl ?_
        rw [show σ3 73 8 = nI (sgN (B k)) by rw [e3, updS_ne (by decide), e2, updS_at]]
        refine x_sipush (v := nI 257) G d_Ta_advance_151 rfl ?_
        refine x_icmp_ne G d_Ta_advance_154 (fun c154 => ?_) (fun c154 => absurd c154 ((by rw [neq (by omega) (by omega)]; exact hw2.2)))
        refine x_iconst (v := nI 0) G d_Ta_advance_161 rfl ?_
        refine x_istore3 G d_Ta_advance_162 rfl hk ?_
        refine x_iload3 G d_Ta_advance_163 ?_
        refine x_if_eq G d_Ta_advance_164 (fun c164 => ?_) (fun c164 => absurd (nI_0) c164)
        refine x_aload0 G d_Ta_advance_210 ?_
        refine x_iload2 G d_Ta_advance_211 ?_
        refine x_if_eq G d_Ta_advance_212 (fun c212 => ?_) (fun c212 => ?_)
        · refine x_iconst (v := nI 0) G d_Ta_advance_231 rfl ?_
          refine m_putz_n G d_Ta_advance_232 fl_Ta_40 rfl (by decide) rfl rfl rfl (by first | exact Or.inl rfl | exact Or.inr rfl) (fun σ4 e4 => ?_)
          exact m_vret E G d_Ta_advance_235 hx rfl ⟨rfl, (by rw [lexT_sgn hrun hkl hw]; exact ⟨by rw [e4, updS_ne (by decide)]; exact h36, by rw [e4, updS_ne (by decide)]; exact (by rw [e3, updS_at]), by rw [e4, updS_ne (by decide)]; exact (by rw [e3, updS_ne (by decide), e2, updS_at]), by rw [e4, updS_at]; rfl⟩), (fun j a b c d => by rw [e4, updS_ne (by omega)]; exact hF3 j a b c d), fun q a => by rw [e4, updS_nk a]; exact hG3 q a⟩
        · refine x_iload3 G d_Ta_advance_215 ?_
          refine x_if_eq G d_Ta_advance_216 (fun c216 => ?_) (fun c216 => absurd (nI_0) c216)
          refine x_iconst (v := nI 0) G d_Ta_advance_231 rfl ?_
          refine m_putz_n G d_Ta_advance_232 fl_Ta_40 rfl (by decide) rfl rfl rfl (by first | exact Or.inl rfl | exact Or.inr rfl) (fun σ4 e4 => ?_)
          exact m_vret E G d_Ta_advance_235 hx rfl ⟨rfl, (by rw [lexT_sgn hrun hkl hw]; exact ⟨by rw [e4, updS_ne (by decide)]; exact h36, by rw [e4, updS_ne (by decide)]; exact (by rw [e3, updS_at]), by rw [e4, updS_ne (by decide)]; exact (by rw [e3, updS_ne (by decide), e2, updS_at]), by rw [e4, updS_at]; rfl⟩), (fun j a b c d => by rw [e4, updS_ne (by omega)]; exact hF3 j a b c d), fun q a => by rw [e4, updS_nk a]; exact hG3 q a⟩
      · subst hkl
        refine x_aload0 G d_Ta_advance_77 ?_
        refine x_aload0 G d_Ta_advance_78 ?_
        refine m_geti G d_Ta_advance_79 fl_Ta_31 rfl (by decide) rfl ?_
        rw [h6]
        refine x_aload0 G d_Ta_advance_82 ?_
        refine m_geti G d_Ta_advance_83 fl_Ta_18 rfl (by decide) rfl ?_
        rw [hlen]
        refine x_icmp_ge G d_Ta_advance_86 (fun c86 => ?_) (fun c86 => absurd ((Int32.le_refl _)) c86)
        refine x_sipush (v := nI 258) G d_Ta_advance_104 rfl ?_
        refine m_puti_n G d_Ta_advance_107 fl_Ta_37 rfl (by decide) rfl rfl rfl (fun σ2 e2 => ?_)
        refine x_aload0 G d_Ta_advance_110 ?_
        refine x_aload0 G d_Ta_advance_111 ?_
        refine m_geti G d_Ta_advance_112 fl_Ta_37 rfl (by decide) rfl ?_
        rw [show σ2 73 8 = nI (258) by rw [e2, updS_at]]
        refine x_sipush (v := nI 258) G d_Ta_advance_115 rfl ?_
        refine x_icmp_ne G d_Ta_advance_118 (fun c118 => absurd (rfl) c118) (fun c118 => ?_)
        refine x_aload0 G d_Ta_advance_121 ?_
        refine m_geti G d_Ta_advance_122 fl_Ta_31 rfl (by decide) rfl ?_
        rw [show σ2 73 6 = nI k by rw [e2, updS_ne (by decide)]; exact h6]
        refine x_goto G d_Ta_advance_125 ?_
        refine m_puti_n G d_Ta_advance_134 fl_Ta_34 rfl (by decide) rfl rfl rfl (fun σ3 e3 => ?_)
        have hF3 : ∀ j, j ≠ 6 → j ≠ 7 → j ≠ 8 → j ≠ 9 → σ3 73 j = σ 73 j := fun j a b c _ => by rw [e3, updS_ne (by omega), e2, updS_ne (by omega)]; exact hF j a
        have hG3 : ∀ q, q ≠ 73 → σ3 q = σ q := fun q a => by rw [e3, updS_nk a, e2, updS_nk a]; exact hG q a
        have h36 : σ3 73 6 = nI k := by rw [e3, updS_ne (by decide), e2, updS_ne (by decide)]; exact h6
        refine x_aload0 G d_Ta_advance_137 ?_
        refine m_geti G d_Ta_advance_138 fl_Ta_37 rfl (by decide) rfl ?_
        rw [show σ3 73 8 = nI (258) by rw [e3, updS_ne (by decide), e2, updS_at]]
        refine x_sipush (v := nI 256) G d_Ta_advance_141 rfl ?_
        refine x_icmp_eq G d_Ta_advance_144 (fun c144 => absurd c144 ((by decide +kernel))) (fun c144 => ?_)
        refine x_aload0 G d_Ta_advance_147 ?_
        refine m_geti G d_Ta_advance_148 fl_Ta_37 rfl (by decide) rfl ?_
        rw [show σ3 73 8 = nI (258) by rw [e3, updS_ne (by decide), e2, updS_at]]
        refine x_sipush (v := nI 257) G d_Ta_advance_151 rfl ?_
        refine x_icmp_ne G d_Ta_advance_154 (fun c154 => ?_) (fun c154 => absurd c154 ((by decide +kernel)))
        refine x_iconst (v := nI 0) G d_Ta_advance_161 rfl ?_
        refine x_istore3 G d_Ta_advance_162 rfl hk ?_
        refine x_iload3 G d_Ta_advance_163 ?_
        refine x_if_eq G d_Ta_advance_164 (fun c164 => ?_) (fun c164 => absurd (nI_0) c164)
        refine x_aload0 G d_Ta_advance_210 ?_
        refine x_iload2 G d_Ta_advance_211 ?_
        refine x_if_eq G d_Ta_advance_212 (fun c212 => ?_) (fun c212 => ?_)
        · refine x_iconst (v := nI 0) G d_Ta_advance_231 rfl ?_
          refine m_putz_n G d_Ta_advance_232 fl_Ta_40 rfl (by decide) rfl rfl rfl (by first | exact Or.inl rfl | exact Or.inr rfl) (fun σ4 e4 => ?_)
          exact m_vret E G d_Ta_advance_235 hx rfl ⟨rfl, (by rw [lexT_end hrun]; exact ⟨by rw [e4, updS_ne (by decide)]; exact h36, by rw [e4, updS_ne (by decide)]; exact (by rw [e3, updS_at]), by rw [e4, updS_ne (by decide)]; exact (by rw [e3, updS_ne (by decide), e2, updS_at]), by rw [e4, updS_at]; rfl⟩), (fun j a b c d => by rw [e4, updS_ne (by omega)]; exact hF3 j a b c d), fun q a => by rw [e4, updS_nk a]; exact hG3 q a⟩
        · refine x_iload3 G d_Ta_advance_215 ?_
          refine x_if_eq G d_Ta_advance_216 (fun c216 => ?_) (fun c216 => absurd (nI_0) c216)
          refine x_iconst (v := nI 0) G d_Ta_advance_231 rfl ?_
          refine m_putz_n G d_Ta_advance_232 fl_Ta_40 rfl (by decide) rfl rfl rfl (by first | exact Or.inl rfl | exact Or.inr rfl) (fun σ4 e4 => ?_)
          exact m_vret E G d_Ta_advance_235 hx rfl ⟨rfl, (by rw [lexT_end hrun]; exact ⟨by rw [e4, updS_ne (by decide)]; exact h36, by rw [e4, updS_ne (by decide)]; exact (by rw [e3, updS_at]), by rw [e4, updS_ne (by decide)]; exact (by rw [e3, updS_ne (by decide), e2, updS_at]), by rw [e4, updS_at]; rfl⟩), (fun j a b c d => by rw [e4, updS_ne (by omega)]; exact hF3 j a b c d), fun q a => by rw [e4, updS_nk a]; exact hG3 q a⟩
    refine x_aload0 G d_Ta_advance_31 ?_
    refine x_aload0 G d_Ta_advance_32 ?_
    refine m_geti G d_Ta_advance_33 fl_Ta_34 rfl (by decide) rfl ?_
    rw [hp]
    refine m_puti_n G d_Ta_advance_36 fl_Ta_31 rfl (by decide) rfl rfl rfl (fun σ0 e0 => ?_)
    have hloop : ∀ (m k : Nat) (σ1 : Sg), k ≤ n → p ≤ k → n < k + m → run (fun i => decide (B i = 32)) n p = run (fun i => decide (B i = 32)) n k → σ1 73 6 = nI k → (∀ j, j ≠ 6 → σ1 73 j = σ 73 j) → (∀ q, q ≠ 73 → σ1 q = σ q) → X κ NC 39 [some (.ref 73), some (.int (nI p)), some (.int (bI (isWd sg))), none] [] (hv σ1) := by
      intro m
      induction m with
      | zero => intro k σ1 h1 h2 h3; omega
      | succ m ih =>
        intro k σ1 hk1 hk2 hk3 hru h6 hF hG
        have hlen : σ1 73 2 = nI n := by rw [hF 2 (by decide)]; exact hby.1
        have hbt : ∀ i, i < n → σ1 74 i = nI (B i) := fun i hi => by rw [hG 74 (by decide)]; exact hby.2 i hi
        refine x_aload0 G d_Ta_advance_39 ?_
        refine m_geti G d_Ta_advance_40 fl_Ta_31 rfl (by decide) rfl ?_
        rw [h6]
        refine x_aload0 G d_Ta_advance_43 ?_
        refine m_geti G d_Ta_advance_44 fl_Ta_18 rfl (by decide) rfl ?_
        rw [hlen]
        refine x_icmp_ge G d_Ta_advance_47 (fun c47 => ?_) (fun c47 => ?_)
        · have hkn : k = n := by rw [nle (by omega) (by omega)] at c47; omega
          
          first
            | exact J77 k σ1 (by rw [hru, hkn, run_n]) (by omega) (by omega) h6 hF hG
            | exact J77 k σ1 (by rw [hru]; exact run_no hkn (decide_eq_false h32)) (by omega) (by omega) h6 hF hG
        · have hkn : k < n := by rw [nle (by omega) (by omega)] at c47; omega
          refine x_aload0 G d_Ta_advance_50 ?_
          refine m_getr G d_Ta_advance_51 fl_Ta_9 rfl (by decide) rfl ?_
          refine x_aload0 G d_Ta_advance_54 ?_
          refine m_geti G d_Ta_advance_55 fl_Ta_31 rfl (by decide) rfl ?_
          rw [h6]
          refine m_iald k G d_Ta_advance_58 rfl rfl ⟨by omega, by first | decide | omega⟩ ?_
          rw [hbt k hkn]
          refine x_bipush (v := nI 32) G d_Ta_advance_59 rfl ?_
          refine x_icmp_ne G d_Ta_advance_61 (fun c61 => ?_) (fun c61 => ?_)
          · have h32 : B k ≠ 32 := fun z => c61 (by rw [z])
            
            first
              | exact J77 k σ1 (by rw [hru, hkn, run_n]) (by omega) (by omega) h6 hF hG
              | exact J77 k σ1 (by rw [hru]; exact run_no hkn (decide_eq_false h32)) (by omega) (by omega) h6 hF hG
          · have h32 : B k = 32 := by
              have z := c61
              rw [neq (by have := hB k hkn; omega) (by decide)] at z
              exact z
            refine x_aload0 G d_Ta_advance_64 ?_
            refine x_dup G d_Ta_advance_65 rfl ?_
            refine m_geti G d_Ta_advance_66 fl_Ta_31 rfl (by decide) rfl ?_
            rw [h6]
            refine x_iconst (v := nI 1) G d_Ta_advance_69 rfl ?_
            refine x_iadd G d_Ta_advance_70 ?_
            rw [show nI k + nI 1 = nI (k + 1) from nI_1 _]
            refine m_puti_n G d_Ta_advance_71 fl_Ta_31 rfl (by decide) rfl rfl rfl (fun σ2 e2 => ?_)
            refine x_goto G d_Ta_advance_74 ?_
            exact ih (k + 1) σ2 (by omega) (by omega) (by omega) (by rw [hru, run_yes hkn (decide_eq_true h32)]) (by rw [e2, updS_at]) (fun j a => by rw [e2, updS_ne (by omega)]; exact hF j a) (fun q a => by rw [e2, updS_nk a]; exact hG q a)
    exact hloop (n + 1) p σ0 hpn (Nat.le_refl _) (by omega) rfl (by rw [e0, updS_at]) (fun j a => by rw [e0, updS_ne (by omega)]) (fun q a => by rw [e0, updS_nk a])
  refine x_aload0 G d_Ta_advance_5 ?_
  refine m_geti G d_Ta_advance_6 fl_Ta_37 rfl (by decide) rfl ?_
  rw [hsg]
  refine x_sipush (v := nI 256) G d_Ta_advance_9 rfl ?_
  refine x_icmp_eq G d_Ta_advance_12 (fun c12 => ?_) (fun c12 => ?_)
  · have w12 : sg = 256 := by rw [neq (by omega) (by omega)] at c12; exact c12
    refine x_iconst (v := nI 1) G d_Ta_advance_25 rfl ?_
    refine x_goto G d_Ta_advance_26 ?_
    exact J30 _ (by unfold isWd; (try rw [w12]); (try rw [w22]); simp_all [bI, nI_0, nI1])
  · have w12 : sg ≠ 256 := fun e => c12 (by rw [e])
    refine x_aload0 G d_Ta_advance_15 ?_
    refine m_geti G d_Ta_advance_16 fl_Ta_37 rfl (by decide) rfl ?_
    rw [hsg]
    refine x_sipush (v := nI 257) G d_Ta_advance_19 rfl ?_
    refine x_icmp_ne G d_Ta_advance_22 (fun c22 => ?_) (fun c22 => ?_)
    · have w22 : sg ≠ 257 := fun e => c22 (by rw [e])
      refine x_iconst (v := nI 0) G d_Ta_advance_29 rfl ?_
      exact J30 _ (by unfold isWd; (try rw [w12]); (try rw [w22]); simp_all [bI, nI_0, nI1])
    · have w22 : sg = 257 := by
        have q := c22
        rw [neq (by omega) (by omega)] at q
        exact q
      refine x_iconst (v := nI 1) G d_Ta_advance_25 rfl ?_
      refine x_goto G d_Ta_advance_26 ?_
      exact J30 _ (by unfold isWd; (try rw [w12]); (try rw [w22]); simp_all [bI, nI_0, nI1])
theorem p_Ta_emit (g : CX) (d : Nat) (hd : 0 ≤ d) (σ : Sg) (L : Nat) (hL : σ 73 3 = nI L) (hL9 : L < 96) (x : Int32) : RunM g d Ta_emit [.ref 73, .int x] σ (PV (fun σ1 => σ1 = updS (updS σ 75 L x) 73 3 (nI (L + 1)))) := by
  refine RunM.of 0 (by decide +kernel) rfl ?_
  intro κ hg hx hk0 G E
  subst hg
  have hk : 2 ≤ kn κ := Nat.le_of_eq hk0.symm
  show X κ NC 0 [some (.ref 73), some (.int x)] [] (hv σ)
  refine x_aload0 G d_Ta_emit_0 ?_
  refine m_geti G d_Ta_emit_1 fl_Ta_22 rfl (by decide) rfl ?_
  rw [hL]
  refine x_bipush (v := nI 96) G d_Ta_emit_4 rfl ?_
  refine x_icmp_ge G d_Ta_emit_6 (fun c6 => absurd c6 ((nI_ge hL9 (by decide)))) (fun c6 => ?_)
  refine x_aload0 G d_Ta_emit_9 ?_
  refine m_getr G d_Ta_emit_10 fl_Ta_15 rfl (by decide) rfl ?_
  refine x_aload0 G d_Ta_emit_13 ?_
  refine m_geti G d_Ta_emit_14 fl_Ta_22 rfl (by decide) rfl ?_
  rw [hL]
  refine x_iload1 G d_Ta_emit_17 ?_
  refine m_iast_n L G d_Ta_emit_18 rfl rfl ⟨hL9, by first | decide | omega⟩ (fun σ1 e1 => ?_)
  refine x_aload0 G d_Ta_emit_19 ?_
  refine x_dup G d_Ta_emit_20 rfl ?_
  refine m_geti G d_Ta_emit_21 fl_Ta_22 rfl (by decide) rfl ?_
  rw [show σ1 73 3 = nI L by rw [e1, updS_nk (by decide)]; exact hL]
  refine x_iconst (v := nI 1) G d_Ta_emit_24 rfl ?_
  refine x_iadd G d_Ta_emit_25 ?_
  rw [show nI L + nI 1 = nI (L + 1) from nI_1 _]
  refine m_puti_n G d_Ta_emit_26 fl_Ta_22 rfl (by decide) rfl rfl rfl (fun σ2 e2 => ?_)
  exact m_vret E G d_Ta_emit_29 hx rfl ⟨rfl, (by rw [e2, e1])⟩
theorem p_Ta_operand (g : CX) (d : Nat) (hd : 2 ≤ d) (σ : Sg) (B : Nat → Nat) (n : Nat) (hn96 : n ≤ 96) (hB : ∀ i, i < n → B i < 256) (key : Nat) (s : PS) (hC : TapC B n key s σ) (ht : TkOk B n s.tk) (hL9 : s.out.length < 96) (a v : Nat) (x : Int32) (hx9 : x = encO key (nI a) (nI v)) : RunM g d Ta_operand [.ref 73, .int x] σ (PN 1 (fun σ1 => TapC B n key (opP B n s a v) σ1 ∧ OutT σ σ1)) := by
  refine RunM.of 0 (by decide +kernel) rfl ?_
  intro κ hg hx hk0 G E
  subst hg
  have hk : 2 ≤ kn κ := Nat.le_of_eq hk0.symm
  show X κ NC 0 [some (.ref 73), some (.int x)] [] (hv σ)
  refine x_aload0 G d_Ta_operand_0 ?_
  refine x_iload1 G d_Ta_operand_1 ?_
  refine m_callV_pv (p_Ta_emit (kg κ) (d - 1) (by omega) σ s.out.length hC.2.2.1 hL9 _) G d_Ta_operand_2 lk_Ta_84 rfl ⟨by decide, rfl⟩ (by decide) (by omega) rfl (Nat.le_of_ble_eq_true rfl) hx (fun σ1 h1 => ?_)
  obtain ⟨t1, o1⟩ := hC.emit hx9 h1
  refine x_aload0 G d_Ta_operand_5 ?_
  refine x_dup G d_Ta_operand_6 rfl ?_
  refine m_geti G d_Ta_operand_7 fl_Ta_28 rfl (by decide) rfl ?_
  rw [t1.2.2.2.2.1]
  refine x_iconst (v := nI 1) G d_Ta_operand_10 rfl ?_
  refine x_iadd G d_Ta_operand_11 ?_
  rw [show nI (emP s a v).ops + nI 1 = nI (s.ops + 1) from nI_1 _]
  refine m_puti_n G d_Ta_operand_12 fl_Ta_28 rfl (by decide) rfl rfl rfl (fun σ2 e2 => ?_)
  have hg2 : ∀ j, j ≠ 5 → σ2 73 j = σ1 73 j := fun j hj => by rw [e2, updS_ne (by omega)]
  have hG2 : ∀ q, q ≠ 73 → σ2 q = σ1 q := fun q hq => by rw [e2, updS_nk hq]
  have t2 : TapC B n key ((s.tk, s.out ++ [(a, v)], s.ops + 1) : PS) σ2 := ⟨t1.1.frame (hg2 2 (by decide)) (hG2 74 (by decide)), ⟨by rw [hg2 6 (by decide)]; exact t1.2.1.1, by rw [hg2 7 (by decide)]; exact t1.2.1.2.1, by rw [hg2 8 (by decide)]; exact t1.2.1.2.2.1, by rw [hg2 9 (by decide)]; exact t1.2.1.2.2.2⟩, by rw [hg2 3 (by decide)]; exact t1.2.2.1, by rw [hg2 4 (by decide)]; exact t1.2.2.2.1, by rw [e2, updS_at], fun k y hy => by rw [hG2 75 (by decide)]; exact t1.2.2.2.2.2 k y hy⟩
  refine x_aload0 G d_Ta_operand_15 ?_
  refine m_callV_pv (p_Ta_advance (kg κ) (d - 1) (by omega) σ2 B n hn96 hB t2.1 s.tk.en s.tk.sg ht.2.1 t2.2.1.2.1 t2.2.1.2.2.1 (by rcases ht.2.2 with q | q | q <;> omega)) G d_Ta_operand_16 lk_Ta_44 rfl ⟨by decide, rfl⟩ (by decide) (by omega) rfl (Nat.le_of_ble_eq_true rfl) hx (fun σ3 ⟨f1, f2, f3⟩ => ?_)
  obtain ⟨t3, o3⟩ := t2.adv f1 f2 f3
  refine x_iconst (v := nI 1) G d_Ta_operand_19 rfl ?_
  exact m_iret E G d_Ta_operand_20 hx rfl rfl ⟨rfl, t3, fun q a b => by rw [o3 q a b, hG2 q a, o1 q a b]⟩
theorem p_Ta_number (g : CX) (d : Nat) (hd : 0 ≤ d) (σ : Sg) (B : Nat → Nat) (n : Nat) (hn96 : n ≤ 96) (hB : ∀ i, i < n → B i < 256) (key : Nat) (s : PS) (hC : TapC B n key s σ) (ht : TkOk B n s.tk) (hd7 : s.tk.sg = 257) : RunM g d Ta_number [.ref 73] σ (PI (nI (numN B s.tk.st (s.tk.en - s.tk.st))) σ) := by
  refine RunM.of 2 (by decide +kernel) rfl ?_
  intro κ hg hx hk0 G E
  subst hg
  have hk : 3 ≤ kn κ := Nat.le_of_eq hk0.symm
  show X κ NC 0 [some (.ref 73), none, none] [] (hv σ)
  obtain ⟨w1, w2, w3⟩ := ht.wrd (Or.inr hd7)
  refine x_iconst (v := nI 0) G d_Ta_number_0 rfl ?_
  refine x_istore1 G d_Ta_number_1 rfl hk ?_
  refine x_aload0 G d_Ta_number_2 ?_
  refine m_geti G d_Ta_number_3 fl_Ta_31 rfl (by decide) rfl ?_
  rw [hC.2.1.1]
  refine x_istore2 G d_Ta_number_6 rfl hk ?_
  have hloop : ∀ (m k : Nat), k ≤ s.tk.en - s.tk.st → s.tk.en - s.tk.st < k + m → X κ NC 7 [some (.ref 73), some (.int (nI (numN B s.tk.st k))), some (.int (nI (s.tk.st + k)))] [] (hv σ) := by
    intro m
    induction m with
    | zero => intro k h1 h2; omega
    | succ m ih =>
      intro k hk1 hk2
      refine x_iload2 G d_Ta_number_7 ?_
      refine x_aload0 G d_Ta_number_8 ?_
      refine m_geti G d_Ta_number_9 fl_Ta_34 rfl (by decide) rfl ?_
      rw [hC.2.1.2.1]
      refine x_icmp_ge G d_Ta_number_12 (fun c12 => ?_) (fun c12 => ?_)
      · have hkk : k = s.tk.en - s.tk.st := by rw [nle (by omega) (by omega)] at c12; omega
        refine x_iload1 G d_Ta_number_42 ?_
        exact m_iret E G d_Ta_number_43 hx rfl rfl (pi_of (by rw [hkk]))
      · have hkk : k < s.tk.en - s.tk.st := by rw [nle (by omega) (by omega)] at c12; omega
        have hdg := digit_of ((w3 (s.tk.st + k) (by omega) (by omega)).trans hd7) (hB _ (by omega))
        refine x_iload2 G d_Ta_number_15 ?_
        refine x_bipush (v := nI 96) G d_Ta_number_16 rfl ?_
        refine x_icmp_ge G d_Ta_number_18 (fun c18 => absurd c18 ((nI_ge (by omega) (by decide)))) (fun c18 => ?_)
        refine x_bipush (v := nI 10) G d_Ta_number_21 rfl ?_
        refine x_iload1 G d_Ta_number_23 ?_
        refine x_imul G d_Ta_number_24 ?_
        rw [pk_mul]
        refine x_aload0 G d_Ta_number_25 ?_
        refine m_getr G d_Ta_number_26 fl_Ta_9 rfl (by decide) rfl ?_
        refine x_iload2 G d_Ta_number_29 ?_
        refine m_iald (s.tk.st + k) G d_Ta_number_30 rfl rfl ⟨by omega, by first | decide | omega⟩ ?_
        rw [hC.1.2 (s.tk.st + k) (by omega)]
        refine x_iadd G d_Ta_number_31 ?_
        rw [nI_add]
        refine x_bipush (v := nI 48) G d_Ta_number_32 rfl ?_
        refine x_isub G d_Ta_number_34 ?_
        rw [pk_sub (by omega), show 10 * numN B s.tk.st k + B (s.tk.st + k) - 48 = numN B s.tk.st (k + 1) by rw [numN]; omega]
        refine x_istore1 G d_Ta_number_35 rfl hk ?_
        refine x_iinc2 (v := nI (s.tk.st + (k + 1))) G d_Ta_number_36 rfl hk (nI_1 _) ?_
        refine x_goto G d_Ta_number_39 ?_
        exact ih (k + 1) (by omega) (by omega)
  exact hloop (s.tk.en - s.tk.st + 1) 0 (Nat.zero_le _) (by omega)
