/-! THE MODEL'S text -/
theorem lexT_gl0 {B : Nat → Nat} {n p : Nat} : (lexT B n p false).gl = false := by
  unfold lexT
  split
  · rfl
  · split
    · rfl
    · rfl
theorem tkI_end {B : Nat → Nat} {n : Nat} {k : Tk} (h : TkOk B n k) : tkI k = 0 ↔ k.sg = 258 := by
  unfold tkI
  have e1 : ¬ nI 1 = 0 := by decide +kernel
  have e2 : ¬ nI 2 = 0 := by decide +kernel
  have e3 : ¬ nI 3 = 0 := by decide +kernel
  have e4 : ¬ nI 4 = 0 := by decide +kernel
  by_cases q : k.sg = 258
  · rw [if_pos q]
    exact ⟨fun _ => q, fun _ => nI_0⟩
  · rw [if_neg q]
    refine ⟨fun z => ?_, fun z => absurd z q⟩
    exfalso
    revert z
    (repeat' split) <;> intro z
    · exact e4 z
    · exact e1 z
    · exact e4 z
    · exact e2 z
    · exact e3 z
theorem pr_sg {B : Nat → Nat} {n : Nat} (hB : ∀ i, i < n → B i < 256) (h : prK B n < 3) : (prT B n).sg = 256 := by
  have h1 : TkOk B n (prT B n) := (lexT_ok hB (Nat.zero_le n) false).1
  unfold prK keyN at h
  split at h
  · rename_i q; exact wd4_sg hB h1 (by decide) q
  · split at h
    · rename_i q; exact wd4_sg hB h1 (by decide) q
    · split at h
      · rename_i q; exact wd4_sg hB h1 (by decide) q
      · omega
theorem keyI_lt {k : Nat} : keyI k < 0 ↔ ¬ k < 3 := by
  rw [← keyI_ge]
  exact Int32.not_le.symm
theorem laT_le {S : Rw} : laT S + 200 ≤ 3090 := by
  unfold laT ixT
  split <;> omega
theorem p_M_parse (g : CX) (d : Nat) (hd : 100 ≤ d) (σ : Sg) (B : Nat → Nat) (n : Nat) (hn96 : n ≤ 96) (hB : ∀ i, i < n → B i < 256) (hby : ByM B n σ) (S : Rw) (hS : σ 114 = S) (hI : Inv S) : RunM g d M_parse [.ref 113] σ (PN (if prOk B n = true then nI (prK B n) else -1) (fun σ1 => σ1 113 19 = nI (prSt B n) ∧ σ1 113 18 = 0 ∧ σ1 114 = putT S (laT S) (prOut B n) ∧ (prOk B n = true → σ1 113 26 = nI (prR B n).2.out.length ∧ σ1 113 28 = nI (prR B n).2.ops) ∧ (∀ j, (j < 18 ∨ 29 ≤ j) → σ1 113 j = σ 113 j) ∧ ∀ q, q ≠ 113 → q ≠ 114 → σ1 q = σ q)) := by
  refine RunM.of 2 (by decide +kernel) rfl ?_
  intro κ hg hx hk0 G E
  subst hg
  have hk : 3 ≤ kn κ := Nat.le_of_eq hk0.symm
  show X κ NC 0 [some (.ref 113), none, none] [] (hv σ)
  refine x_aload0 G d_M_parse_0 ?_
  refine x_iconst (v := nI 0) G d_M_parse_1 rfl ?_
  refine m_puti_n G d_M_parse_2 fl_M_224 rfl (by decide) rfl rfl rfl (fun σ1 e1 => ?_)
  refine x_aload0 G d_M_parse_5 ?_
  refine x_iconst (v := nI 3) G d_M_parse_6 rfl ?_
  refine m_puti_n G d_M_parse_7 fl_M_227 rfl (by decide) rfl rfl rfl (fun σ2 e2 => ?_)
  refine x_aload0 G d_M_parse_10 ?_
  refine x_iconst (v := nI 0) G d_M_parse_11 rfl ?_
  refine m_puti_n G d_M_parse_12 fl_M_289 rfl (by decide) rfl rfl rfl (fun σ3 e3 => ?_)
  refine x_aload0 G d_M_parse_15 ?_
  refine x_iconst (v := nI 0) G d_M_parse_16 rfl ?_
  refine m_puti_n G d_M_parse_17 fl_M_286 rfl (by decide) rfl rfl rfl (fun σ4 e4 => ?_)
  refine x_aload0 G d_M_parse_20 ?_
  refine x_iconst (v := nI 0) G d_M_parse_21 rfl ?_
  refine m_puti_n G d_M_parse_22 fl_M_252 rfl (by decide) rfl rfl rfl (fun σ5 e5 => ?_)
  refine x_aload0 G d_M_parse_25 ?_
  refine x_iconst (v := nI 0) G d_M_parse_26 rfl ?_
  refine m_puti_n G d_M_parse_27 fl_M_280 rfl (by decide) rfl rfl rfl (fun σ6 e6 => ?_)
  have g6 : ∀ j, (j < 19 ∨ 29 ≤ j) → σ6 113 j = σ 113 j := fun j a => by rw [e6, updS_ne (by omega), e5, updS_ne (by omega), e4, updS_ne (by omega), e3, updS_ne (by omega), e2, updS_ne (by omega), e1, updS_ne (by omega)]
  have G6 : ∀ q, q ≠ 113 → σ6 q = σ q := fun q a => by rw [e6, updS_nk a, e5, updS_nk a, e4, updS_nk a, e3, updS_nk a, e2, updS_nk a, e1, updS_nk a]
  have h14b : tn (S 1) ≤ 14 := hI.2.1.2
  have hs6 : σ6 114 = S := by rw [G6 114 (by decide)]; exact hS
  refine x_aload0 G d_M_parse_30 ?_
  have J60 : ∀ y : Int32, y = nI (laT S) → X κ NC 60 [some (.ref 113), none, none] [.int y, .ref 113] (hv σ6) := by
    intro y hy
    subst hy
    refine m_puti_n G d_M_parse_60 fl_M_249 rfl (by decide) rfl rfl rfl (fun σ7 e7 => ?_)
    have g7 : ∀ j, (j < 19 ∨ 29 ≤ j) → σ7 113 j = σ 113 j := fun j a => by rw [e7, updS_ne (by omega)]; exact g6 j a
    have G7 : ∀ q, q ≠ 113 → σ7 q = σ q := fun q a => by rw [e7, updS_nk a]; exact G6 q a
    have hby7 : ByM B n σ7 := hby.frame (g7 18 (by decide)) (G7 129 (by decide))
    obtain ⟨q1, q2, q3, q4, q5, q6, q7⟩ := pr_facts hn96 hB
    refine x_aload0 G d_M_parse_63 ?_
    refine m_callV_pv (p_M_nextToken (kg κ) (d - 1) (by omega) σ7 B n hn96 hB hby7 0 (nI 3) (Nat.zero_le _) (by rw [e7, updS_ne (by decide), e6, updS_ne (by decide), e5, updS_ne (by decide), e4, updS_ne (by decide), e3, updS_ne (by decide), e2, updS_ne (by decide), e1, updS_at]) (by rw [e7, updS_ne (by decide), e6, updS_ne (by decide), e5, updS_ne (by decide), e4, updS_ne (by decide), e3, updS_ne (by decide), e2, updS_at])) G d_M_parse_64 lk_M_261 rfl ⟨by decide, rfl⟩ (by decide) (by omega) rfl (Nat.le_of_ble_eq_true rfl) hx (fun σ8 ⟨a8, f82, f83⟩ => ?_)
    have a8 : TkM B (prT B n) σ8 := a8
    have g8 : ∀ j, (j < 19 ∨ 29 ≤ j) → σ8 113 j = σ 113 j := fun j a => by rw [f82 j (by omega)]; exact g7 j a
    have G8 : ∀ q, q ≠ 113 → σ8 q = σ q := fun q a => by rw [f83 q a]; exact G7 q a
    have hby8 : ByM B n σ8 := hby.frame (g8 18 (by decide)) (G8 129 (by decide))
    have h8s : σ8 114 = S := by rw [G8 114 (by decide)]; exact hS
    have hg0 : (prT B n).gl = false := lexT_gl0
    have t8 : MdC B n (laT S) S ((prT B n, [], 0) : PS) 0 0 σ8 := ⟨hby8, a8, by rw [f82 24 (by decide), e7, updS_ne (by decide), e6, updS_ne (by decide), e5, updS_ne (by decide), e4, updS_ne (by decide), e3, updS_at], by rw [f82 25 (by decide), e7, updS_ne (by decide), e6, updS_ne (by decide), e5, updS_ne (by decide), e4, updS_at], by rw [f82 26 (by decide), e7, updS_ne (by decide), e6, updS_ne (by decide), e5, updS_at]; rfl, by rw [f82 27 (by decide), e7, updS_at], by rw [f82 28 (by decide), e7, updS_ne (by decide), e6, updS_at], by rw [h8s]; exact putT_nil.symm⟩
    refine x_aload0 G d_M_parse_67 ?_
    refine m_callV_pi (p_M_key (kg κ) (d - 1) (by omega) σ8 B n hn96 hB hby8 (prT B n) a8 q1 hg0) G d_M_parse_68 lk_M_298 rfl ⟨by decide, rfl⟩ (by decide) (by omega) rfl (Nat.le_of_ble_eq_true rfl) hx ?_
    refine x_istore1 G d_M_parse_71 rfl hk ?_
    refine x_iload1 G d_M_parse_72 ?_
    refine x_if_lt G d_M_parse_73 (fun c73 => ?_) (fun c73 => ?_)
    · have hK : ¬ prK B n < 3 := keyI_lt.mp c73
      refine x_iconst (v := nI 0) G d_M_parse_80 rfl ?_
      refine x_istore2 G d_M_parse_81 rfl hk ?_
      refine x_iload2 G d_M_parse_82 ?_
      refine x_if_eq G d_M_parse_83 (fun c83 => ?_) (fun c83 => absurd (nI_0) c83)
      refine x_aload0 G d_M_parse_111 ?_
      refine x_iconst (v := nI 0) G d_M_parse_112 rfl ?_
      refine m_puti_n G d_M_parse_113 fl_M_213 rfl (by decide) rfl rfl rfl (fun σe ee => ?_)
      refine x_iload2 G d_M_parse_116 ?_
      refine x_if_eq G d_M_parse_117 (fun c117 => ?_) (fun c117 => absurd (nI_0) c117)
      refine x_iconst (v := (-1)) G d_M_parse_124 rfl ?_
      exact m_iret E G d_M_parse_125 hx rfl rfl ⟨by rw [if_neg (by rw [show prOk B n = false by unfold prOk; rw [decide_eq_false hK]; rfl]; decide)], by rw [ee, updS_ne (by decide)]; exact (a8.1).trans (by unfold prSt; rw [if_neg hK]), by rw [ee, updS_at]; rfl, by rw [ee, updS_nk (by decide), h8s, show prOut B n = [] from if_neg hK, putT_nil], fun z => absurd z (by unfold prOk; rw [decide_eq_false hK, Bool.false_and]; decide), (fun j a => by rw [ee, updS_ne (by omega)]; exact g8 j (by omega)), fun q a b => by rw [ee, updS_nk a]; exact G8 q a⟩
    · have hK : prK B n < 3 := Decidable.of_not_not (fun z => c73 (keyI_lt.mpr z))
      refine x_iconst (v := nI 1) G d_M_parse_76 rfl ?_
      refine x_goto G d_M_parse_77 ?_
      refine x_istore2 G d_M_parse_81 rfl hk ?_
      refine x_iload2 G d_M_parse_82 ?_
      refine x_if_eq G d_M_parse_83 (fun c83 => absurd c83 ((by decide +kernel))) (fun c83 => ?_)
      refine x_aload0 G d_M_parse_86 ?_
      refine m_callV_pv (p_M_nextToken (kg κ) (d - 1) (by omega) σ8 B n hn96 hB hby8 _ _ q1.2.1 a8.2.1 a8.2.2.1) G d_M_parse_87 lk_M_261 rfl ⟨by decide, rfl⟩ (by decide) (by omega) rfl (Nat.le_of_ble_eq_true rfl) hx (fun σ9 a9 => ?_)
      obtain ⟨t9, o9⟩ := t8.adv q1 (fun _ => ⟨hg0, fun z => absurd ((pr_sg hB hK).symm.trans z) (by decide)⟩) a9
      refine x_aload0 G d_M_parse_90 ?_
      refine x_iload1 G d_M_parse_91 ?_
      rw [show keyI (keyN B (prT B n).st (prT B n).en) = nI (prK B n) from if_pos hK]
      refine m_callV_pn ((M_all hn96 hB hK laT_le 2400).1 (kg κ) (d - 1) σ9 0 0 ((adv B n (prT B n), [], 0) : PS) (by unfold dep; omega) (by decide) (by decide) q7 t9 q2 (Nat.zero_le _)) G d_M_parse_92 lk_M_292 rfl ⟨by decide, rfl⟩ (by decide) (by omega) rfl (Nat.le_of_ble_eq_true rfl) hx (fun σ10 h10 => ?_)
      have h10 : ((prR B n).1 = true → MdC B n (laT S) S (prR B n).2 0 0 σ10) ∧ FaC (laT S) S (prR B n).2 σ10 ∧ OutR σ9 σ10 := h10
      obtain ⟨t10, f10, o10⟩ := h10
      show X κ NC 95 _ (.int (bI (prR B n).1) :: _) _
      refine x_if_eq G d_M_parse_95 (fun c95 => ?_) (fun c95 => ?_)
      · replace c95 := bI_0.mp c95
        refine x_iconst (v := nI 0) G d_M_parse_109 rfl ?_
        refine x_istore2 G d_M_parse_110 rfl hk ?_
        refine x_aload0 G d_M_parse_111 ?_
        refine x_iconst (v := nI 0) G d_M_parse_112 rfl ?_
        refine m_puti_n G d_M_parse_113 fl_M_213 rfl (by decide) rfl rfl rfl (fun σe ee => ?_)
        refine x_iload2 G d_M_parse_116 ?_
        refine x_if_eq G d_M_parse_117 (fun c117 => ?_) (fun c117 => absurd (nI_0) c117)
        refine x_iconst (v := (-1)) G d_M_parse_124 rfl ?_
        exact m_iret E G d_M_parse_125 hx rfl rfl ⟨by rw [if_neg (by rw [show prOk B n = false by unfold prOk; rw [decide_eq_true hK, c95]; rfl]; decide)], by rw [ee, updS_ne (by decide)]; exact (f10.1).trans (by unfold prSt; rw [if_pos hK]), by rw [ee, updS_at]; rfl, by rw [ee, updS_nk (by decide)]; exact (f10.2).trans (by unfold prOut; rw [if_pos hK]), fun z => absurd z (by rw [show prOk B n = false by unfold prOk; rw [decide_eq_true hK, c95]; rfl]; decide), (fun j a => by rw [ee, updS_ne (by omega), o10.1 j (by omega), o9.1 j (by omega)]; exact g8 j (by omega)), fun q a b => by rw [ee, updS_nk a, o10.2 q a b, o9.2 q a b]; exact G8 q a⟩
      · replace c95 := bI_n0.mp c95
        refine x_aload0 G d_M_parse_98 ?_
        refine m_geti G d_M_parse_99 fl_M_227 rfl (by decide) rfl ?_
        have t11 := t10 c95
        rw [t11.2.1.2.2.1]
        refine x_if_ne G d_M_parse_102 (fun c102 => ?_) (fun c102 => ?_)
        · have w102 : ¬ (prR B n).2.tk.sg = 258 := fun z => c102 ((tkI_end q3).mpr z)
          refine x_iconst (v := nI 0) G d_M_parse_109 rfl ?_
          refine x_istore2 G d_M_parse_110 rfl hk ?_
          refine x_aload0 G d_M_parse_111 ?_
          refine x_iconst (v := nI 0) G d_M_parse_112 rfl ?_
          refine m_puti_n G d_M_parse_113 fl_M_213 rfl (by decide) rfl rfl rfl (fun σe ee => ?_)
          refine x_iload2 G d_M_parse_116 ?_
          refine x_if_eq G d_M_parse_117 (fun c117 => ?_) (fun c117 => absurd (nI_0) c117)
          refine x_iconst (v := (-1)) G d_M_parse_124 rfl ?_
          exact m_iret E G d_M_parse_125 hx rfl rfl ⟨by rw [if_neg (by rw [show prOk B n = false by unfold prOk; rw [decide_eq_true hK, c95, decide_eq_false w102]; rfl]; decide)], by rw [ee, updS_ne (by decide)]; exact (f10.1).trans (by unfold prSt; rw [if_pos hK]), by rw [ee, updS_at]; rfl, by rw [ee, updS_nk (by decide)]; exact (f10.2).trans (by unfold prOut; rw [if_pos hK]), fun z => absurd z (by rw [show prOk B n = false by unfold prOk; rw [decide_eq_true hK, c95, decide_eq_false w102]; rfl]; decide), (fun j a => by rw [ee, updS_ne (by omega), o10.1 j (by omega), o9.1 j (by omega)]; exact g8 j (by omega)), fun q a b => by rw [ee, updS_nk a, o10.2 q a b, o9.2 q a b]; exact G8 q a⟩
        · have w102 : (prR B n).2.tk.sg = 258 := (tkI_end q3).mp c102
          refine x_iconst (v := nI 1) G d_M_parse_105 rfl ?_
          refine x_goto G d_M_parse_106 ?_
          refine x_istore2 G d_M_parse_110 rfl hk ?_
          refine x_aload0 G d_M_parse_111 ?_
          refine x_iconst (v := nI 0) G d_M_parse_112 rfl ?_
          refine m_puti_n G d_M_parse_113 fl_M_213 rfl (by decide) rfl rfl rfl (fun σe ee => ?_)
          refine x_iload2 G d_M_parse_116 ?_
          refine x_if_eq G d_M_parse_117 (fun c117 => absurd c117 ((by decide +kernel))) (fun c117 => ?_)
          refine x_iload1 G d_M_parse_120 ?_
          refine x_goto G d_M_parse_121 ?_
          exact m_iret E G d_M_parse_125 hx rfl rfl ⟨by rw [if_pos (show prOk B n = true by unfold prOk; rw [decide_eq_true hK, c95, decide_eq_true w102]; rfl)], by rw [ee, updS_ne (by decide)]; exact (f10.1).trans (by unfold prSt; rw [if_pos hK]), by rw [ee, updS_at]; rfl, by rw [ee, updS_nk (by decide)]; exact (f10.2).trans (by unfold prOut; rw [if_pos hK]), (fun _ => by have t10 := t10 c95; exact ⟨by rw [ee, updS_ne (by decide)]; exact t10.2.2.2.2.1, by rw [ee, updS_ne (by decide)]; exact t10.2.2.2.2.2.2.1⟩), (fun j a => by rw [ee, updS_ne (by omega), o10.1 j (by omega), o9.1 j (by omega)]; exact g8 j (by omega)), fun q a b => by rw [ee, updS_nk a, o10.2 q a b, o9.2 q a b]; exact G8 q a⟩
  refine x_aload0 G d_M_parse_31 ?_
  refine m_getr G d_M_parse_32 fl_M_7 rfl (by decide) rfl ?_
  refine x_iconst (v := nI 1) G d_M_parse_35 rfl ?_
  refine m_iald 1 G d_M_parse_36 rfl rfl ⟨by decide, by first | decide | omega⟩ ?_
  rw [show σ6 114 1 = nI (tn (S 1)) by rw [hs6]; exact hI.2.1.1]
  refine x_bipush (v := nI 14) G d_M_parse_37 rfl ?_
  refine x_icmp_ge G d_M_parse_39 (fun c39 => ?_) (fun c39 => ?_)
  · have w39 : ¬ tn (S 1) < 14 := by rw [nle (by decide) (by omega)] at c39; omega
    refine x_sipush (v := nI 2890) G d_M_parse_57 rfl ?_
    exact J60 _ (by first | rw [show laT S = 90 + 200 * tn (S 1) + 4 from by unfold laT; rw [if_pos w39]; rfl] | rw [show laT S = 2890 from by unfold laT; rw [if_neg w39]])
  · have w39 : tn (S 1) < 14 := by rw [nle (by decide) (by omega)] at c39; omega
    refine x_aload0 G d_M_parse_42 ?_
    refine x_aload0 G d_M_parse_43 ?_
    refine m_getr G d_M_parse_44 fl_M_7 rfl (by decide) rfl ?_
    refine x_iconst (v := nI 1) G d_M_parse_47 rfl ?_
    refine m_iald 1 G d_M_parse_48 rfl rfl ⟨by decide, by first | decide | omega⟩ ?_
    rw [show σ6 114 1 = nI (tn (S 1)) by rw [hs6]; exact hI.2.1.1]
    refine m_callV_pi (p_M_textAt (kg κ) (d - 1) (by omega) σ6 (tn (S 1))) G d_M_parse_49 lk_M_295 rfl ⟨by decide, rfl⟩ (by decide) (by omega) rfl (Nat.le_of_ble_eq_true rfl) hx ?_
    refine x_iconst (v := nI 4) G d_M_parse_52 rfl ?_
    refine x_iadd G d_M_parse_53 ?_
    rw [nI_add]
    refine x_goto G d_M_parse_54 ?_
    exact J60 _ (by first | rw [show laT S = 90 + 200 * tn (S 1) + 4 from by unfold laT; rw [if_pos w39]; rfl] | rw [show laT S = 2890 from by unfold laT; rw [if_neg w39]])
theorem p_M_text (g : CX) (d : Nat) (hd : 101 ≤ d) (σ : Sg) (B : Nat → Nat) (n : Nat) (hn96 : n ≤ 96) (hB : ∀ i, i < n → B i < 256) (hby : ByM B n σ) (S : Rw) (hS : σ 114 = S) (hI : Inv S) : RunM g d M_text [.ref 113] σ (PR (fun v σ1 => v = txV S B n ∧ σ1 114 = txR S B n ∧ σ1 113 18 = 0 ∧ (∀ j, (j < 18 ∨ 29 ≤ j) → σ1 113 j = σ 113 j) ∧ ∀ q, q ≠ 113 → q ≠ 114 → σ1 q = σ q)) := by
  refine RunM.of 2 (by decide +kernel) rfl ?_
  intro κ hg hx hk0 G E
  subst hg
  have hk : 3 ≤ kn κ := Nat.le_of_eq hk0.symm
  show X κ NC 0 [some (.ref 113), none, none] [] (hv σ)
  refine x_aload0 G d_M_text_0 ?_
  refine m_callV_pn (p_M_parse (kg κ) (d - 1) (by omega) σ B n hn96 hB hby S hS hI) G d_M_text_1 lk_M_301 rfl ⟨by decide, rfl⟩ (by decide) (by omega) rfl (Nat.le_of_ble_eq_true rfl) hx (fun σ1 ⟨a1, a2, a3, a4, a5, a6⟩ => ?_)
  obtain ⟨hA, h1'⟩ := agb_put (out := prOut B n) (laT_ge hI)
  have h14b : tn (S 1) ≤ 14 := hI.2.1.2
  have hs1 : σ1 114 1 = nI (tn (S 1)) := by rw [a3, h1']; exact hI.2.1.1
  refine x_istore1 G d_M_text_4 rfl hk ?_
  refine x_iload1 G d_M_text_5 ?_
  refine x_if_ge G d_M_text_6 (fun c6 => ?_) (fun c6 => ?_)
  · have hok : prOk B n = true := Decidable.byContradiction (fun z => by rw [if_neg z] at c6; exact absurd c6 (by decide))
    refine x_aload0 G d_M_text_17 ?_
    refine m_getr G d_M_text_18 fl_M_7 rfl (by decide) rfl ?_
    refine x_iconst (v := nI 1) G d_M_text_21 rfl ?_
    refine m_iald 1 G d_M_text_22 rfl rfl ⟨by decide, by first | decide | omega⟩ ?_
    rw [hs1]
    refine x_bipush (v := nI 14) G d_M_text_23 rfl ?_
    refine x_icmp_ne G d_M_text_25 (fun c25 => ?_) (fun c25 => ?_)
    · have h14 : tn (S 1) < 14 := by
        have : tn (S 1) ≠ 14 := fun e => c25 (by rw [e])
        omega
      refine x_aload0 G d_M_text_31 ?_
      refine x_aload0 G d_M_text_32 ?_
      refine m_getr G d_M_text_33 fl_M_7 rfl (by decide) rfl ?_
      refine x_iconst (v := nI 1) G d_M_text_36 rfl ?_
      refine m_iald 1 G d_M_text_37 rfl rfl ⟨by decide, by first | decide | omega⟩ ?_
      rw [hs1]
      refine m_callV_pi (p_M_textAt (kg κ) (d - 1) (by omega) σ1 (tn (S 1))) G d_M_text_38 lk_M_295 rfl ⟨by decide, rfl⟩ (by decide) (by omega) rfl (Nat.le_of_ble_eq_true rfl) hx ?_
      refine x_istore2 G d_M_text_41 rfl hk ?_
      refine x_aload0 G d_M_text_42 ?_
      refine m_getr G d_M_text_43 fl_M_7 rfl (by decide) rfl ?_
      refine x_iload2 G d_M_text_46 ?_
      refine x_iconst (v := nI 0) G d_M_text_47 rfl ?_
      refine x_iadd G d_M_text_48 ?_
      rw [show nI (90 + 200 * tn (S 1)) + nI 0 = nI (ixT (tn (S 1)) 0) by rw [nI_add]; rfl]
      refine x_iload1 G d_M_text_49 ?_
      refine m_iast_n (ixT (tn (S 1)) 0) G d_M_text_50 rfl rfl ⟨by unfold ixT; omega, by first | decide | omega⟩ (fun σ2 e2 => ?_)
      refine x_aload0 G d_M_text_51 ?_
      refine m_getr G d_M_text_52 fl_M_7 rfl (by decide) rfl ?_
      refine x_iload2 G d_M_text_55 ?_
      refine x_iconst (v := nI 1) G d_M_text_56 rfl ?_
      refine x_iadd G d_M_text_57 ?_
      rw [show nI (90 + 200 * tn (S 1)) + nI 1 = nI (ixT (tn (S 1)) 1) by rw [nI_add]; rfl]
      refine x_aload0 G d_M_text_58 ?_
      refine m_geti G d_M_text_59 fl_M_280 rfl (by decide) rfl ?_
      rw [show σ2 113 28 = nI (prR B n).2.ops by rw [e2, updS_nk (by decide)]; exact (a4 hok).2]
      refine m_iast_n (ixT (tn (S 1)) 1) G d_M_text_62 rfl rfl ⟨by unfold ixT; omega, by first | decide | omega⟩ (fun σ3 e3 => ?_)
      refine x_aload0 G d_M_text_63 ?_
      refine m_getr G d_M_text_64 fl_M_7 rfl (by decide) rfl ?_
      refine x_iload2 G d_M_text_67 ?_
      refine x_iconst (v := nI 2) G d_M_text_68 rfl ?_
      refine x_iadd G d_M_text_69 ?_
      rw [show nI (90 + 200 * tn (S 1)) + nI 2 = nI (ixT (tn (S 1)) 2) by rw [nI_add]; rfl]
      refine x_aload0 G d_M_text_70 ?_
      refine m_geti G d_M_text_71 fl_M_252 rfl (by decide) rfl ?_
      rw [show σ3 113 26 = nI (prR B n).2.out.length by rw [e3, updS_nk (by decide), e2, updS_nk (by decide)]; exact (a4 hok).1]
      refine m_iast_n (ixT (tn (S 1)) 2) G d_M_text_74 rfl rfl ⟨by unfold ixT; omega, by first | decide | omega⟩ (fun σ4 e4 => ?_)
      refine x_aload0 G d_M_text_75 ?_
      refine m_getr G d_M_text_76 fl_M_7 rfl (by decide) rfl ?_
      refine x_iconst (v := nI 1) G d_M_text_79 rfl ?_
      refine x_dup2 G d_M_text_80 rfl rfl ?_
      refine m_iald 1 G d_M_text_81 rfl rfl ⟨by decide, by first | decide | omega⟩ ?_
      rw [show σ4 114 1 = nI (tn (S 1)) by rw [e4, updS_ne (by unfold ixT; omega), e3, updS_ne (by unfold ixT; omega), e2, updS_ne (by unfold ixT; omega)]; exact hs1]
      refine x_iconst (v := nI 1) G d_M_text_82 rfl ?_
      refine x_iadd G d_M_text_83 ?_
      rw [show nI (tn (S 1)) + nI 1 = nI (tn (S 1) + 1) from nI_1 _]
      refine m_iast_n 1 G d_M_text_84 rfl rfl ⟨by decide, by first | decide | omega⟩ (fun σ5 e5 => ?_)
      refine x_aload0 G d_M_text_85 ?_
      refine m_getr G d_M_text_86 fl_M_7 rfl (by decide) rfl ?_
      refine x_iconst (v := nI 1) G d_M_text_89 rfl ?_
      refine m_iald 1 G d_M_text_90 rfl rfl ⟨by decide, by first | decide | omega⟩ ?_
      rw [show σ5 114 1 = nI (tn (S 1) + 1) by rw [e5, updS_at]]
      refine x_iconst (v := nI 1) G d_M_text_91 rfl ?_
      refine x_isub G d_M_text_92 ?_
      rw [pk_sub (by omega), show tn (S 1) + 1 - 1 = tn (S 1) by omega]
      exact m_iret E G d_M_text_93 hx rfl rfl ⟨_, rfl, by unfold txV; rw [if_pos hok, if_pos h14]; exact hI.2.1.1.symm, by rw [e5, updS_row, e4, updS_row, e3, updS_row, e2, updS_row, a3, if_pos hok]; unfold txR hdT; rw [if_pos (show prOk B n = true ∧ tn (S 1) < 14 from ⟨hok, h14⟩)], by rw [e5, updS_nk (by decide), e4, updS_nk (by decide), e3, updS_nk (by decide), e2, updS_nk (by decide)]; exact a2, (fun j a => by rw [e5, updS_nk (by decide), e4, updS_nk (by decide), e3, updS_nk (by decide), e2, updS_nk (by decide)]; exact a5 j a), fun q a b => by rw [e5, updS_nk b, e4, updS_nk b, e3, updS_nk b, e2, updS_nk b]; exact a6 q a b⟩
    · have h14 : ¬ tn (S 1) < 14 := by
        rw [neq (by omega) (by decide)] at c25
        omega
      refine x_ldc G d_M_text_28 kc_M_99 ?_
      exact m_iret E G d_M_text_30 hx rfl rfl ⟨_, rfl, by unfold txV; rw [if_pos hok, if_neg h14], by rw [a3]; unfold txR; rw [if_neg (fun z => h14 z.2)], a2, a5, a6⟩
  · have hok : ¬ prOk B n = true := fun z => c6 (by rw [if_pos z]; have := z; unfold prOk at this; simp only [Bool.and_eq_true, decide_eq_true_eq] at this; exact nI_pos' (by omega))
    refine x_bipush (v := (-100)) G d_M_text_9 rfl ?_
    refine x_aload0 G d_M_text_11 ?_
    refine m_geti G d_M_text_12 fl_M_230 rfl (by decide) rfl ?_
    rw [a1]
    refine x_isub G d_M_text_15 ?_
    exact m_iret E G d_M_text_16 hx rfl rfl ⟨_, rfl, by unfold txV; rw [if_neg hok], by rw [a3]; unfold txR; rw [if_neg (fun z => hok z.1)], a2, a5, a6⟩
