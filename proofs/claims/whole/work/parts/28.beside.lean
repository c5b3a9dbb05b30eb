/-! who stands beside whom: the class's side -/
def dB (T : Nat → Int32) (i : Nat) : Nat := if i / 8 < i % 8 ∧ togB T (i / 8) (i % 8) = true then 1 else 0
def pK (S : Rw) : Nat → Nat → Nat
  | 0, _ => 0
  | k + 1, i => pK S k i + dB (sNoonT (passN S (-1) k) (-1)) i
def mxN (c : Nat → Nat) : Nat → Nat
  | 0 => 0
  | i + 1 => if c (mxN c i) < c i then i else mxN c i
def fBeside (S : Rw) (n what : Int32) : Int32 × Rw := (if inB n (nI 1) (nI 60) && upB what (nI 1) then (if pK S (tn n) (mxN (pK S (tn n)) 64) = 0 then -1000000005 else if what = 0 then nI (10 * (mxN (pK S (tn n)) 64 / 8) + mxN (pK S (tn n)) 64 % 8) else nI (pK S (tn n) (mxN (pK S (tn n)) 64))) else -1000000001, S)
theorem dB_le (T : Nat → Int32) (i : Nat) : dB T i ≤ 1 := by unfold dB; split <;> omega
theorem pK_le (S : Rw) : ∀ k i, pK S k i ≤ k
  | 0, _ => Nat.le_refl _
  | k + 1, i => by have := pK_le S k i; have := dB_le (sNoonT (passN S (-1) k) (-1)) i; unfold pK; omega
theorem pK_0 (S : Rw) : ∀ k, pK S k 0 = 0
  | 0 => rfl
  | k + 1 => by unfold pK; rw [pK_0 S k]; rfl
theorem mxN_lt (c : Nat → Nat) : ∀ i, 0 < i → mxN c i < i
  | i + 1, _ => by
    unfold mxN
    split
    · exact Nat.lt_succ_self i
    · rcases Nat.eq_zero_or_pos i with z | z
      · subst z; exact Nat.lt_succ_self 0
      · have := mxN_lt c i z; omega
theorem mxN_64 (c : Nat → Nat) (i : Nat) (h : i ≤ 64) : mxN c i < 64 := by
  rcases Nat.eq_zero_or_pos i with z | z
  · subst z; show 0 < 64; decide
  · have := mxN_lt c i z; omega
def bsSt (c : Nat → Nat) (i : Nat) (pr mo : Int32) : Prop := (c (mxN c i) = 0 ∧ pr = -1 ∧ mo = nI 0) ∨ (0 < c (mxN c i) ∧ pr = nI (mxN c i) ∧ mo = nI (c (mxN c i)))
theorem bsSt.most {c : Nat → Nat} {i : Nat} {pr mo : Int32} (h : bsSt c i pr mo) : mo = nI (c (mxN c i)) := by
  rcases h with ⟨h1, -, h2⟩ | ⟨-, -, h2⟩
  · rw [h1]; exact h2
  · exact h2
theorem bs_new {c : Nat → Nat} {i : Nat} (hc : ∀ i, c i ≤ 60) (h : nI (c (mxN c i)) < nI (c i)) : bsSt c (i + 1) (nI i) (nI (c i)) := by
  rw [nlt (by have := hc (mxN c i); omega) (by have := hc i; omega)] at h
  have e : mxN c (i + 1) = i := by rw [mxN, if_pos h]
  refine Or.inr ?_
  rw [e]
  exact ⟨by omega, rfl, rfl⟩
theorem bs_old {c : Nat → Nat} {i : Nat} {pr mo : Int32} (hc : ∀ i, c i ≤ 60) (hs : bsSt c i pr mo) (h : ¬ nI (c (mxN c i)) < nI (c i)) : bsSt c (i + 1) pr mo := by
  rw [nlt (by have := hc (mxN c i); omega) (by have := hc i; omega)] at h
  have e : mxN c (i + 1) = mxN c i := by rw [mxN, if_neg h]
  unfold bsSt
  rw [e]
  exact hs
/-- the pairs of a noon up to one, other -/
def pQ (S : Rw) (k : Nat) (T : Nat → Int32) (one other i : Nat) : Nat := pK S k i + (if i / 8 < one ∨ (i / 8 = one ∧ i % 8 < other) then dB T i else 0)
theorem pQ_le (S : Rw) (k : Nat) (T : Nat → Int32) (one other i : Nat) : pQ S k T one other i ≤ k + 1 := by
  have := pK_le S k i; have := dB_le T i; unfold pQ; split <;> omega
theorem pQ_0 {S : Rw} {k : Nat} {T : Nat → Int32} {i : Nat} : pQ S k T 0 0 i = pK S k i := by unfold pQ; rw [if_neg (by omega)]; rfl
theorem pQ_in {S : Rw} {k : Nat} {T : Nat → Int32} {one i : Nat} : pQ S k T one 0 i = pQ S k T one (one + 1) i := by
  unfold pQ
  by_cases h : i / 8 < one
  · rw [if_pos (Or.inl h), if_pos (Or.inl h)]
  · by_cases g : i / 8 = one ∧ i % 8 < one + 1
    · rw [if_neg (by omega), if_pos (Or.inr g)]
      unfold dB
      rw [if_neg (by omega)]
    · rw [if_neg (by omega), if_neg (by omega)]
theorem togB_none {T : Nat → Int32} {a b : Nat} (h : T b = -1) : togB T a b = false := by
  unfold togB
  rw [h]
  by_cases q : T a = -1
  · rw [decide_eq_true q]; rfl
  · rw [decide_eq_false q]; rfl
theorem pQ_out {S : Rw} {k : Nat} {T : Nat → Int32} {one n i : Nat} (hi : i < 64) (hn : ∀ q, n ≤ q → T q = -1) : pQ S k T one n i = pQ S k T (one + 1) 0 i := by
  unfold pQ
  by_cases h : i / 8 < one
  · rw [if_pos (Or.inl h), if_pos (by omega)]
  · by_cases g : i / 8 = one
    · rw [if_pos (show i / 8 < one + 1 ∨ _ by omega)]
      by_cases w : i % 8 < n
      · rw [if_pos (Or.inr ⟨g, w⟩)]
      · rw [if_neg (by omega)]
        unfold dB
        rw [togB_none (hn _ (by omega)), if_neg (by simp)]
    · rw [if_neg (by omega), if_neg (by omega)]
theorem pQ_end {S : Rw} {k n i : Nat} {T : Nat → Int32} (hT : sNoonT (passN S (-1) k) (-1) = T) (hn : ∀ q, n ≤ q → T q = -1) : pQ S k T n 0 i = pK S (k + 1) i := by
  unfold pQ
  rw [pK, hT]
  by_cases h : i / 8 < n
  · rw [if_pos (Or.inl h)]
  · rw [if_neg (by omega)]
    unfold dB
    by_cases g : i / 8 < i % 8
    · rw [togB_none (hn _ (by omega)), if_neg (by simp)]
    · rw [if_neg (by omega)]
theorem pQ_step {S : Rw} {k one other i : Nat} {T : Nat → Int32} (h1 : one < other) (h2 : other < 8) : pQ S k T one (other + 1) i = (if i = one * 8 + other then pQ S k T one other i + (if togB T one other then 1 else 0) else pQ S k T one other i) := by
  unfold pQ
  by_cases e : i = one * 8 + other
  · have a : i / 8 = one := by omega
    have b : i % 8 = other := by omega
    rw [if_pos e, if_pos (by omega), if_neg (by omega)]
    unfold dB
    rw [a, b, Nat.add_zero]
    by_cases t : togB T one other = true
    · rw [if_pos ⟨h1, t⟩, if_pos t]
    · rw [if_neg (fun q => t q.2), if_neg t]
  · rw [if_neg e]
    by_cases g : i / 8 < one ∨ (i / 8 = one ∧ i % 8 < other)
    · rw [if_pos g, if_pos (by omega)]
    · rw [if_neg g, if_neg (by omega)]
def PairsAt (σ : Sg) (c : Nat → Nat) : Prop := ∀ i, i < 64 → σ 79 i = nI (c i)
/-- what the counting of pairs may write -/
def OutP (σ σ1 : Sg) : Prop := ∀ k, (k < 58 ∨ 73 ≤ k) → k ≠ 27 → k ≠ 79 → σ1 k = σ k
theorem OutP.trans {σ σ1 σ2 : Sg} (h : OutP σ σ1) (g : OutP σ1 σ2) : OutP σ σ2 := fun k a b c => (g k a b c).trans (h k a b c)
theorem OutP.of {σ σ1 : Sg} (h : OutW 58 σ σ1) : OutP σ σ1 := fun k a b _ => h k (by omega) b
theorem OutP.c {σ σ1 : Sg} (h : OutP σ σ1) : OutC σ σ1 := ⟨fun k _ _ c d e _ => h k c d e, fun j _ _ => by rw [h 0 (by decide) (by decide) (by decide)]⟩
theorem OutP.pr {σ σ1 : Sg} {j : Nat} {x : Int32} (h : OutP σ σ1) : OutP σ (updS σ1 79 j x) := fun k a b c => by rw [updS_nk c]; exact h k a b c
theorem OutP.w28 {σ σ1 : Sg} {S : Rw} (hR : WRel 28 S σ) (h : OutP σ σ1) : WRel 28 S σ1 := hR.frame (fun k a b _ => h k (by omega) (by omega) (by omega))
theorem OutP.l {σ σ1 : Sg} {S S' : Rw} (hI : Inv S) (hL : LRel S σ) (hA : AgT S S') (h : OutP σ σ1) : LRel S' σ1 :=
  LRel_agT hA (fun k a b => h k (by omega) (by omega) (by omega)) hL (by have := hI.2.1.2; omega)
theorem p_N_countPairs (g : CX) (d : Nat) (hd : 6 ≤ d) (σ : Sg) (S : Rw) (hO : CO S σ) (n : Nat) (hn60 : n ≤ 60) : RunM g d N_countPairs [.ref 0, .int (nI n)] σ (PV (fun σ1 => PairsAt σ1 (pK S n) ∧ OutP σ σ1)) := by
  refine RunM.of 3 (by decide +kernel) rfl ?_
  intro κ hg hx hk0 G E
  subst hg
  have hk : 5 ≤ kn κ := Nat.le_of_eq hk0.symm
  show X κ NC 0 [some (.ref 0), some (.int (nI n)), none, none, none] [] (hv σ)
  obtain ⟨hR, hL, hI, hJ, h9⟩ := hO
  have hn8 := hI.n
  refine x_iconst (v := nI 0) G d_N_countPairs_0 rfl ?_
  refine x_istore2 G d_N_countPairs_1 rfl hk ?_
  have hz : ∀ (m i : Nat) (σ1 : Sg) (o3 o4 : Option Value), i ≤ 64 → 64 < i + m → (∀ q, q < i → σ1 79 q = nI 0) → OutP σ σ1 → X κ NC 2 [some (.ref 0), some (.int (nI n)), some (.int (nI i)), o3, o4] [] (hv σ1) := by
    intro m
    induction m with
    | zero => intro i σ1 o3 o4 h1 h2; omega
    | succ m ih =>
      intro i σ1 o3 o4 hi1 hi2 hz1 hO1
      refine x_iload2 G d_N_countPairs_2 ?_
      refine x_aload0 G d_N_countPairs_3 ?_
      refine m_getr G d_N_countPairs_4 fl_N_76 rfl (by decide) rfl ?_
      refine m_alen G d_N_countPairs_7 rfl (by decide) (by decide) rfl ?_
      refine x_icmp_ge G d_N_countPairs_8 (fun c8 => ?_) (fun c8 => ?_)
      · have hi64 : i = 64 := by have c : nI 64 ≤ nI i := c8; rw [nle (by omega) (by omega)] at c; omega
        refine x_aload0 G d_N_countPairs_24 ?_
        refine m_getr G d_N_countPairs_25 fl_N_50 rfl (by decide) rfl ?_
        refine x_aload0 G d_N_countPairs_28 ?_
        refine m_getr G d_N_countPairs_29 fl_N_43 rfl (by decide) rfl ?_
        refine m_callV_pv (p_Wo_become (kg κ) (d - 1) (by omega) σ1 58 28 hw58 hw28 (by decide) S (hO1.w28 hR)) G d_N_countPairs_32 lk_N_186 rfl ⟨by decide, rfl⟩ (by decide) (by omega) rfl (Nat.le_of_ble_eq_true rfl) hx (fun σ2 ⟨g1, g2⟩ => ?_)
        refine x_iconst (v := nI 0) G d_N_countPairs_35 rfl ?_
        refine x_istore2 G d_N_countPairs_36 rfl hk ?_
        have hn : ∀ (m k : Nat) (σ3 : Sg) (o3 o4 : Option Value), k ≤ n → n < k + m → WRel 58 (passN S (-1) k) σ3 → PairsAt σ3 (pK S k) → OutP σ σ3 → X κ NC 37 [some (.ref 0), some (.int (nI n)), some (.int (nI k)), o3, o4] [] (hv σ3) := by
          intro m
          induction m with
          | zero => intro k σ3 o3 o4 h1 h2; omega
          | succ m ih2 =>
            intro k σ3 o3 o4 hk1 hk2 hR3 hP3 hO3
            obtain ⟨kI, k0, -, kz, kA, -⟩ := passN_keep hI (-1) k (by have := h9.2; omega)
            have jI := (passN_keep hI (-1) (k + 1) (by have := h9.2; omega))
            refine x_iload2 G d_N_countPairs_37 ?_
            refine x_iload1 G d_N_countPairs_38 ?_
            refine x_icmp_ge G d_N_countPairs_39 (fun c39 => ?_) (fun c39 => ?_)
            · have hkn : k = n := by rw [nle (by omega) (by omega)] at c39; omega
              exact m_vret E G d_N_countPairs_128 hx rfl ⟨rfl, (by rw [← hkn]; exact hP3), hO3⟩
            · have hkn : k < n := by rw [nle (by omega) (by omega)] at c39; omega
              refine x_aload0 G d_N_countPairs_42 ?_
              refine m_getr G d_N_countPairs_43 fl_N_50 rfl (by decide) rfl ?_
              refine x_iconst (v := nI 1) G d_N_countPairs_46 rfl ?_
              refine x_iconst (v := (-1)) G d_N_countPairs_47 rfl ?_
              refine m_callV_pv (p_Wo_pass (kg κ) (d - 1) (by omega) σ3 58 hw58 _ hR3 kI (hO3.l hI hL kA) 1 (by rw [kz, tn_nI (by have := h9.2; omega)]; have := h9.2; omega) (-1)) G d_N_countPairs_48 lk_N_174 rfl ⟨by decide, rfl⟩ (by decide) (by omega) rfl (Nat.le_of_ble_eq_true rfl) hx (fun σ4 ⟨a1, a2, a3⟩ => ?_)
              obtain ⟨T, hT⟩ : ∃ z, sNoonT (passN S (-1) k) (-1) = z := ⟨_, rfl⟩
              rw [show passN (passN S (-1) k) (-1) 1 = passN S (-1) (k + 1) from rfl] at a1
              replace a3 : StT 58 T σ4 := by rw [← hT]; exact a3 (by decide)
              have hTn : ∀ q, tn (S 0) ≤ q → T q = -1 := fun q hq => by rw [← hT]; exact sGosT_none kI (-1) (by rw [k0]; exact hq)
              have hO4 : OutP σ σ4 := hO3.trans (OutP.of a2)
              have hP4 : PairsAt σ4 (pQ S k T 0 0) := fun i hi => by rw [pQ_0, a2 79 (by decide) (by decide)]; exact hP3 i hi
              refine x_iconst (v := nI 0) G d_N_countPairs_51 rfl ?_
              refine x_istore3 G d_N_countPairs_52 rfl hk ?_
              have h1 : ∀ (m one : Nat) (σ5 : Sg) (o4 : Option Value), one ≤ tn (S 0) → tn (S 0) < one + m → (∀ q, 58 ≤ q → q < 73 → σ5 q = σ4 q) → PairsAt σ5 (pQ S k T one 0) → OutP σ σ5 → X κ NC 53 [some (.ref 0), some (.int (nI n)), some (.int (nI k)), some (.int (nI one)), o4] [] (hv σ5) := by
                intro m
                induction m with
                | zero => intro one σ5 o4 h1 h2; omega
                | succ m ih3 =>
                  intro one σ5 o4 hi1 hi2 hF5 hP5 hO5
                  have hc5 : σ5 58 7 = nI (tn (S 0)) := by rw [hF5 58 (by decide) (by decide), a1.n, jI.2.1]; exact hn8.1
                  refine x_iload3 G d_N_countPairs_53 ?_
                  refine x_aload0 G d_N_countPairs_54 ?_
                  refine m_getr G d_N_countPairs_55 fl_N_50 rfl (by decide) rfl ?_
                  refine m_geti G d_N_countPairs_58 fl_N_153 rfl (by decide) rfl ?_
                  rw [hc5]
                  refine x_icmp_ge G d_N_countPairs_61 (fun c61 => ?_) (fun c61 => ?_)
                  · have hone : one = tn (S 0) := by rw [nle (by omega) (by omega)] at c61; omega
                    refine x_iinc2 (v := nI (k + 1)) G d_N_countPairs_122 rfl hk (nI_1 _) ?_
                    refine x_goto G d_N_countPairs_125 ?_
                    exact ih2 (k + 1) _ _ _ (by omega) (by omega) (a1.frame (fun q b1 b2 b3 => hF5 q b1 (by omega))) (fun q hq => by rw [hP5 q hq, hone, pQ_end hT hTn]) hO5
                  · have hone : one < tn (S 0) := by rw [nle (by omega) (by omega)] at c61; omega
                    refine x_iload3 G d_N_countPairs_64 ?_
                    refine x_iconst (v := nI 1) G d_N_countPairs_65 rfl ?_
                    refine x_iadd G d_N_countPairs_66 ?_
                    rw [show nI one + nI 1 = nI (one + 1) from nI_1 _]
                    refine x_istore4 G d_N_countPairs_67 rfl hk ?_
                    have h2 : ∀ (m other : Nat) (σ6 : Sg), one + 1 ≤ other → other ≤ tn (S 0) → tn (S 0) < other + m → (∀ q, 58 ≤ q → q < 73 → σ6 q = σ4 q) → PairsAt σ6 (pQ S k T one other) → OutP σ σ6 → X κ NC 69 [some (.ref 0), some (.int (nI n)), some (.int (nI k)), some (.int (nI one)), some (.int (nI other))] [] (hv σ6) := by
                      intro m
                      induction m with
                      | zero => intro other σ6 h0 h1 h2; omega
                      | succ m ih4 =>
                        intro other σ6 hj0 hj1 hj2 hF6 hP6 hO6
                        have hc6 : σ6 58 7 = nI (tn (S 0)) := by rw [hF6 58 (by decide) (by decide), a1.n, jI.2.1]; exact hn8.1
                        have hT6 : StT 58 T σ6 := a3.ne (by rw [hF6 (58 + 13) (by decide) (by decide)])
                        refine x_iload4 G d_N_countPairs_69 ?_
                        refine x_aload0 G d_N_countPairs_71 ?_
                        refine m_getr G d_N_countPairs_72 fl_N_50 rfl (by decide) rfl ?_
                        refine m_geti G d_N_countPairs_75 fl_N_153 rfl (by decide) rfl ?_
                        rw [hc6]
                        refine x_icmp_ge G d_N_countPairs_78 (fun c78 => ?_) (fun c78 => ?_)
                        · have hother : other = tn (S 0) := by rw [nle (by omega) (by omega)] at c78; omega
                          refine x_iinc3 (v := nI (one + 1)) G d_N_countPairs_116 rfl hk (nI_1 _) ?_
                          refine x_goto G d_N_countPairs_119 ?_
                          exact ih3 (one + 1) _ _ (by omega) (by omega) hF6 (fun q hq => by rw [hP6 q hq, hother, pQ_out hq hTn]) hO6
                        · have hother : other < tn (S 0) := by rw [nle (by omega) (by omega)] at c78; omega
                          refine x_aload0 G d_N_countPairs_81 ?_
                          refine m_getr G d_N_countPairs_82 fl_N_50 rfl (by decide) rfl ?_
                          refine x_iload3 G d_N_countPairs_85 ?_
                          refine x_iload4 G d_N_countPairs_86 ?_
                          refine m_callV_pi (p_Wo_standTogether (kg κ) (d - 1) (by omega) σ6 58 hw58 T hT6 one other (by omega) (by omega)) G d_N_countPairs_88 lk_N_222 rfl ⟨by decide, rfl⟩ (by decide) (by omega) rfl (Nat.le_of_ble_eq_true rfl) hx ?_
                          refine x_if_eq G d_N_countPairs_91 (fun c91 => ?_) (fun c91 => ?_)
                          · replace c91 := bI_0.mp c91
                            refine x_iinc4 (v := nI (other + 1)) G d_N_countPairs_110 rfl hk (nI_1 _) ?_
                            refine x_goto G d_N_countPairs_113 ?_
                            exact ih4 (other + 1) _ (by omega) (by omega) (by omega) hF6 (fun q hq => if e : q = one * 8 + other then (by rw [hP6 q hq, pQ_step (by omega) (by omega), c91, if_pos e]; rfl) else (by rw [hP6 q hq, pQ_step (by omega) (by omega), c91, if_neg e])) hO6
                          · replace c91 := bI_n0.mp c91
                            refine x_aload0 G d_N_countPairs_94 ?_
                            refine m_getr G d_N_countPairs_95 fl_N_76 rfl (by decide) rfl ?_
                            refine x_iload3 G d_N_countPairs_98 ?_
                            refine x_bipush (v := nI 8) G d_N_countPairs_99 rfl ?_
                            refine x_imul G d_N_countPairs_101 ?_
                            refine x_iload4 G d_N_countPairs_102 ?_
                            refine x_iadd G d_N_countPairs_104 ?_
                            rw [pk_mul, nI_add]
                            refine x_dup2 G d_N_countPairs_105 rfl rfl ?_
                            refine m_iald (one * 8 + other) G d_N_countPairs_106 rfl rfl ⟨by omega, by first | decide | omega⟩ ?_
                            rw [hP6 _ (show one * 8 + other < 64 by omega)]
                            refine x_iconst (v := nI 1) G d_N_countPairs_107 rfl ?_
                            refine x_iadd G d_N_countPairs_108 ?_
                            rw [nI_add]
                            refine m_iast_n (one * 8 + other) G d_N_countPairs_109 rfl rfl ⟨by omega, by first | decide | omega⟩ (fun σ7 e7 => ?_)
                            refine x_iinc4 (v := nI (other + 1)) G d_N_countPairs_110 rfl hk (nI_1 _) ?_
                            refine x_goto G d_N_countPairs_113 ?_
                            exact ih4 (other + 1) σ7 (by omega) (by omega) (by omega) (fun q b1 b2 => by rw [e7, updS_nk (by omega)]; exact hF6 q b1 b2) (fun q hq => if e : q = one * 8 + other then (by rw [pQ_step (by omega) (by omega), c91, if_pos e, e, e7, updS_at]; rfl) else (by rw [pQ_step (by omega) (by omega), c91, if_neg e, e7, updS_ne (by omega)]; exact hP6 q hq)) (by rw [e7]; exact hO6.pr)
                    exact h2 (tn (S 0) + 1) (one + 1) σ5 (by omega) (by omega) (by omega) hF5 (fun q hq => by rw [← pQ_in]; exact hP5 q hq) hO5
              exact h1 (tn (S 0) + 1) 0 σ4 _ (by omega) (by omega) (fun _ _ _ => rfl) hP4 hO4
        exact hn (n + 1) 0 σ2 _ _ (by omega) (by omega) g1 (fun q hq => by rw [g2 79 (by decide) (by decide), hz1 q (by omega)]; rfl) (hO1.trans (OutP.of g2))
      · have hi64 : i < 64 := by have c : ¬ nI 64 ≤ nI i := c8; rw [nle (by omega) (by omega)] at c; omega
        refine x_aload0 G d_N_countPairs_11 ?_
        refine m_getr G d_N_countPairs_12 fl_N_76 rfl (by decide) rfl ?_
        refine x_iload2 G d_N_countPairs_15 ?_
        refine x_iconst (v := nI 0) G d_N_countPairs_16 rfl ?_
        refine m_iast_n i G d_N_countPairs_17 rfl rfl ⟨by omega, by first | decide | omega⟩ (fun σ2 e2 => ?_)
        refine x_iinc2 (v := nI (i + 1)) G d_N_countPairs_18 rfl hk (nI_1 _) ?_
        refine x_goto G d_N_countPairs_21 ?_
        exact ih (i + 1) _ _ _ (by omega) (by omega) (fun q hq => if e : q = i then (by rw [e, e2, updS_at]) else (by rw [e2, updS_ne (by omega)]; exact hz1 q (by omega))) (by rw [e2]; exact hO1.pr)
  exact hz 65 0 σ none none (by decide) (by decide) (fun q hq => absurd hq (Nat.not_lt_zero q)) (fun _ _ _ _ => rfl)
theorem p_N_beside (g : CX) (d : Nat) (hd : 7 ≤ d) (σ : Sg) (S : Rw) (hO : CO S σ) (n what : Int32) : RunM g d N_beside [.ref 0, .int n, .int what] σ (PR (RC (fBeside S n what) σ)) := by
  refine RunM.of 3 (by decide +kernel) rfl ?_
  intro κ hg hx hk0 G E
  subst hg
  have hk : 6 ≤ kn κ := Nat.le_of_eq hk0.symm
  show X κ NC 0 [some (.ref 0), some (.int n), some (.int what), none, none, none] [] (hv σ)
  obtain ⟨hR, hL, hI, hJ, h9⟩ := hO
  have hn8 := hI.n
  refine x_iload1 G d_N_beside_0 ?_
  refine x_iconst (v := nI 1) G d_N_beside_1 rfl ?_
  refine x_icmp_lt G d_N_beside_2 (fun c2 => ?_) (fun c2 => ?_)
  · have cin : inB n (nI 1) (nI 60) = false := by simp only [inB, c2, decide_true, decide_false, Bool.not_false, Bool.not_true, Bool.and_true, Bool.and_false, Bool.false_and]
    refine x_ldc G d_N_beside_19 kc_N_102 ?_
    exact m_iret E G d_N_beside_21 hx rfl rfl ⟨_, rfl, RC.same hR (by simp only [fBeside, cin, Bool.and_true, Bool.true_and, Bool.and_false, Bool.false_and, Bool.or_true, Bool.true_or, Bool.or_false, Bool.false_or, Bool.not_true, Bool.not_false, Bool.false_eq_true, decide_true, decide_false, if_true, if_false])⟩
  · refine x_iload1 G d_N_beside_5 ?_
    refine x_bipush (v := nI 60) G d_N_beside_6 rfl ?_
    refine x_icmp_gt G d_N_beside_8 (fun c8 => ?_) (fun c8 => ?_)
    · have cin : inB n (nI 1) (nI 60) = false := by simp only [inB, c2, c8, decide_true, decide_false, Bool.not_false, Bool.not_true, Bool.and_true, Bool.and_false, Bool.false_and]
      refine x_ldc G d_N_beside_19 kc_N_102 ?_
      exact m_iret E G d_N_beside_21 hx rfl rfl ⟨_, rfl, RC.same hR (by simp only [fBeside, cin, Bool.and_true, Bool.true_and, Bool.and_false, Bool.false_and, Bool.or_true, Bool.true_or, Bool.or_false, Bool.false_or, Bool.not_true, Bool.not_false, Bool.false_eq_true, decide_true, decide_false, if_true, if_false])⟩
    · have cin : inB n (nI 1) (nI 60) = true := by simp only [inB, c2, c8, decide_true, decide_false, Bool.not_false, Bool.not_true, Bool.and_true, Bool.and_false, Bool.false_and]
      obtain ⟨j, hj1, hj2, tj, rfl⟩ := inB_1 (by decide) cin
      refine x_iload2 G d_N_beside_11 ?_
      refine x_iconst (v := nI 1) G d_N_beside_12 rfl ?_
      refine m_callS_pi (p_N_isUpTo (kg κ) (d - 1) (Nat.zero_le _) _ _ _) G d_N_beside_13 lk_N_98 (by omega) rfl (Nat.le_of_ble_eq_true rfl) hx ?_
      refine x_if_ne G d_N_beside_16 (fun c16 => ?_) (fun c16 => ?_)
      · replace c16 := bI_n0.mp c16
        refine x_aload0 G d_N_beside_22 ?_
        refine x_iload1 G d_N_beside_23 ?_
        refine m_callV_pv (p_N_countPairs (kg κ) (d - 1) (by omega) σ S ⟨hR, hL, hI, hJ, h9⟩ j (by omega)) G d_N_beside_24 lk_N_219 rfl ⟨by decide, rfl⟩ (by decide) (by omega) rfl (Nat.le_of_ble_eq_true rfl) hx (fun σ1 ⟨g1, g2⟩ => ?_)
        refine x_iconst (v := (-1)) G d_N_beside_27 rfl ?_
        refine x_istore3 G d_N_beside_28 rfl hk ?_
        refine x_iconst (v := nI 0) G d_N_beside_29 rfl ?_
        refine x_istore4 G d_N_beside_30 rfl hk ?_
        refine x_iconst (v := nI 0) G d_N_beside_32 rfl ?_
        refine x_istore5 G d_N_beside_33 rfl hk ?_
        have hloop : ∀ (m i : Nat) (pr mo : Int32), i ≤ 64 → 64 < i + m → bsSt (pK S j) i pr mo → X κ NC 35 [some (.ref 0), some (.int (nI j)), some (.int what), some (.int pr), some (.int mo), some (.int (nI i))] [] (hv σ1) := by
          intro m
          induction m with
          | zero => intro i pr mo h1 h2; omega
          | succ m ih =>
            intro i pr mo hi1 hi2 hst
            refine x_iload5 G d_N_beside_35 ?_
            refine x_aload0 G d_N_beside_37 ?_
            refine m_getr G d_N_beside_38 fl_N_76 rfl (by decide) rfl ?_
            refine m_alen G d_N_beside_41 rfl (by decide) (by decide) rfl ?_
            refine x_icmp_ge G d_N_beside_42 (fun c42 => ?_) (fun c42 => ?_)
            · replace c42 := Int32.not_lt.mpr c42
              have hi64 : i = 64 := by have c : ¬ nI i < nI 64 := c42; rw [nlt (by omega) (by decide)] at c; omega
              refine x_iload3 G d_N_beside_75 ?_
              refine x_iconst (v := (-1)) G d_N_beside_76 rfl ?_
              refine x_icmp_ne G d_N_beside_77 (fun c77 => ?_) (fun c77 => ?_)
              · replace hst := hst.resolve_left (fun z => c77 z.2.1)
                have hne : ¬ pK S j (mxN (pK S j) 64) = 0 := by rw [← hi64]; omega
                refine x_iload2 G d_N_beside_83 ?_
                refine x_if_ne G d_N_beside_84 (fun c84 => ?_) (fun c84 => ?_)
                · refine x_iload4 G d_N_beside_102 ?_
                  exact m_iret E G d_N_beside_104 hx rfl rfl ⟨_, rfl, RC.mk' (S1 := S) (v1 := nI (pK S j (mxN (pK S j) 64))) (by simp only [fBeside, cin, c16, tj, Bool.and_true, if_true, hne, c84, if_false]) (by rw [hst.2.2, hi64]) (g2.w28 hR) g2.c⟩
                · refine x_bipush (v := nI 10) G d_N_beside_87 rfl ?_
                  refine x_iload3 G d_N_beside_89 ?_
                  refine x_bipush (v := nI 8) G d_N_beside_90 rfl ?_
                  refine x_idiv G d_N_beside_92 (by decide +kernel) ?_
                  refine x_imul G d_N_beside_93 ?_
                  refine x_iload3 G d_N_beside_94 ?_
                  refine x_bipush (v := nI 8) G d_N_beside_95 rfl ?_
                  refine x_irem G d_N_beside_97 (by decide +kernel) ?_
                  refine x_iadd G d_N_beside_98 ?_
                  refine x_goto G d_N_beside_99 ?_
                  exact m_iret E G d_N_beside_104 hx rfl rfl ⟨_, rfl, RC.mk' (S1 := S) (v1 := nI (10 * (mxN (pK S j) 64 / 8) + mxN (pK S j) 64 % 8)) (by simp only [fBeside, cin, c16, tj, Bool.and_true, if_true, hne, eq_true c84, if_false]) (by rw [hst.2.1, hi64, pk_rem (by have := mxN_64 (pK S j) 64 (by decide); omega) (by decide) (by decide), pk_div (by have := mxN_64 (pK S j) 64 (by decide); omega) (by decide) (by decide), pk_mul, nI_add]) (g2.w28 hR) g2.c⟩
              · replace hst := hst.resolve_right (fun z => nI_m1 (k := mxN (pK S j) i) (by have := mxN_64 (pK S j) i hi1; omega) (by rw [← z.2.1]; exact c77))
                have hne : pK S j (mxN (pK S j) 64) = 0 := by rw [← hi64]; exact hst.1
                refine x_ldc G d_N_beside_80 kc_N_185 ?_
                exact m_iret E G d_N_beside_82 hx rfl rfl ⟨_, rfl, RC.mk' (S1 := S) (v1 := -1000000005) (by simp only [fBeside, cin, c16, tj, Bool.and_true, if_true, hne]) rfl (g2.w28 hR) g2.c⟩
            · replace c42 := Int32.not_le.mp c42
              have hi64 : i < 64 := by have c : nI i < nI 64 := c42; rw [nlt (by omega) (by decide)] at c; omega
              refine x_aload0 G d_N_beside_45 ?_
              refine m_getr G d_N_beside_46 fl_N_76 rfl (by decide) rfl ?_
              refine x_iload5 G d_N_beside_49 ?_
              refine m_iald i G d_N_beside_51 rfl rfl ⟨by omega, by first | decide | omega⟩ ?_
              rw [g1 i hi64, hst.most]
              refine x_iload4 G d_N_beside_52 ?_
              refine x_icmp_le G d_N_beside_54 (fun c54 => ?_) (fun c54 => ?_)
              · replace c54 := Int32.not_lt.mpr c54
                refine x_iinc5 (v := nI (i + 1)) G d_N_beside_69 rfl hk (nI_1 _) ?_
                refine x_goto G d_N_beside_72 ?_
                exact ih (i + 1) _ _ (by omega) (by omega) (bs_old (fun q => by have := pK_le S j q; omega) (by have q := hst; rw [hst.most] at q; exact q) c54)
              · replace c54 := Int32.not_le.mp c54
                refine x_iload5 G d_N_beside_57 ?_
                refine x_istore3 G d_N_beside_59 rfl hk ?_
                refine x_aload0 G d_N_beside_60 ?_
                refine m_getr G d_N_beside_61 fl_N_76 rfl (by decide) rfl ?_
                refine x_iload5 G d_N_beside_64 ?_
                refine m_iald i G d_N_beside_66 rfl rfl ⟨by omega, by first | decide | omega⟩ ?_
                rw [g1 i hi64]
                refine x_istore4 G d_N_beside_67 rfl hk ?_
                refine x_iinc5 (v := nI (i + 1)) G d_N_beside_69 rfl hk (nI_1 _) ?_
                refine x_goto G d_N_beside_72 ?_
                exact ih (i + 1) _ _ (by omega) (by omega) (bs_new (fun q => by have := pK_le S j q; omega) c54)
        exact hloop 65 0 (-1) (nI 0) (by decide) (by decide) (Or.inl ⟨pK_0 S j, rfl, rfl⟩)
      · replace c16 := bI_0.mp c16
        refine x_ldc G d_N_beside_19 kc_N_102 ?_
        exact m_iret E G d_N_beside_21 hx rfl rfl ⟨_, rfl, RC.same hR (by simp only [fBeside, cin, tj, c16, Bool.and_true, Bool.true_and, Bool.and_false, Bool.false_and, Bool.or_true, Bool.true_or, Bool.or_false, Bool.false_or, Bool.not_true, Bool.not_false, Bool.false_eq_true, decide_true, decide_false, if_true, if_false])⟩
