/-! slots, a text told, the image, the checking, on both sides -/
theorem q_keep {g : CX} {σ : Sg} (h : LI σ) : Pair g N_keep M_keep [] σ := by
  obtain ⟨hA, hB, hC, hD, hE, hF⟩ := h
  refine ⟨_, p_N_keep g dd (by decide) σ (σ 114) hA.co, fun v σ1 ⟨e1, e2, e3, e4, e5⟩ => ?_⟩
  have s114 : σ1 114 = σ 114 := e4 114 (by omega) (by omega) (by omega)
  have s113 : σ1 113 = σ 113 := e4 113 (by omega) (by omega) (by omega)
  refine (p_M_keep g dd (by decide) σ1 (σ 114) s114).pr (fun w σ2 ⟨m1, m2, m3, m4, m5⟩ => ⟨m1.trans e1.symm, ?_⟩)
  have k0 : ∀ j, j ≠ 12 → σ2 0 j = σ 0 j := fun j x => by rw [m4 0 (by decide) (by decide)]; exact e5 j x
  have kk : ∀ c, (c < 43 ∨ 58 ≤ c) → c ≠ 27 → c ≠ 0 → c ≠ 113 → c ≠ 115 → σ2 c = σ c := fun c x y z u w => (m4 c u w).trans (e4 c x y z)
  have k113 : ∀ j, j ≠ 3 → σ2 113 j = σ 113 j := fun j x => by rw [m5 j x, s113]
  have h114 : σ2 114 = σ 114 := (m4 114 (by decide) (by decide)).trans s114
  have hL : LRel (σ 114) σ2 := hA.2.2.1.fr hA.1.1.2.1.2 (fun c x y => kk c (by omega) (by omega) (by omega) (by omega) (by omega))
  refine ⟨⟨by rw [h114]; exact hA.1, by rw [h114]; exact hA.2.1.frame (fun c x y _ => kk c (by omega) (by omega) (by omega) (by omega) (by omega)), by rw [h114]; exact hL, by rw [k113 13 (by decide)]; exact hA.2.2.2⟩,
    hB.fr (kk _ (by omega) (by omega) (by omega) (by omega) (by omega)) (kk _ (by omega) (by omega) (by omega) (by omega) (by omega)) (kk _ (by omega) (by omega) (by omega) (by omega) (by omega)) (fun c x y => kk c (by omega) (by omega) (by omega) (by omega) (by omega)),
    hC.fr (kk _ (by omega) (by omega) (by omega) (by omega) (by omega)) (kk _ (by omega) (by omega) (by omega) (by omega) (by omega)) (kk _ (by omega) (by omega) (by omega) (by omega) (by omega)) (kk _ (by omega) (by omega) (by omega) (by omega) (by omega)) (kk _ (by omega) (by omega) (by omega) (by omega) (by omega)) (fun c x y => kk c (by omega) (by omega) (by omega) (by omega) (by omega)),
    hD.fr (by rw [kk 73 (by omega) (by omega) (by omega) (by omega) (by omega)]) (kk _ (by omega) (by omega) (by omega) (by omega) (by omega)) (k113 18 (by decide)) (kk _ (by omega) (by omega) (by omega) (by omega) (by omega)),
    hE.fr (k0 11 (by decide)) (k113 33 (by decide)) (kk _ (by omega) (by omega) (by omega) (by omega) (by omega)) (kk _ (by omega) (by omega) (by omega) (by omega) (by omega)), ?_, Or.inr m3, fun _ => ?_⟩
  · rw [m3, m4 0 (by decide) (by decide)]
    exact e3
  · rw [m2, h114]
    have hcw : CW 43 (σ 114) σ2 := ⟨e2.frame (fun c x y _ => m4 c (by omega) (by omega)), hL, hA.1.1, hA.1.2.1, hA.1.2.2.1⟩
    refine ⟨hcw.mix, hA.1.mix.2.2.2, ?_⟩
    rw [mix_lt (by decide)]
    exact Nat.le_refl _
theorem q_back {g : CX} {σ : Sg} (h : LI σ) : Pair g N_back M_back [] σ := by
  obtain ⟨hA, hB, hC, hD, hE, hF⟩ := h
  have hI : σ 113 3 = 1 → CW 43 (mixR (σ 115) (σ 114)) σ := fun z => (hF.2.2 z).1.mix
  refine ⟨_, p_N_back g dd (by decide) σ (σ 113 3) hF.1 hF.2.1 (mixR (σ 115) (σ 114)) (fun z => (hI z).1), fun v σ1 ⟨e1, e2, e3⟩ => ?_⟩
  by_cases c : σ 113 3 = 0
  · have e4 := e2 c
    subst e4
    refine (p_M_back g dd (by decide) σ1 (σ1 113 3) rfl).pr (fun w σ2 ⟨m1, m2, m3⟩ => ?_)
    rw [if_pos c] at e1 m1
    refine ⟨m1.trans e1.symm, ?_⟩
    rw [m2 c]
    exact ⟨hA, hB, hC, hD, hE, hF⟩
  · have c1 : σ 113 3 = 1 := hF.2.1.resolve_left c
    obtain ⟨e4, e5⟩ := e3 c
    have s113 : σ1 113 = σ 113 := e5 113 (by omega) (by omega)
    have s114 : σ1 114 = σ 114 := e5 114 (by omega) (by omega)
    have s115 : σ1 115 = σ 115 := e5 115 (by omega) (by omega)
    refine (p_M_back g dd (by decide) σ1 (σ 113 3) (by rw [s113])).pr (fun w σ2 ⟨m1, m2, m3⟩ => ?_)
    rw [if_neg c] at e1 m1
    rw [s115, s114] at m1
    obtain ⟨m4, m5⟩ := m3 c
    rw [s115, s114] at m4
    have kk : ∀ k, (k < 28 ∨ 43 ≤ k) → k ≠ 27 → k ≠ 114 → σ2 k = σ k := fun k x y z => (m5 k z).trans (e5 k x y)
    obtain ⟨g1, g2, g3, g4, g5⟩ := hI c1
    have g6 := (hF.2.2 c1).2.1
    refine ⟨m1.trans e1.symm, ⟨?_, ?_, ?_, ?_⟩, hB.fr (kk _ (by omega) (by omega) (by omega)) (kk _ (by omega) (by omega) (by omega)) (kk _ (by omega) (by omega) (by omega)) (fun k x y => kk k (by omega) (by omega) (by omega)),
      hC.fr (kk _ (by omega) (by omega) (by omega)) (kk _ (by omega) (by omega) (by omega)) (kk _ (by omega) (by omega) (by omega)) (kk _ (by omega) (by omega) (by omega)) (kk _ (by omega) (by omega) (by omega)) (fun k x y => kk k (by omega) (by omega) (by omega)),
      hD.fr (by rw [kk 73 (by omega) (by omega) (by omega)]) (kk _ (by omega) (by omega) (by omega)) (by rw [kk 113 (by omega) (by omega) (by omega)]) (kk _ (by omega) (by omega) (by omega)),
      hE.fr (by rw [kk 0 (by omega) (by omega) (by omega)]) (by rw [kk 113 (by omega) (by omega) (by omega)]) (kk _ (by omega) (by omega) (by omega)) (kk _ (by omega) (by omega) (by omega)),
      by rw [kk 0 (by omega) (by omega) (by omega), kk 113 (by omega) (by omega) (by omega)]; exact hF.1, by rw [kk 113 (by omega) (by omega) (by omega)]; exact hF.2.1, fun _ => ?_⟩
    · rw [m4]
      exact ⟨g3, g4, g5, g6.of (fun p hp => mix_lt (by unfold ixP; omega))⟩
    · rw [m4]
      exact e4.frame (fun k x y _ => m5 k (by omega))
    · rw [m4]
      exact g2.fr g3.2.1.2 (fun k x y => kk k (by omega) (by omega) (by omega))
    · rw [kk 113 (by omega) (by omega) (by omega)]
      exact hA.2.2.2
    · rw [m4, kk 115 (by omega) (by omega) (by omega)]
      refine ⟨(hF.2.2 c1).1.fr (fun k x y _ => kk k (by omega) (by omega) (by omega)) (fun k x y => kk k (by omega) (by omega) (by omega)), g6, ?_⟩
      rw [mix_lt (by decide)]
      exact Nat.le_refl _
theorem q_check {g : CX} {σ : Sg} (h : LI σ) (n : Int32) : Pair g N_check M_check [.int n] σ := by
  obtain ⟨hA, hB, hC, hD, hE, hF⟩ := h
  obtain ⟨T, hT, t1, t2, t3⟩ := hE
  have hI : σ 113 3 = 1 → CW 43 (mixR (σ 115) (σ 114)) σ := fun z => (hF.2.2 z).1.mix
  refine ⟨_, p_N_check g dd (by decide) σ T t1 hT (σ 133) t3 (σ 113 3) hF.1 hF.2.1 (mixR (σ 115) (σ 114)) hI n, fun v σ1 ⟨e1, e2, e3, e4⟩ => ?_⟩
  have s : ∀ k, 73 ≤ k → σ1 k = σ k := fun k x => e3 k (by omega) (by omega) (by omega)
  refine (p_M_check g dd (by decide) σ1 (σ 114) (s _ (by decide)) (by rw [s 113 (by decide)]; exact hA.2.2.2) (σ 115) (s _ (by decide)) T (by rw [s 113 (by decide)]; exact t2) hT (σ 133) (s _ (by decide)) (σ 113 3) (by rw [s 113 (by decide)]) hF.2.1 (fun z => ⟨(hF.2.2 z).1.2.2.1, (hF.2.2 z).1.2.2.2.1, (hF.2.2 z).1.2.2.2.2⟩) n).pr (fun w σ2 ⟨m1, m2, m3, m4, m5⟩ => ⟨m1.trans e1.symm, ?_⟩)
  have kk : ∀ k, k ≠ 0 → (k < 58 ∨ 73 ≤ k) → k ≠ 27 → k ≠ 113 → k ≠ 114 → k ≠ 116 → k ≠ 125 → k ≠ 126 → k ≠ 127 → k ≠ 128 → k ≠ 130 → k ≠ 131 → k ≠ 132 → k ≠ 134 → σ2 k = σ k := fun k c1 c2 c3 c4 c5 c6 c7 c8 c9 c10 c11 c12 c13 c14 => (m5 k c4 c5 c6 c7 c8 c9 c10 c11 c12 c13 c14).trans (e3 k c1 c2 c3)
  have k0 : ∀ j, j ≠ 11 → σ2 0 j = σ 0 j := fun j x => by rw [m5 0 (by decide) (by decide) (by decide) (by decide) (by decide) (by decide) (by decide) (by decide) (by decide) (by decide) (by decide)]; exact e4 j x
  have k113 : ∀ j, j ≠ 33 → σ2 113 j = σ 113 j := fun j x => by rw [m4 j x, s 113 (by decide)]
  have lo : ∀ k, 1 ≤ k → k < 58 → k ≠ 27 → σ2 k = σ k := fun k x y z => kk k (by omega) (by omega) (by omega) (by omega) (by omega) (by omega) (by omega) (by omega) (by omega) (by omega) (by omega) (by omega) (by omega) (by omega)
  have mi : ∀ k, 73 ≤ k → k < 113 → σ2 k = σ k := fun k x y => kk k (by omega) (by omega) (by omega) (by omega) (by omega) (by omega) (by omega) (by omega) (by omega) (by omega) (by omega) (by omega) (by omega) (by omega)
  have hi : ∀ k, (k = 115 ∨ 117 ≤ k ∧ k < 125 ∨ k = 129 ∨ k = 133) → σ2 k = σ k := fun k x => kk k (by omega) (by omega) (by omega) (by omega) (by omega) (by omega) (by omega) (by omega) (by omega) (by omega) (by omega) (by omega) (by omega) (by omega)
  refine ⟨⟨by rw [m2]; exact hA.1, by rw [m2]; exact hA.2.1.frame (fun c x y _ => lo c (by omega) (by omega) (by omega)), by rw [m2]; exact hA.2.2.1.fr hA.1.1.2.1.2 (fun c x y => lo c (by omega) (by omega) (by omega)), by rw [k113 13 (by decide)]; exact hA.2.2.2⟩,
    hB.fr (hi _ (by omega)) (hi _ (by omega)) (hi _ (by omega)) (fun c x y => mi c (by omega) (by omega)), hC.fr (hi _ (by omega)) (hi _ (by omega)) (hi _ (by omega)) (hi _ (by omega)) (hi _ (by omega)) (fun c x y => mi c (by omega) (by omega)),
    hD.fr (by rw [mi 73 (by decide) (by decide)]) (mi 74 (by decide) (by decide)) (k113 18 (by decide)) (hi _ (by omega)), ⟨0, by decide, ?_, m3, by rw [mi 78 (by decide) (by decide), hi 133 (by omega)]; exact t3⟩,
    hF.fr (k0 12 (by decide)) (k113 3 (by decide)) (hi _ (by omega)) (by rw [m2]; exact Nat.le_refl _) (fun c x y => lo c (by omega) (by omega) (by omega)) (fun c x y => lo c (by omega) (by omega) (by omega))⟩
  rw [m5 0 (by decide) (by decide) (by decide) (by decide) (by decide) (by decide) (by decide) (by decide) (by decide) (by decide) (by decide)]
  exact e2
theorem tx_1 {S : Rw} {B : Nat → Nat} {n : Nat} (hI : Inv S) : tn (S 1) ≤ tn (txR S B n 1) := by
  have hp : putT S (laT S) (prOut B n) 1 = S 1 := by
    unfold putT
    have := laT_ge hI
    rw [if_neg (by unfold ixT at this; omega)]
  unfold txR
  split
  · unfold hdT
    rw [pk_us, tn_nI (by omega)]
    omega
  · rw [hp]
    exact Nat.le_refl _
theorem q_text {g : CX} {σ : Sg} (h : LI σ) : Pair g N_text M_text [] σ := by
  obtain ⟨hA, hB, hC, hD, hE, hF⟩ := h
  obtain ⟨B, n, hn, hb, d1, d2⟩ := hD
  refine ⟨_, p_N_text g dd (by decide) σ (σ 114) hA.co B n hn hb d1, fun v σ1 ⟨e1, e2, e3, e4, o1, o2, o3⟩ => ?_⟩
  have s : ∀ k, 76 ≤ k → σ1 k = σ k := fun k x => o1 k (by omega) (by omega) (by omega) (by omega) (by omega)
  refine (p_M_text g dd (by decide) σ1 B n hn hb ⟨by rw [s 113 (by decide)]; exact d2.1, by rw [s 129 (by decide)]; exact d2.2⟩ (σ 114) (s _ (by decide)) hA.1.1).pr (fun w σ2 ⟨m1, m2, m3, m4, m5⟩ => ⟨m1.trans e1.symm, ?_⟩)
  have hg := hA.1.tx hn hb
  have kk : ∀ q, q ≠ 28 → q ≠ 42 → q ≠ 73 → q ≠ 75 → (q < 10 ∨ 27 ≤ q) → q ≠ 113 → q ≠ 114 → σ2 q = σ q := fun q c1 c2 c3 c4 c5 c6 c7 => (m5 q c6 c7).trans (o1 q c1 c2 c3 c4 c5)
  have k113 : ∀ j, (j < 18 ∨ 29 ≤ j) → σ2 113 j = σ 113 j := fun j x => by rw [m4 j x, s 113 (by decide)]
  have hi : ∀ k, 76 ≤ k → k ≠ 113 → k ≠ 114 → σ2 k = σ k := fun k x y z => kk k (by omega) (by omega) (by omega) (by omega) (by omega) y z
  refine ⟨⟨by rw [m2]; exact hg, by rw [m2]; exact e2.frame (fun c x y _ => m5 c (by omega) (by omega)), by rw [m2]; exact e3.fr hg.1.2.1.2 (fun c x y => m5 c (by omega) (by omega)), by rw [k113 13 (by omega)]; exact hA.2.2.2⟩,
    hB.fr (hi _ (by decide) (by decide) (by decide)) (hi _ (by decide) (by decide) (by decide)) (hi _ (by decide) (by decide) (by decide)) (fun c x y => hi c (by omega) (by omega) (by omega)),
    hC.fr (hi _ (by decide) (by decide) (by decide)) (hi _ (by decide) (by decide) (by decide)) (hi _ (by decide) (by decide) (by decide)) (hi _ (by decide) (by decide) (by decide)) (hi _ (by decide) (by decide) (by decide)) (fun c x y => hi c (by omega) (by omega) (by omega)),
    ⟨B, 0, by decide, fun i hi => absurd hi (Nat.not_lt_zero _), ⟨by rw [m5 73 (by decide) (by decide)]; exact e4, fun i hi => absurd hi (Nat.not_lt_zero _)⟩, ⟨m3, fun i hi => absurd hi (Nat.not_lt_zero _)⟩⟩,
    hE.fr (by rw [kk 0 (by omega) (by omega) (by omega) (by omega) (by omega) (by omega) (by omega)]) (k113 33 (by omega)) (hi _ (by decide) (by decide) (by decide)) (hi _ (by decide) (by decide) (by decide)),
    by rw [kk 0 (by omega) (by omega) (by omega) (by omega) (by omega) (by omega) (by omega), k113 3 (by omega)]; exact hF.1, by rw [k113 3 (by omega)]; exact hF.2.1, fun z => ?_⟩
  rw [k113 3 (by omega)] at z
  obtain ⟨c1, c2, c3⟩ := hF.2.2 z
  rw [hi 115 (by decide) (by decide) (by decide), m2]
  refine ⟨⟨c1.1.frame (fun c x y _ => kk c (by omega) (by omega) (by omega) (by omega) (by omega) (by omega) (by omega)), fun t ht => ?_, c1.2.2⟩, c2, Nat.le_trans c3 (tx_1 hA.1.1)⟩
  have h14 : tn (σ 115 1) ≤ 14 := c1.2.2.1.2.1.2
  obtain ⟨l1, l2, l3, l4⟩ := c1.2.1 t ht
  refine ⟨?_, ?_, ?_, fun k hk => ?_⟩
  · rw [m5 24 (by decide) (by decide), o3 24 t (by decide) (by decide) (by omega)]; exact l1
  · rw [m5 25 (by decide) (by decide), o3 25 t (by decide) (by decide) (by omega)]; exact l2
  · rw [m5 26 (by decide) (by decide), o3 26 t (by decide) (by decide) (by omega)]; exact l3
  · rw [m5 (10 + t) (by omega) (by omega), o2 (10 + t) (by omega) (by omega) (by omega)]; exact l4 k hk
theorem nI_inj8 {a b : Nat} (ha : a < 8) (hb : b < 8) (h : nI a = nI b) : a = b := (neq (by omega) (by omega)).mp h
theorem q_lay {g : CX} {σ : Sg} (h : LI σ) (a b c : Int32) : Pair g N_lay M_lay [.int a, .int b, .int c] σ := by
  obtain ⟨hA, hB, hC, hD, hE, hF⟩ := h
  refine ⟨_, p_N_lay g dd (by decide) σ (σ 114) hA.co _ _ _ hB.1 _ _ _ _ _ hC a b c, fun v σ1 ⟨e1, e2, e3⟩ => ?_⟩
  cases hf : (fLay (σ 114) (σ 117) (σ 120) a b c).2 with
  | false =>
    have e4 := e2 hf
    subst e4
    refine (p_M_lay g dd (by decide) σ1 (σ1 114) (hA.mo rfl rfl) _ _ _ rfl rfl rfl hB.to _ rfl a b c).pr (fun w σ2 ⟨m1, m2, m3⟩ => ⟨m1.trans e1.symm, ?_⟩)
    rw [m2 hf]
    exact ⟨hA, hB, hC, hD, hE, hF⟩
  | true =>
    obtain ⟨s, hs, rfl, hb3, x1, x2, x3, x4, x5, x6⟩ := e3 hf
    have sm : ∀ k, 113 ≤ k → σ1 k = σ k := fun k x => x6 k (by omega)
    refine (p_M_lay g dd (by decide) σ1 (σ 114) (hA.mo (sm _ (by decide)) (by rw [sm 113 (by decide)])) _ _ _ (sm _ (by decide)) (sm _ (by decide)) (sm _ (by decide)) hB.to _ (sm _ (by decide)) (nI s) b c).pr (fun w σ2 ⟨m1, m2, m3⟩ => ⟨m1.trans e1.symm, ?_⟩)
    obtain ⟨s', hs', es, -, y1, y2, y3, y4, y5, y6, y7⟩ := m3 hf
    have : s = s' := nI_inj8 (by omega) (by omega) es
    subst this
    rw [sm 120 (by decide)] at y1
    rw [sm 121 (by decide), sm 122 (by decide), sm 123 (by decide)] at y5
    rw [sm 124 (by decide)] at y6
    have kk : ∀ k, (k < 93 + 4 * s ∨ 93 + 4 * s + 4 ≤ k) → k ≠ 120 → k ≠ 121 → k ≠ 122 → k ≠ 123 → k ≠ 124 → σ2 k = σ k := fun k c1 c2 c3 c4 c5 c6 => (y7 k c2 c3 c4 c5 c6).trans (x6 k c1)
    have k1 : ∀ k, 93 ≤ k → k < 113 → σ2 k = σ1 k := fun k c1 c2 => y7 k (by omega) (by omega) (by omega) (by omega) (by omega)
    have lo : ∀ k, k < 93 → σ2 k = σ k := fun k x => kk k (by omega) (by omega) (by omega) (by omega) (by omega) (by omega)
    have hi : ∀ k, 113 ≤ k → (k < 120 ∨ 125 ≤ k) → σ2 k = σ k := fun k x y => kk k (by omega) (by omega) (by omega) (by omega) (by omega) (by omega)
    have h114 := hi 114 (by decide) (by decide)
    have h113 := hi 113 (by decide) (by decide)
    refine ⟨⟨by rw [h114]; exact hA.1, by rw [h114]; exact hA.2.1.frame (fun c x y _ => lo c (by omega)), by rw [h114]; exact hA.2.2.1.fr hA.1.1.2.1.2 (fun c x y => lo c (by omega)), by rw [h113]; exact hA.2.2.2⟩,
      hB.fr (hi _ (by decide) (by decide)) (hi _ (by decide) (by decide)) (hi _ (by decide) (by decide)) (fun c x y => lo c (by omega)), ?_, hD.fr (by rw [lo 73 (by decide)]) (lo _ (by decide)) (by rw [h113]) (hi _ (by decide) (by decide)), hE.fr (by rw [lo 0 (by decide)]) (by rw [h113]) (lo _ (by decide)) (hi _ (by decide) (by decide)),
      hF.fr (by rw [lo 0 (by decide)]) (by rw [h113]) (hi _ (by decide) (by decide)) (by rw [h114]; exact Nat.le_refl _) (fun c x y => lo c (by omega)) (fun c x y => lo c (by omega))⟩
    intro z hz
    by_cases q : z = s
    · subst q
      have q0 : σ2 (93 + 4 * z) = σ1 (93 + 4 * z) := k1 _ (by omega) (by omega)
      have q1 : σ2 (93 + 4 * z + 1) = σ1 (93 + 4 * z + 1) := k1 _ (by omega) (by omega)
      have q2 : σ2 (93 + 4 * z + 1 + 1) = σ1 (93 + 4 * z + 1 + 1) := k1 _ (by omega) (by omega)
      have q3 : σ2 (93 + 4 * z + 1 + 2) = σ1 (93 + 4 * z + 1 + 2) := k1 _ (by omega) (by omega)
      have hth : σ2 120 z = b := by rw [y1, upd_at]
      have hrow : b = nI 2 → In (σ2 123 z) 24 ∧ ∃ so si, si = σ2 123 z ∧ SHC (93 + 4 * z + 1) so si (shV (σ2 124) z) σ2 := fun z2 => by
        obtain ⟨k', hk', rfl, w1⟩ := x3 z2
        obtain ⟨k2, hk2, ek, w2, w3⟩ := y3 z2
        have : k' = k2 := nI_inj8 (by omega) (by omega) ek
        subst this
        rw [w2]
        exact ⟨(hB.to k' hk').2, _, _, rfl, w1.fr q1 q2 q3 (fun i hi => w3 i hi)⟩
      refine ⟨by rw [q0, hth]; exact x1, by rw [hth]; exact hb3, fun z1 => ?_, fun z2 => ?_, fun z3 => ?_, ?_⟩
      · rw [hth] at z1
        obtain ⟨p, hp, rfl, w1, w2⟩ := x2 z1
        obtain ⟨p2, hp2, ep, w3, w4⟩ := y2 z1
        have : p = p2 := nI_inj8 hp hp2 ep
        subst this
        have hkd := hA.1.1.kind hp
        refine ⟨tn (σ 114 (ixP p 0)), by omega, by rw [w3]; exact hkd.1, by rw [q0]; exact w1, by rw [w4, q0, w2]⟩
      · rw [hth] at z2
        obtain ⟨r1, so, si, r2, r3⟩ := hrow z2
        rw [r2] at r3
        exact ⟨r1, so, r3⟩
      · rw [hth] at z3
        rw [q0, x4 z3, y4 z3]
      · by_cases z2 : b = nI 2
        · obtain ⟨r1, so, si, r2, r3⟩ := hrow z2
          exact ⟨so, si, _, r3⟩
        · obtain ⟨so, si, vv, r⟩ := (hC z hz).2.2.2.2.2
          exact ⟨so, si, vv, r.fr (q1.trans (x5 z2 _ (by omega))) (q2.trans (x5 z2 _ (by omega))) (q3.trans (x5 z2 _ (by omega))) (fun _ _ => rfl)⟩
    · have hth : σ2 120 z = σ 120 z := by rw [y1, upd_nk _ _ q]
      obtain ⟨w1, w2, w3⟩ := y5 z q
      rw [hth, w1, w2, w3]
      exact (hC z hz).fr (fun k x y => kk k (by omega) (by omega) (by omega) (by omega) (by omega) (by omega)) (fun i hi => y6 _ (by omega))
