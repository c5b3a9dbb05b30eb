/-! sheets, the tape, the row of answers, call by call -/
def GE : ShE → Prop
  | none => True
  | some (k, so, si, w) => k < 4 ∧ (so = -1 ∨ so = 0 ∨ so = 1) ∧ In si 24 ∧ VB w
theorem upd_at (f : Nat → Int32) (k : Nat) (x : Int32) : upd f k x k = x := by simp [upd]
theorem upd_nk (f : Nat → Int32) {k j : Nat} (x : Int32) (h : j ≠ k) : upd f k x j = f j := by simp [upd, h]
theorem li_sheet {e : Int32 × ShE} {σ σ1 σ2 : Sg} {v w : Int32} (h : LI σ) (hg : GE e.2) (h1 : RS e σ v σ1) (h2 : MS e σ1 w σ2) : w = v ∧ LI σ2 := by
  obtain ⟨e1, e2⟩ := e
  cases e2 with
  | none =>
    obtain ⟨a1, a2⟩ := h1
    obtain ⟨b1, b2⟩ := h2
    have a2' : σ1 = σ := a2
    have b2' : σ2 = σ1 := b2
    subst a2'
    subst b2'
    exact ⟨b1.trans a1.symm, h⟩
  | some q =>
    obtain ⟨k, so, si, nw⟩ := q
    obtain ⟨a1, a2, a3⟩ := h1
    obtain ⟨b1, b2, b3, b4, b5, b6⟩ := h2
    obtain ⟨g1, g2, g3, g4⟩ := hg
    obtain ⟨hA, hB, hC, hD, hE, hF⟩ := h
    have kk : ∀ c, (c < 81 ∨ 93 ≤ c) → c ≠ 117 → c ≠ 118 → c ≠ 119 → c ≠ 132 → σ2 c = σ c := fun c x y1 y2 y3 y4 => (b6 c y1 y2 y3 y4).trans (a3 c (by omega) (by omega) (by omega))
    have ss : ∀ c, 81 ≤ c → c < 93 → σ2 c = σ1 c := fun c x y => b6 c (by omega) (by omega) (by omega) (by omega)
    have e7 : σ1 117 = σ 117 := a3 117 (by omega) (by omega) (by omega)
    have e8 : σ1 118 = σ 118 := a3 118 (by omega) (by omega) (by omega)
    have e9 : σ1 119 = σ 119 := a3 119 (by omega) (by omega) (by omega)
    rw [e7] at b2
    rw [e8] at b3
    rw [e9] at b5
    have hrow : ∀ k', k' < 4 → k' ≠ k → ∀ i, i < 24 → shV (σ2 119) k' i = shV (σ 119) k' i := fun k' x y i hi => b5 (24 * k' + i) (by omega)
    have h114 : σ2 114 = σ 114 := kk 114 (by omega) (by omega) (by omega) (by omega) (by omega)
    have h113 : σ2 113 = σ 113 := kk 113 (by omega) (by omega) (by omega) (by omega) (by omega)
    have h0 : σ2 0 = σ 0 := kk 0 (by omega) (by omega) (by omega) (by omega) (by omega)
    refine ⟨b1.trans a1.symm, ⟨by rw [h114]; exact hA.1, by rw [h114]; exact hA.2.1.frame (fun c x y _ => kk c (by omega) (by omega) (by omega) (by omega) (by omega)), by rw [h114]; exact hA.2.2.1.fr hA.1.1.2.1.2 (fun c x y => kk c (by omega) (by omega) (by omega) (by omega) (by omega)), by rw [h113]; exact hA.2.2.2⟩, ⟨fun k' hk' => ?_, fun k' hk' => ?_⟩,
      hC.fr (kk 120 (by omega) (by omega) (by omega) (by omega) (by omega)) (kk 121 (by omega) (by omega) (by omega) (by omega) (by omega)) (kk 122 (by omega) (by omega) (by omega) (by omega) (by omega)) (kk 123 (by omega) (by omega) (by omega) (by omega) (by omega)) (kk 124 (by omega) (by omega) (by omega) (by omega) (by omega)) (fun c x y => kk c (by omega) (by omega) (by omega) (by omega) (by omega)),
      hD.fr (by rw [kk 73 (by omega) (by omega) (by omega) (by omega) (by omega)]) (kk 74 (by omega) (by omega) (by omega) (by omega) (by omega)) (by rw [h113]) (kk 129 (by omega) (by omega) (by omega) (by omega) (by omega)),
      hE.fr (by rw [h0]) (by rw [h113]) (kk 78 (by omega) (by omega) (by omega) (by omega) (by omega)) (kk 133 (by omega) (by omega) (by omega) (by omega) (by omega)),
      hF.fr (by rw [h0]) (by rw [h113]) (kk 115 (by omega) (by omega) (by omega) (by omega) (by omega)) (by rw [h114]; exact Nat.le_refl _) (fun c x y => kk c (by omega) (by omega) (by omega) (by omega) (by omega)) (fun c x y => kk c (by omega) (by omega) (by omega) (by omega) (by omega))⟩
    · rw [b2, b3]
      by_cases q : k' = k
      · subst q
        rw [upd_at, upd_at]
        exact ⟨a2.fr (ss _ (by omega) (by omega)) (ss _ (by omega) (by omega)) (ss _ (by omega) (by omega)) (fun i hi => b4 i hi), g2, g3⟩
      · rw [upd_nk _ _ q, upd_nk _ _ q]
        refine ⟨(hB.1 k' hk').1.fr ?_ ?_ ?_ (hrow k' hk' q), (hB.1 k' hk').2⟩
        · exact (ss _ (by omega) (by omega)).trans (a3 _ (by omega) (by omega) (by omega))
        · exact (ss _ (by omega) (by omega)).trans (a3 _ (by omega) (by omega) (by omega))
        · exact (ss _ (by omega) (by omega)).trans (a3 _ (by omega) (by omega) (by omega))
    · by_cases q : k' = k
      · subst q
        exact g4.fr (fun i hi => b4 i hi)
      · exact (hB.2 k' hk').fr (hrow k' hk' q)
theorem RS.far {e : Int32 × ShE} {σ σ1 : Sg} {v : Int32} (hg : GE e.2) (h1 : RS e σ v σ1) {c : Nat} (hc : 93 ≤ c) : σ1 c = σ c := by
  obtain ⟨e1, e2⟩ := e
  cases e2 with
  | none =>
    have a2 : σ1 = σ := h1.2
    rw [a2]
  | some q =>
    obtain ⟨k, so, si, nw⟩ := q
    obtain ⟨a1, a2, a3⟩ := h1
    have g1 : k < 4 := hg.1
    exact a3 c (by omega) (by omega) (by omega)
theorem ge_sheet (k sort n : Int32) : GE (fSheet k sort n).2 := by
  unfold fSheet
  by_cases c : (upB k (nI 3) && inB sort (-1) (nI 1)) = true
  · rw [if_pos c]
    simp only [Bool.and_eq_true] at c
    obtain ⟨p, hp, tp, rfl⟩ := upB_ex (by decide) c.1
    have hs := sort3 c.2
    have hz : VB (fun _ => (0 : Int32)) := fun i _ => Or.inr (show -99999 ≤ (0 : Int32).toInt ∧ (0 : Int32).toInt ≤ 99999 by decide +kernel)
    by_cases c2 : sort = -1
    · rw [if_pos c2]
      exact ⟨by rw [tp]; omega, Or.inl rfl, ⟨by decide +kernel, by decide +kernel⟩, hz⟩
    · rw [if_neg c2]
      by_cases c3 : nI 24 < n
      · rw [if_pos c3]
        trivial
      · rw [if_neg c3]
        by_cases c4 : n < 0
        · rw [if_pos c4]
          trivial
        · rw [if_neg c4]
          exact ⟨by rw [tp]; omega, hs, (In_iff (by decide)).mpr ⟨Int32.not_lt.mp c4, Int32.not_lt.mp c3⟩, hz⟩
  · rw [if_neg c]
    trivial
theorem VB.put {v : Nat → Int32} (h : VB v) {j : Nat} {x : Int32} (hx : x = NONEi ∨ (-99999 ≤ x.toInt ∧ x.toInt ≤ 99999)) : VB (upd v j x) := fun i hi => by
  by_cases q : i = j
  · rw [q, upd_at]
    exact hx
  · rw [upd_nk _ _ q]
    exact h i hi
theorem sh16 (x : Int32) : -99999 ≤ x.toInt16.toInt32.toInt ∧ x.toInt16.toInt32.toInt ≤ 99999 := by
  rw [Int16.toInt_toInt32]
  have h1 := Int16.le_toInt x.toInt16
  have h2 := Int16.toInt_lt x.toInt16
  omega
theorem ge_mark {tS tZ tN : Nat → Int32} (hT : TO tS tZ) (hV : ∀ k, k < 4 → VB (shV tN k)) (k p x : Int32) : GE (fMark tS tZ tN k p x).2 := by
  unfold fMark
  by_cases c : upB k (nI 3) = true
  · rw [if_pos c]
    obtain ⟨j, hj, tj, rfl⟩ := upB_ex (by decide) c
    rw [tj]
    obtain ⟨t1, t2⟩ := hT j (by omega)
    have hv := hV j (by omega)
    by_cases c1 : tS j = -1
    · rw [if_pos c1]; trivial
    · rw [if_neg c1]
      by_cases c2 : isO (tZ j) p = true
      · rw [if_pos c2]
        by_cases c3 : tS j = 0
        · rw [if_pos c3]
          by_cases c4 : x = NONEi
          · rw [if_pos c4]; trivial
          · rw [if_neg c4]
            exact ⟨by omega, t1, t2, hv.put (Or.inr (sh16 x))⟩
        · rw [if_neg c3]
          by_cases c4 : x = NONEi
          · rw [if_pos c4]
            exact ⟨by omega, t1, t2, hv.put (Or.inl c4)⟩
          · rw [if_neg c4]
            by_cases c5 : x < -99999
            · rw [if_pos c5]; trivial
            · rw [if_neg c5]
              by_cases c6 : (99999 : Int32) < x
              · rw [if_pos c6]; trivial
              · rw [if_neg c6]
                refine ⟨by omega, t1, t2, hv.put (Or.inr ?_)⟩
                rw [Int32.lt_iff_toInt_lt] at c5 c6
                have e1 : (-99999 : Int32).toInt = -99999 := by decide +kernel
                have e2 : (99999 : Int32).toInt = 99999 := by decide +kernel
                omega
      · rw [if_neg c2]; trivial
  · rw [if_neg c]; trivial
theorem ge_copy {tS tZ tN : Nat → Int32} (hT : TO tS tZ) (hV : ∀ k, k < 4 → VB (shV tN k)) (k p k2 a m : Int32) : GE (fCopy tS tZ tN k p k2 a m).2 := by
  unfold fCopy
  by_cases c : (upB k (nI 3) && upB k2 (nI 3)) = true
  · rw [if_pos c]
    simp only [Bool.and_eq_true] at c
    obtain ⟨j, hj, tj, rfl⟩ := upB_ex (by decide) c.1
    obtain ⟨j2, hj2, tj2, rfl⟩ := upB_ex (by decide) c.2
    rw [tj, tj2]
    obtain ⟨t1, t2⟩ := hT j (by omega)
    obtain ⟨u1, u2⟩ := hT j2 (by omega)
    by_cases c1 : tS j = -1
    · rw [if_pos c1]; trivial
    · rw [if_neg c1]
      by_cases c2 : tS j2 = -1
      · rw [if_pos c2]; trivial
      · rw [if_neg c2]
        by_cases c3 : tS j = tS j2
        · rw [if_pos c3]
          by_cases c4 : (hpB (tZ j) p m && hpB (tZ j2) a m) = true
          · rw [if_pos c4]
            simp only [Bool.and_eq_true] at c4
            rw [t2.1, u2.1] at c4
            obtain ⟨x, y, hxy, tx, ty, rfl, rfl⟩ := hpB_ex t2.2 c4.1
            obtain ⟨x2, y2, hxy2, tx2, ty2, rfl, e⟩ := hpB_ex u2.2 c4.2
            refine ⟨by omega, u1, u2, fun i hi => ?_⟩
            rw [tx, tx2, ty]
            unfold va_cpy
            have hle := t2.2
            split
            · rename_i q
              exact hV j (by omega) _ (by omega)
            · exact hV j2 (by omega) i hi
          · rw [if_neg c4]; trivial
        · rw [if_neg c3]; trivial
  · rw [if_neg c]; trivial
theorem pr_sheet {g : CX} {mN mM : MD} {args : List Value} {σ : Sg} (h : LI σ) (e : Int32 × ShE) (hg : GE e.2) (hN : RunM g dd mN (.ref 0 :: args) σ (PR (RS e σ))) (hM : ∀ σ1, σ1 117 = σ 117 → σ1 118 = σ 118 → σ1 119 = σ 119 → RunM g dd mM (.ref 113 :: args) σ1 (PR (MS e σ1))) : Pair g mN mM args σ :=
  ⟨RS e σ, hN, fun v σ1 h1 => (hM σ1 (h1.far hg (by decide)) (h1.far hg (by decide)) (h1.far hg (by decide))).pr (fun w σ2 h2 => li_sheet h hg h1 h2)⟩
theorem q_sheet {g : CX} {σ : Sg} (h : LI σ) (a b c : Int32) : Pair g N_sheet M_sheet [.int a, .int b, .int c] σ := pr_sheet h _ (ge_sheet a b c) (p_N_sheet g dd (by decide) σ a b c) (fun σ1 _ _ _ => p_M_sheet g dd (by decide) σ1 a b c)
theorem q_mark {g : CX} {σ : Sg} (h : LI σ) (a b c : Int32) : Pair g N_mark M_mark [.int a, .int b, .int c] σ := pr_sheet h _ (ge_mark h.2.1.to h.2.1.2 a b c) (p_N_mark g dd (by decide) σ _ _ _ h.2.1.1 a b c) (fun σ1 e1 e2 e3 => p_M_mark g dd (by decide) σ1 _ _ _ e1 e2 e3 h.2.1.to a b c)
theorem q_copy {g : CX} {σ : Sg} (h : LI σ) (a b c x y : Int32) : Pair g N_copy M_copy [.int a, .int b, .int c, .int x, .int y] σ := pr_sheet h _ (ge_copy h.2.1.to h.2.1.2 a b c x y) (p_N_copy g dd (by decide) σ _ _ _ h.2.1.1 a b c x y) (fun σ1 e1 e2 e3 => p_M_copy g dd (by decide) σ1 _ _ _ e1 e2 e3 h.2.1.to a b c x y)
/-- rows that the parts stand on -/
theorem li_fr {σ σ2 : Sg} (h : LI σ) (hd : LD σ2) (he : LE σ2) (k0 : σ2 0 12 = σ 0 12) (k1 : σ2 113 3 = σ 113 3) (k2 : σ2 113 13 = σ 113 13) (hk : ∀ c, c ≠ 0 → c ≠ 113 → c ≠ 73 → c ≠ 74 → c ≠ 78 → c ≠ 129 → c ≠ 133 → c ≠ 75 → σ2 c = σ c) : LI σ2 := by
  obtain ⟨hA, hB, hC, -, -, hF⟩ := h
  have lo : ∀ c, 1 ≤ c → c < 73 → σ2 c = σ c := fun c x y => hk c (by omega) (by omega) (by omega) (by omega) (by omega) (by omega) (by omega) (by omega)
  have mi : ∀ c, 79 ≤ c → c < 113 → σ2 c = σ c := fun c x y => hk c (by omega) (by omega) (by omega) (by omega) (by omega) (by omega) (by omega) (by omega)
  have hi : ∀ c, 114 ≤ c → c < 129 → σ2 c = σ c := fun c x y => hk c (by omega) (by omega) (by omega) (by omega) (by omega) (by omega) (by omega) (by omega)
  have h114 := hi 114 (by decide) (by decide)
  exact ⟨⟨by rw [h114]; exact hA.1, by rw [h114]; exact hA.2.1.frame (fun c x y _ => lo c (by omega) (by omega)), by rw [h114]; exact hA.2.2.1.fr hA.1.1.2.1.2 (fun c x y => lo c (by omega) (by omega)), by rw [k2]; exact hA.2.2.2⟩, hB.fr (hi _ (by decide) (by decide)) (hi _ (by decide) (by decide)) (hi _ (by decide) (by decide)) (fun c x y => mi c (by omega) (by omega)),
    hC.fr (hi _ (by decide) (by decide)) (hi _ (by decide) (by decide)) (hi _ (by decide) (by decide)) (hi _ (by decide) (by decide)) (hi _ (by decide) (by decide)) (fun c x y => mi c (by omega) (by omega)), hd, he, hF.fr k0 k1 (hi _ (by decide) (by decide)) (by rw [h114]; exact Nat.le_refl _) (fun c x y => lo c (by omega) (by omega)) (fun c x y => lo c (by omega) (by omega))⟩
theorem q_feed {g : CX} {σ : Sg} (h : LI σ) (a b c : Int32) : Pair g N_feed M_feed [.int a, .int b, .int c] σ := by
  obtain ⟨B, n, hn, hB, d1, d2⟩ := h.2.2.2.1
  refine ⟨_, p_N_feed g dd (by decide) σ n d1.1 hn a b c, fun v σ1 ⟨e1, e2, e3⟩ => ?_⟩
  by_cases c0 : n ≤ 84
  · obtain ⟨f1, f2, f3, f4, f5⟩ := e2 c0
    refine (p_M_feed g dd (by decide) σ1 n (by rw [f5 113 (by decide) (by decide)]; exact d2.1) hn a b c).pr (fun w σ2 ⟨m1, m2, m3⟩ => ⟨m1.trans e1.symm, ?_⟩)
    obtain ⟨g1, g2, g3, g4, g5⟩ := m2 c0
    have hfd : ∀ i, fdB a b c i = nI (tn (fdB a b c i)) ∧ tn (fdB a b c i) ≤ 255 := fun i => byB_In _ _
    refine li_fr h ⟨fun i => if i < n then B i else tn (fdB a b c (i - n)), n + 12, by omega, fun i hi => ?_, ⟨by rw [g5 73 (by decide) (by decide)]; exact f1, fun i hi => ?_⟩, ⟨g1, fun i hi => ?_⟩⟩ (h.2.2.2.2.1.fr ?_ ?_ ?_ ?_) ?_ ?_ ?_ (fun k x0 x1 x2 x3 x4 x5 x6 x7 => (g5 k x1 x5).trans (f5 k x2 x3))
    · show (if i < n then B i else tn (fdB a b c (i - n))) < 256
      by_cases q : i < n
      · rw [if_pos q]; exact hB i q
      · rw [if_neg q]
        have := (hfd (i - n)).2
        omega
    · rw [g5 74 (by decide) (by decide)]
      show σ1 74 i = nI (if i < n then B i else tn (fdB a b c (i - n)))
      by_cases q : i < n
      · rw [if_pos q, f3 i q]; exact d1.2 i q
      · rw [if_neg q, ← (hfd (i - n)).1, ← f2 (i - n) (by omega)]
        congr 1
        omega
    · show σ2 129 i = nI (if i < n then B i else tn (fdB a b c (i - n)))
      by_cases q : i < n
      · rw [if_pos q, g3 i q, f5 129 (by decide) (by decide)]; exact d2.2 i q
      · rw [if_neg q, ← (hfd (i - n)).1, ← g2 (i - n) (by omega)]
        congr 1
        omega
    · rw [g5 0 (by decide) (by decide), f5 0 (by decide) (by decide)]
    · rw [g4 33 (by decide), f5 113 (by decide) (by decide)]
    · rw [g5 78 (by decide) (by decide), f5 78 (by decide) (by decide)]
    · rw [g5 133 (by decide) (by decide), f5 133 (by decide) (by decide)]
    · rw [g5 0 (by decide) (by decide), f5 0 (by decide) (by decide)]
    · rw [g4 3 (by decide), f5 113 (by decide) (by decide)]
    · rw [g4 13 (by decide), f5 113 (by decide) (by decide)]
  · have e4 := e3 c0
    subst e4
    refine (p_M_feed g dd (by decide) σ1 n d2.1 hn a b c).pr (fun w σ2 ⟨m1, m2, m3⟩ => ⟨m1.trans e1.symm, ?_⟩)
    rw [m3 c0]
    exact h
theorem q_trim {g : CX} {σ : Sg} (h : LI σ) (x : Int32) : Pair g N_trim M_trim [.int x] σ := by
  obtain ⟨B, n, hn, hB, d1, d2⟩ := h.2.2.2.1
  refine ⟨_, p_N_trim g dd (by decide) σ n d1.1 x, fun v σ1 ⟨e1, e2⟩ => ?_⟩
  by_cases c : upB x (nI n) = true
  · rw [if_pos c] at e1 e2
    subst e2
    refine (p_M_trim g dd (by decide) _ n (by rw [updS_nk (by decide)]; exact d2.1) x).pr (fun w σ2 ⟨m1, m2⟩ => ?_)
    rw [if_pos c] at m1 m2
    subst m2
    refine ⟨m1.trans e1.symm, ?_⟩
    obtain ⟨j, hj, tj, rfl⟩ := upB_ex (by omega) c
    refine li_fr h ⟨B, j, by omega, fun i hi => hB i (by omega), ⟨by rw [updS_nk (by decide), updS_at], fun i hi => ?_⟩, ⟨updS_at, fun i hi => ?_⟩⟩ (h.2.2.2.2.1.fr ?_ ?_ ?_ ?_) ?_ ?_ ?_ (fun k x0 x1 x2 x3 x4 x5 x6 x7 => by rw [updS_nk x1, updS_nk x2])
    · rw [updS_nk (by decide), updS_nk (by decide)]; exact d1.2 i (by omega)
    · rw [updS_nk (by decide), updS_nk (by decide)]; exact d2.2 i (by omega)
    · rw [updS_nk (by decide), updS_nk (by decide)]
    · rw [updS_ne (by decide), updS_nk (by decide)]
    · rw [updS_nk (by decide), updS_nk (by decide)]
    · rw [updS_nk (by decide), updS_nk (by decide)]
    · rw [updS_nk (by decide), updS_nk (by decide)]
    · rw [updS_ne (by decide), updS_nk (by decide)]
    · rw [updS_ne (by decide), updS_nk (by decide)]
  · rw [if_neg c] at e1 e2
    subst e2
    refine (p_M_trim g dd (by decide) σ1 n d2.1 x).pr (fun w σ2 ⟨m1, m2⟩ => ?_)
    rw [if_neg c] at m1 m2
    subst m2
    exact ⟨m1.trans e1.symm, h⟩
theorem q_tell {g : CX} {σ : Sg} (h : LI σ) (x : Int32) : Pair g N_tell M_tell [.int x] σ := by
  obtain ⟨T, hT, t1, t2, t3⟩ := h.2.2.2.2.1
  refine ⟨_, p_N_tell g dd (by decide) σ T t1 hT x, fun v σ1 ⟨e1, e2⟩ => ?_⟩
  by_cases c : T < 60
  · rw [if_pos c] at e1 e2
    subst e2
    refine (p_M_tell g dd (by decide) _ T (by rw [updS_nk (by decide), updS_nk (by decide)]; exact t2) hT x).pr (fun w σ2 ⟨m1, m2⟩ => ?_)
    rw [if_pos c] at m1 m2
    subst m2
    refine ⟨m1.trans e1.symm, li_fr h (h.2.2.2.1.fr ?_ ?_ ?_ ?_) ⟨T + 1, by omega, ?_, updS_at, ?_⟩ ?_ ?_ ?_ (fun k x0 x1 x2 x3 x4 x5 x6 x7 => by rw [updS_nk x1, updS_nk x6, updS_nk x0, updS_nk x4])⟩
    · rw [updS_nk (by decide), updS_nk (by decide), updS_nk (by decide), updS_nk (by decide)]
    · rw [updS_nk (by decide), updS_nk (by decide), updS_nk (by decide), updS_nk (by decide)]
    · rw [updS_ne (by decide), updS_nk (by decide), updS_nk (by decide), updS_nk (by decide)]
    · rw [updS_nk (by decide), updS_nk (by decide), updS_nk (by decide), updS_nk (by decide)]
    · rw [updS_nk (by decide), updS_nk (by decide), updS_at]
    · rw [updS_nk (by decide), updS_nk (by decide), updS_nk (by decide), updS_row, updS_nk (by decide), updS_row, updS_nk (by decide), updS_nk (by decide), t3]
    · rw [updS_nk (by decide), updS_nk (by decide), updS_ne (by decide), updS_nk (by decide)]
    · rw [updS_ne (by decide), updS_nk (by decide), updS_nk (by decide), updS_nk (by decide)]
    · rw [updS_ne (by decide), updS_nk (by decide), updS_nk (by decide), updS_nk (by decide)]
  · rw [if_neg c] at e1 e2
    subst e2
    refine (p_M_tell g dd (by decide) σ1 T t2 hT x).pr (fun w σ2 ⟨m1, m2⟩ => ?_)
    rw [if_neg c] at m1 m2
    subst m2
    exact ⟨m1.trans e1.symm, h⟩
