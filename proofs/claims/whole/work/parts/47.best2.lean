/-! THE PLACING, THE MODEL: whether a placing goes, told of all at once or one by one -/
def Inv3 (S : Rw) : Prop := ∀ a, a < 8 → sTalk S a a = false
def ctN (T : Nat → Int32) (x : Int32) : Nat → Nat
  | 0 => 0
  | o + 1 => ctN T x o + (if T o = x then 1 else 0)
def noT (S : Rw) (T : Nat → Int32) (p : Nat) (x : Int32) : Nat → Bool
  | 0 => true
  | o + 1 => noT S T p x o && !(decide (T o = x) && sTalk S p o)
def plO (S : Rw) (T : Nat → Int32) (n p : Nat) : Bool := noT S T p (T p) n && (!(decide (WV S p (tn (T p)) < 0)) && !(decide (S (ixF (tn (T p)) 2) < nI (ctN T (T p) n))))
def plB (S : Rw) (T : Nat → Int32) (n : Nat) : Nat → Bool
  | 0 => true
  | k + 1 => plB S T n k && plO S T n k
theorem ct_le (T : Nat → Int32) (x : Int32) : ∀ o, ctN T x o ≤ o
  | 0 => Nat.le_refl _
  | o + 1 => by have := ct_le T x o; unfold ctN; split <;> omega
theorem noT_iff {S : Rw} {T : Nat → Int32} {p : Nat} {x : Int32} : ∀ o, noT S T p x o = true ↔ ∀ q, q < o → T q = x → sTalk S p q = false
  | 0 => ⟨fun _ q hq => absurd hq (Nat.not_lt_zero q), fun _ => rfl⟩
  | o + 1 => by
    unfold noT
    rw [Bool.and_eq_true, noT_iff o]
    constructor
    · intro ⟨h1, h2⟩ q hq hx
      rcases Nat.lt_succ_iff_lt_or_eq.mp hq with z | z
      · exact h1 q z hx
      · rw [z] at hx ⊢
        rw [decide_eq_true hx, Bool.true_and] at h2
        simpa using h2
    · intro h
      refine ⟨fun q hq hx => h q (by omega) hx, ?_⟩
      by_cases z : T o = x
      · rw [h o (Nat.lt_succ_self o) z, Bool.and_false]; rfl
      · rw [decide_eq_false z, Bool.false_and]; rfl
theorem noT_stay {S : Rw} {T : Nat → Int32} {p : Nat} {x : Int32} {o o' : Nat} (h : noT S T p x o = false) (ho : o ≤ o') : noT S T p x o' = false := by
  rw [Bool.eq_false_iff] at h ⊢
  intro z
  exact h ((noT_iff o).mpr fun q hq hx => (noT_iff o').mp z q (by omega) hx)
theorem plB_iff {S : Rw} {T : Nat → Int32} {n : Nat} : ∀ k, plB S T n k = true ↔ ∀ p, p < k → plO S T n p = true
  | 0 => ⟨fun _ q hq => absurd hq (Nat.not_lt_zero q), fun _ => rfl⟩
  | k + 1 => by
    unfold plB
    rw [Bool.and_eq_true, plB_iff k]
    constructor
    · intro ⟨h1, h2⟩ q hq
      rcases Nat.lt_succ_iff_lt_or_eq.mp hq with z | z
      · exact h1 q z
      · rw [z]; exact h2
    · intro h
      exact ⟨fun q hq => h q (by omega), h k (Nat.lt_succ_self k)⟩
theorem plB_no {S : Rw} {T : Nat → Int32} {n p : Nat} (hp : p < n) (h : plO S T n p = false) : plB S T n n = false := by
  rw [Bool.eq_false_iff]
  intro z
  rw [(plB_iff n).mp z p hp] at h
  cases h
/-- the row of the first k -/
def cutT (k : Nat) (T : Nat → Int32) : Nat → Int32 := fun p => if p < k then T p else -1
theorem TT_cut {k : Nat} : ∀ j m, TT k (m / 9 ^ j) = cutT k (TT (k + j) m)
  | 0, m => by
    rw [Nat.pow_zero, Nat.div_one, Nat.add_zero]
    funext p
    unfold cutT
    split
    · rfl
    · exact TT_ge k m p (by omega)
  | j + 1, m => by
    rw [div9, TT_cut j (m / 9)]
    funext p
    unfold cutT
    split
    · show TT (k + j) (m / 9) p = upd (TT (k + j) (m / 9)) (k + j) (nI (m % 9)) p
      rw [pk_un (by omega)]
    · rfl
theorem TT_at {n m p : Nat} (hp : p < n) : TT n m p = nI (m / 9 ^ (n - 1 - p) % 9) := by
  have h := congrFun (TT_cut (k := p + 1) (n - 1 - p) m) p
  rw [show p + 1 + (n - 1 - p) = n by omega] at h
  unfold cutT at h
  rw [if_pos (Nat.lt_succ_self p)] at h
  rw [← h]
  show upd (TT p (m / 9 ^ (n - 1 - p) / 9)) p (nI (m / 9 ^ (n - 1 - p) % 9)) p = _
  rw [pk_us]
theorem frN_cut {S : Rw} {T : Nat → Int32} {k f : Nat} (hf : f < 9) : ∀ o, frN S (cutT k T) k f o = if noT S T k (nI f) (min o k) = true then some (ctN T (nI f) (min o k)) else none
  | 0 => by rw [Nat.zero_min]; rfl
  | o + 1 => by
    rw [frN, frN_cut hf o]
    by_cases q : o < k
    · rw [show min o k = o by omega, show min (o + 1) k = o + 1 by omega]
      have e : cutT k T o = T o := if_pos q
      cases h : noT S T k (nI f) o with
      | false =>
        rw [if_neg (by decide), if_neg (by rw [noT_stay h (Nat.le_succ o)]; decide)]
        rfl
      | true =>
        rw [if_pos rfl]
        show (if o ≠ k ∧ cutT k T o = nI f then (if sTalk S k o = true then none else some (ctN T (nI f) o + 1)) else some (ctN T (nI f) o)) = _
        rw [e]
        by_cases z : T o = nI f
        · rw [if_pos ⟨by omega, z⟩, show noT S T k (nI f) (o + 1) = (noT S T k (nI f) o && !(decide (T o = nI f) && sTalk S k o)) from rfl, show ctN T (nI f) (o + 1) = ctN T (nI f) o + (if T o = nI f then 1 else 0) from rfl]
          rw [h, decide_eq_true z, if_pos z]
          cases sTalk S k o with
          | true => rfl
          | false => rfl
        · rw [if_neg (fun y => z y.2), show noT S T k (nI f) (o + 1) = (noT S T k (nI f) o && !(decide (T o = nI f) && sTalk S k o)) from rfl, show ctN T (nI f) (o + 1) = ctN T (nI f) o + (if T o = nI f then 1 else 0) from rfl]
          rw [h, decide_eq_false z, if_neg z]
          rfl
    · rw [show min o k = k by omega, show min (o + 1) k = k by omega]
      cases h : noT S T k (nI f) k with
      | false => rw [if_neg (by decide)]; rfl
      | true =>
        rw [if_pos rfl]
        show (if o ≠ k ∧ cutT k T o = nI f then (if sTalk S k o = true then none else some (ctN T (nI f) k + 1)) else some (ctN T (nI f) k)) = _
        rw [if_neg]
        intro y
        have e : cutT k T o = -1 := if_neg q
        rw [e] at y
        exact nI_m1 (by omega) y.2.symm
/-- person k, placed behind those ahead of it -/
def pvO (S : Rw) (T : Nat → Int32) (k : Nat) : Prop := sMay S k (tn (T k)) = true ∧ noT S T k (T k) k = true ∧ ctN T (T k) k < tn (S (ixF (tn (T k)) 2))
theorem PV_iff {S : Rw} (hI : Inv S) {n m : Nat} (hn : n ≤ tn (S 0)) : ∀ j, j ≤ n → (PVb S j (m / 9 ^ (n - j)) = true ↔ ∀ k, k < j → pvO S (TT n m) k)
  | 0, _ => ⟨fun _ k hk => absurd hk (Nat.not_lt_zero k), fun _ => rfl⟩
  | j + 1, h => by
    have hj8 : j < 8 := by have := hI.n.2; omega
    have hc : m / 9 ^ (n - (j + 1)) / 9 = m / 9 ^ (n - j) := by
      rw [Nat.div_div_eq_div_mul, ← Nat.pow_succ, show (n - (j + 1)).succ = n - j by omega]
    have hT : TT n m j = nI (m / 9 ^ (n - (j + 1)) % 9) := by
      rw [TT_at (by omega), show n - 1 - j = n - (j + 1) by omega]
    have hf9 : m / 9 ^ (n - (j + 1)) % 9 < 9 := Nat.mod_lt _ (by decide)
    have htn : tn (TT n m j) = m / 9 ^ (n - (j + 1)) % 9 := by rw [hT, tn_nI (by omega)]
    have hcut : TT j (m / 9 ^ (n - j)) = cutT j (TT n m) := by
      have := TT_cut (k := j) (n - j) m
      rw [show j + (n - j) = n by omega] at this
      exact this
    have hroom := hI.room hf9
    show ((PVb S j (m / 9 ^ (n - (j + 1)) / 9) && (sMay S j (m / 9 ^ (n - (j + 1)) % 9) && sFree S (TT j (m / 9 ^ (n - (j + 1)) / 9)) j (m / 9 ^ (n - (j + 1)) % 9))) = true) ↔ _
    have hfree : sFree S (TT j (m / 9 ^ (n - (j + 1)) / 9)) j (m / 9 ^ (n - (j + 1)) % 9) = true ↔ (noT S (TT n m) j (TT n m j) j = true ∧ ctN (TT n m) (TT n m j) j < tn (S (ixF (tn (TT n m j)) 2))) := by
      unfold sFree
      rw [hc, hcut, frN_cut hf9, show min (tn (S 0)) j = j by omega, hT, tn_nI (by omega)]
      have hct := ct_le (TT n m) (nI (m / 9 ^ (n - (j + 1)) % 9)) j
      cases noT S (TT n m) j (nI (m / 9 ^ (n - (j + 1)) % 9)) j with
      | false => rw [if_neg (by decide)]; exact ⟨fun z => absurd z Bool.false_ne_true, fun z => absurd z.1 Bool.false_ne_true⟩
      | true =>
        rw [if_pos rfl]
        show decide (nI _ < S _) = true ↔ _
        rw [decide_eq_true_eq]
        constructor
        · intro z
          rw [hroom.1, nlt (by omega) (by omega)] at z
          exact ⟨rfl, z⟩
        · intro z
          rw [hroom.1, nlt (by omega) (by omega)]
          exact z.2
    rw [Bool.and_eq_true, Bool.and_eq_true, hfree, hc, PV_iff hI hn j (by omega)]
    constructor
    · intro ⟨h1, h2, h3, h4⟩ k hk
      rcases Nat.lt_succ_iff_lt_or_eq.mp hk with z | z
      · exact h1 k z
      · rw [z]; exact ⟨by rw [htn]; exact h2, h3, h4⟩
    · intro z
      have zj := z j (Nat.lt_succ_self j)
      exact ⟨fun k hk => z k (by omega), by rw [← htn]; exact zj.1, zj.2.1, zj.2.2⟩
theorem ct_room {T : Nat → Int32} {x : Int32} {r : Nat} : ∀ n, (∀ k, k < n → T k = x → ctN T x k < r) → (∃ p, p < n ∧ T p = x) → ctN T x n ≤ r
  | 0, _, ⟨p, hp, _⟩ => absurd hp (Nat.not_lt_zero p)
  | n + 1, h, ⟨p, hp, hx⟩ => by
    unfold ctN
    by_cases q : T n = x
    · rw [if_pos q]
      exact h n (Nat.lt_succ_self n) q
    · rw [if_neg q]
      refine ct_room n (fun k hk => h k (by omega)) ⟨p, ?_, hx⟩
      rcases Nat.lt_succ_iff_lt_or_eq.mp hp with z | z
      · exact z
      · rw [z] at hx; exact absurd hx q
theorem ct_more {T : Nat → Int32} {x : Int32} {k : Nat} (hk : T k = x) : ∀ n, k < n → ctN T x k + 1 ≤ ctN T x n
  | 0, h => absurd h (Nat.not_lt_zero k)
  | n + 1, h => by
    rcases Nat.lt_succ_iff_lt_or_eq.mp h with z | z
    · have := ct_more hk n z
      have e : ctN T x (n + 1) = ctN T x n + (if T n = x then 1 else 0) := rfl
      omega
    · subst z
      have e : ctN T x (k + 1) = ctN T x k + (if T k = x then 1 else 0) := rfl
      rw [if_pos hk] at e
      omega
theorem pl_PV {S : Rw} (hI : Inv S) (hJ : Inv2 S) (h3 : Inv3 S) {n m : Nat} (hn : n ≤ tn (S 0)) : plB S (TT n m) n n = PVb S n m := by
  have hn8 := hI.n.2
  have key : plB S (TT n m) n n = true ↔ PVb S n m = true := by
    have hP := PV_iff hI (n := n) (m := m) hn n (Nat.le_refl n)
    rw [Nat.sub_self, Nat.pow_zero, Nat.div_one] at hP
    rw [plB_iff, hP]
    have hd : ∀ p, p < n → tn (TT n m p) < 9 ∧ TT n m p = nI (tn (TT n m p)) := fun p hp => by
      obtain ⟨f, hf, e⟩ := TT_in n m p hp
      rw [e, tn_nI (by omega)]
      exact ⟨hf, rfl⟩
    constructor
    · intro h k hk
      have hk' := h k hk
      unfold plO at hk'
      rw [Bool.and_eq_true, Bool.and_eq_true, noT_iff, Bool.not_eq_true', Bool.not_eq_true', decide_eq_false_iff_not, decide_eq_false_iff_not] at hk'
      obtain ⟨a, b, c⟩ := hk'
      have hd9 := (hd k hk).1
      refine ⟨?_, (noT_iff k).mpr fun q hq hx => a q (by omega) hx, ?_⟩
      · cases z : sMay S k (tn (TT n m k)) with
        | true => rfl
        | false => exact absurd ((WV_neg hI (by omega) hd9).mpr z) b
      · have hr := hI.room hd9
        have hct := ct_le (TT n m) (TT n m k) n
        rw [hr.1, nlt (by omega) (by omega)] at c
        have := ct_more (T := TT n m) (x := TT n m k) (k := k) rfl n hk
        omega
    · intro h p hp
      have hd9 := (hd p hp).1
      obtain ⟨a, b, c⟩ := h p hp
      unfold plO
      rw [Bool.and_eq_true, Bool.and_eq_true, noT_iff, Bool.not_eq_true', Bool.not_eq_true', decide_eq_false_iff_not, decide_eq_false_iff_not]
      refine ⟨fun q hq hx => ?_, fun z => ?_, ?_⟩
      · rcases Nat.lt_trichotomy q p with z | z | z
        · exact (noT_iff p).mp b q z hx
        · rw [z]; exact h3 p (by omega)
        · have hb := (h q hq).2.1
          rw [hJ.2.1 p q (by omega) (by omega)]
          exact (noT_iff q).mp hb p z hx.symm
      · rw [(WV_neg hI (by omega) hd9).mp z] at a
        cases a
      · have hr := hI.room hd9
        have hct := ct_le (TT n m) (TT n m p) n
        rw [hr.1, nlt (by omega) (by omega)]
        have := ct_room (T := TT n m) (x := TT n m p) (r := tn (S (ixF (tn (TT n m p)) 2))) n (fun k hk e => by
          have hkk := (h k hk).2.2
          rw [e] at hkk
          exact hkk) ⟨p, hp, rfl⟩
        omega
  cases h1 : plB S (TT n m) n n with
  | true => exact (key.mp h1).symm
  | false =>
    cases h2 : PVb S n m with
    | false => rfl
    | true => rw [key.mpr h2] at h1; cases h1
/-- the sum of the walks, as the model adds it up -/
def SMI (S : Rw) : Nat → Nat → Int32
  | 0, _ => 0
  | k + 1, c => SMI S k (c / 9) + WV S k (c % 9)
theorem SMI_nI {S : Rw} (hI : Inv S) : ∀ k c, k ≤ 8 → PVb S k c = true → SMI S k c = nI (SM S k c)
  | 0, _, _, _ => nI_0.symm
  | k + 1, c, hk, h => by
    have h' : (PVb S k (c / 9) && (sMay S k (c % 9) && sFree S (TT k (c / 9)) k (c % 9))) = true := h
    rw [Bool.and_eq_true, Bool.and_eq_true] at h'
    have hw := wN_le hI (p := k) (f := c % 9) (by omega) (Nat.mod_lt _ (by decide))
    show SMI S k (c / 9) + WV S k (c % 9) = nI (SM S k (c / 9) + wN S k (c % 9))
    rw [SMI_nI hI k _ (by omega) h'.1, ← nI_add]
    unfold WV
    rw [if_pos h'.2.1, hw.1]
def BL (o : Option (Nat × Nat)) (b l : Int32) : Prop := match o with
  | none => b = -1
  | some x => b = nI x.2 ∧ l = nI x.1
def WkM (S : Rw) (n : Nat) (σ : Sg) : Prop := ∀ p f, p < n → f < 9 → σ 126 (9 * p + f) = WV S p f
theorem m1_sub (x : Int32) : x + (-1) = x - nI 1 := by rw [Int32.sub_eq_add_neg, show -nI 1 = (-1 : Int32) from by decide +kernel]
def pmI (k : Nat) : Int32 := nI k - nI 1
theorem p_M_isPlacing (g : CX) (d : Nat) (hd : 2 ≤ d) (σ : Sg) (S : Rw) (hS : σ 114 = S) (hI : Inv S) (n : Nat) (hn : S 0 = nI n) (hn8 : n ≤ 8) (T : Nat → Int32) (hT : ∀ i, i < n → σ 125 i = T i) (hTf : ∀ i, i < n → ∃ f, f < 9 ∧ T i = nI f) (hW : WkM S n σ) : RunM g d M_isPlacing [.ref 113] σ (PI (bI (plB S T n n)) σ) := by
  refine RunM.of 3 (by decide +kernel) rfl ?_
  intro κ hg hx hk0 G E
  subst hg
  have hk : 4 ≤ kn κ := Nat.le_of_eq hk0.symm
  show X κ NC 0 [some (.ref 113), none, none, none] [] (hv σ)
  refine x_iconst (v := nI 0) G d_M_isPlacing_0 rfl ?_
  refine x_istore1 G d_M_isPlacing_1 rfl hk ?_
  have hloop : ∀ (m p : Nat) (o2 o3 : Option Value), p ≤ n → n < p + m → plB S T n p = true → X κ NC 2 [some (.ref 113), some (.int (nI p)), o2, o3] [] (hv σ) := by
    intro m
    induction m with
    | zero => intro p o2 o3 h1 h2; omega
    | succ m ih =>
      intro p o2 o3 hp1 hp2 hpl
      refine x_iload1 G d_M_isPlacing_2 ?_
      refine x_aload0 G d_M_isPlacing_3 ?_
      refine m_getr G d_M_isPlacing_4 fl_M_7 rfl (by decide) rfl ?_
      refine x_iconst (v := nI 0) G d_M_isPlacing_7 rfl ?_
      refine m_iald 0 G d_M_isPlacing_8 rfl rfl ⟨by decide, by first | decide | omega⟩ ?_
      rw [show σ 114 0 = nI n by rw [hS]; exact hn]
      refine x_icmp_ge G d_M_isPlacing_9 (fun c9 => ?_) (fun c9 => ?_)
      · have hpn : p = n := by rw [nle (by omega) (by omega)] at c9; omega
        refine x_iconst (v := nI 1) G d_M_isPlacing_103 rfl ?_
        exact m_iret E G d_M_isPlacing_104 hx rfl rfl (pi_of (by have z := hpl; rw [hpn] at z; rw [z]; rfl))
      · have hpn : p < n := by rw [nle (by omega) (by omega)] at c9; omega
        obtain ⟨fp, hfp, efp⟩ := hTf p hpn
        refine x_iconst (v := nI 0) G d_M_isPlacing_12 rfl ?_
        refine x_istore2 G d_M_isPlacing_13 rfl hk ?_
        refine x_iconst (v := nI 0) G d_M_isPlacing_14 rfl ?_
        refine x_istore3 G d_M_isPlacing_15 rfl hk ?_
        have hloop2 : ∀ (m2 o : Nat), o ≤ n → n < o + m2 → noT S T p (T p) o = true → X κ NC 16 [some (.ref 113), some (.int (nI p)), some (.int (nI (ctN T (T p) o))), some (.int (nI o))] [] (hv σ) := by
          intro m2
          induction m2 with
          | zero => intro o h1 h2; omega
          | succ m2 ih2 =>
            intro o ho1 ho2 hno
            have hct := ct_le T (T p) o
            refine x_iload3 G d_M_isPlacing_16 ?_
            refine x_aload0 G d_M_isPlacing_17 ?_
            refine m_getr G d_M_isPlacing_18 fl_M_7 rfl (by decide) rfl ?_
            refine x_iconst (v := nI 0) G d_M_isPlacing_21 rfl ?_
            refine m_iald 0 G d_M_isPlacing_22 rfl rfl ⟨by decide, by first | decide | omega⟩ ?_
            rw [show σ 114 0 = nI n by rw [hS]; exact hn]
            refine x_icmp_ge G d_M_isPlacing_23 (fun c23 => ?_) (fun c23 => ?_)
            · have hon : o = n := by rw [nle (by omega) (by omega)] at c23; omega
              subst hon
              refine x_aload0 G d_M_isPlacing_61 ?_
              refine m_getr G d_M_isPlacing_62 fl_M_50 rfl (by decide) rfl ?_
              refine x_bipush (v := nI 9) G d_M_isPlacing_65 rfl ?_
              refine x_iload1 G d_M_isPlacing_67 ?_
              refine x_imul G d_M_isPlacing_68 ?_
              rw [pk_mul]
              refine x_aload0 G d_M_isPlacing_69 ?_
              refine m_getr G d_M_isPlacing_70 fl_M_43 rfl (by decide) rfl ?_
              refine x_iload1 G d_M_isPlacing_73 ?_
              refine m_iald p G d_M_isPlacing_74 rfl rfl ⟨by omega, by first | decide | omega⟩ ?_
              rw [hT p (by omega), efp]
              refine x_iadd G d_M_isPlacing_75 ?_
              rw [nI_add]
              refine m_iald (9 * p + fp) G d_M_isPlacing_76 rfl rfl ⟨by omega, by first | decide | omega⟩ ?_
              rw [hW p fp hpn hfp]
              refine x_if_lt G d_M_isPlacing_77 (fun c77 => ?_) (fun c77 => ?_)
              · have hwv : WV S p (tn (T p)) < 0 := by rw [efp, tn_nI (by omega)]; exact c77
                refine x_iconst (v := nI 0) G d_M_isPlacing_95 rfl ?_
                exact m_iret E G d_M_isPlacing_96 hx rfl rfl (pi_of (by rw [plB_no hpn (by unfold plO; rw [decide_eq_true hwv]; simp)]; rfl))
              · have hwv : ¬ WV S p (tn (T p)) < 0 := by rw [efp, tn_nI (by omega)]; exact c77
                refine x_iload2 G d_M_isPlacing_80 ?_
                refine x_aload0 G d_M_isPlacing_81 ?_
                refine x_aload0 G d_M_isPlacing_82 ?_
                refine m_getr G d_M_isPlacing_83 fl_M_43 rfl (by decide) rfl ?_
                refine x_iload1 G d_M_isPlacing_86 ?_
                refine m_iald p G d_M_isPlacing_87 rfl rfl ⟨by omega, by first | decide | omega⟩ ?_
                rw [hT p (by omega), efp]
                refine x_iconst (v := nI 2) G d_M_isPlacing_88 rfl ?_
                refine m_callV_pi (p_M_inS (kg κ) (d - 1) σ S hS fp 2 hfp (by decide)) G d_M_isPlacing_89 lk_M_113 rfl ⟨by decide, rfl⟩ (by decide) (by omega) rfl (Nat.le_of_ble_eq_true rfl) hx ?_
                refine x_icmp_le G d_M_isPlacing_92 (fun c92 => ?_) (fun c92 => ?_)
                · have hrm : ¬ S (ixF (tn (T p)) 2) < nI (ctN T (T p) o) := by rw [efp, tn_nI (by omega)]; exact Int32.not_lt.mpr c92
                  have hpo : plO S T o p = true := by unfold plO; rw [hno, decide_eq_false hwv, decide_eq_false hrm]; rfl
                  refine x_iinc1 (v := nI (p + 1)) G d_M_isPlacing_97 rfl hk (nI_1 _) ?_
                  refine x_goto G d_M_isPlacing_100 ?_
                  exact ih (p + 1) _ _ (by omega) (by omega) (by unfold plB; rw [hpl, hpo]; rfl)
                · have hrm : S (ixF (tn (T p)) 2) < nI (ctN T (T p) o) := by rw [efp, tn_nI (by omega)]; exact Int32.not_le.mp c92
                  have hpo : plO S T o p = false := by unfold plO; rw [hno, decide_eq_true hrm, decide_eq_false hwv]; rfl
                  refine x_iconst (v := nI 0) G d_M_isPlacing_95 rfl ?_
                  exact m_iret E G d_M_isPlacing_96 hx rfl rfl (pi_of (by rw [plB_no hpn hpo]; rfl))
            · have hon : o < n := by rw [nle (by omega) (by omega)] at c23; omega
              refine x_aload0 G d_M_isPlacing_26 ?_
              refine m_getr G d_M_isPlacing_27 fl_M_43 rfl (by decide) rfl ?_
              refine x_iload3 G d_M_isPlacing_30 ?_
              refine m_iald o G d_M_isPlacing_31 rfl rfl ⟨by omega, by first | decide | omega⟩ ?_
              rw [hT o (by omega)]
              refine x_aload0 G d_M_isPlacing_32 ?_
              refine m_getr G d_M_isPlacing_33 fl_M_43 rfl (by decide) rfl ?_
              refine x_iload1 G d_M_isPlacing_36 ?_
              refine m_iald p G d_M_isPlacing_37 rfl rfl ⟨by omega, by first | decide | omega⟩ ?_
              rw [hT p (by omega)]
              refine x_icmp_ne G d_M_isPlacing_38 (fun c38 => ?_) (fun c38 => ?_)
              · have hne : ¬ T o = T p := c38
                refine x_iinc3 (v := nI (o + 1)) G d_M_isPlacing_55 rfl hk (nI_1 _) ?_
                refine x_goto G d_M_isPlacing_58 ?_
                rw [show ctN T (T p) o = ctN T (T p) (o + 1) from (by show _ = ctN T (T p) o + (if T o = T p then 1 else 0); rw [if_neg hne]; rfl)]
                exact ih2 (o + 1) (by omega) (by omega) (by unfold noT; rw [hno, decide_eq_false hne]; rfl)
              · have hne : T o = T p := c38
                refine x_iinc2 (v := nI (ctN T (T p) o + 1)) G d_M_isPlacing_41 rfl hk (nI_1 _) ?_
                refine x_aload0 G d_M_isPlacing_44 ?_
                refine x_iload1 G d_M_isPlacing_45 ?_
                refine x_iload3 G d_M_isPlacing_46 ?_
                refine m_callV_pi (p_M_areTalked (kg κ) (d - 1) (by omega) σ S hS p o (by omega)) G d_M_isPlacing_47 lk_M_152 rfl ⟨by decide, rfl⟩ (by decide) (by omega) rfl (Nat.le_of_ble_eq_true rfl) hx ?_
                refine x_if_eq G d_M_isPlacing_50 (fun c50 => ?_) (fun c50 => ?_)
                · replace c50 := bI_0.mp c50
                  refine x_iinc3 (v := nI (o + 1)) G d_M_isPlacing_55 rfl hk (nI_1 _) ?_
                  refine x_goto G d_M_isPlacing_58 ?_
                  rw [show ctN T (T p) o + 1 = ctN T (T p) (o + 1) from (by show _ = ctN T (T p) o + (if T o = T p then 1 else 0); rw [if_pos hne])]
                  exact ih2 (o + 1) (by omega) (by omega) (by unfold noT; rw [hno, decide_eq_true hne, c50]; rfl)
                · replace c50 := bI_n0.mp c50
                  refine x_iconst (v := nI 0) G d_M_isPlacing_53 rfl ?_
                  exact m_iret E G d_M_isPlacing_54 hx rfl rfl (pi_of (by rw [plB_no hpn (by unfold plO; rw [noT_stay (o := o + 1) (by unfold noT; rw [decide_eq_true hne, c50, Bool.and_true]; exact Bool.and_false _) (by omega)]; rfl)]; rfl))
        exact hloop2 (n + 1) 0 (Nat.zero_le _) (by omega) rfl
  exact hloop (n + 1) 0 none none (Nat.zero_le _) (by omega) rfl
theorem p_M_best (g : CX) (d : Nat) (hd : 5 ≤ d) (σ : Sg) (S : Rw) (hO : MO S σ) (h3 : Inv3 S) (what : Int32) : RunM g d M_best [.ref 113, .int what] σ (PR (MC (fBest S what) σ)) := by
  refine RunM.of 8 (by decide +kernel) rfl ?_
  intro κ hg hx hk0 G E
  subst hg
  have hk : 10 ≤ kn κ := Nat.le_of_eq hk0.symm
  show X κ NC 0 [some (.ref 113), some (.int what), none, none, none, none, none, none, none, none] [] (hv σ)
  obtain ⟨hS, hI, hJ, h9, hab⟩ := hO
  have hn8 := hI.n
  refine x_iload1 G d_M_best_0 ?_
  refine x_i2l G d_M_best_1 ?_
  refine x_lconst (v := 0) G d_M_best_2 rfl ?_
  refine x_lconst (v := 1) G d_M_best_3 rfl ?_
  refine m_callS_pi (p_M_isUp (kg κ) (d - 1) _ _ 1 _ _ _ rfl (by decide +kernel) (by decide +kernel)) G d_M_best_4 lk_M_82 (by omega) rfl (Nat.le_of_ble_eq_true rfl) hx ?_
  refine x_if_ne G d_M_best_7 (fun c7 => ?_) (fun c7 => ?_)
  · replace c7 := bI_n0.mp c7
    have tz := c7
    rcases (show (1 ≤ tn (S 0) ∧ tn (S 0) ≤ 5) ∨ tn (S 0) = 0 ∨ 5 < tn (S 0) by omega) with hlo | h0 | h6
    · have h5 := hlo.2
      have hp9 := pow9_le h5
      refine x_aload0 G d_M_best_13 ?_
      refine m_getr G d_M_best_14 fl_M_7 rfl (by decide) rfl ?_
      refine x_iconst (v := nI 0) G d_M_best_17 rfl ?_
      refine m_iald 0 G d_M_best_18 rfl rfl ⟨by decide, by first | decide | omega⟩ ?_
      rw [show σ 114 0 = nI (tn (S 0)) by rw [hS]; exact hn8.1]
      refine x_istore2 G d_M_best_19 rfl hk ?_
      refine x_iconst (v := (-1)) G d_M_best_20 rfl ?_
      refine x_istore3 G d_M_best_21 rfl hk ?_
      refine x_iconst (v := nI 0) G d_M_best_22 rfl ?_
      refine x_istore4 G d_M_best_23 rfl hk ?_
      refine x_iload2 G d_M_best_25 ?_
      refine x_if_eq G d_M_best_26 (fun c26 => absurd c26 ((nI_ne0 (by omega) (by omega)))) (fun c26 => ?_)
      refine x_iload2 G d_M_best_29 ?_
      refine x_iconst (v := nI 5) G d_M_best_30 rfl ?_
      refine x_icmp_le G d_M_best_31 (fun c31 => ?_) (fun c31 => absurd ((nI_le (by omega) (by decide))) c31)
      refine x_iconst (v := nI 1) G d_M_best_38 rfl ?_
      refine x_istore5 G d_M_best_39 rfl hk ?_
      refine x_iconst (v := nI 0) G d_M_best_41 rfl ?_
      refine x_istore6 G d_M_best_42 rfl hk ?_
      have hloopP : ∀ (m p : Nat) (σ1 : Sg) (o7 : Option Value), p ≤ tn (S 0) → tn (S 0) < p + m → WkM S p σ1 → (∀ q, q ≠ 126 → q ≠ 130 → q ≠ 131 → σ1 q = σ q) → X κ NC 44 [some (.ref 113), some (.int what), some (.int (nI (tn (S 0)))), some (.int (-1)), some (.int (nI 0)), some (.int (nI (9 ^ p))), some (.int (nI p)), o7, none, none] [] (hv σ1) := by
        intro m
        induction m with
        | zero => intro p σ1 o7 h1 h2; omega
        | succ m ih =>
          intro p σ1 o7 hp1 hp2 hW1 hG1
          have hS1 : σ1 114 = S := by rw [hG1 114 (by decide) (by decide) (by decide)]; exact hS
          refine x_iload6 G d_M_best_44 ?_
          refine x_iload2 G d_M_best_46 ?_
          refine x_icmp_ge G d_M_best_47 (fun c47 => ?_) (fun c47 => ?_)
          · have hpn : p = tn (S 0) := by rw [nle (by omega) (by omega)] at c47; omega
            subst hpn
            refine x_iconst (v := nI 0) G d_M_best_120 rfl ?_
            refine x_istore6 G d_M_best_121 rfl hk ?_
            have hloopC : ∀ (m2 m : Nat) (σ3 : Sg) (b l : Int32) (o7 o8 o9 : Option Value), m ≤ 9 ^ tn (S 0) → 9 ^ tn (S 0) < m + m2 → BL (scN S (tn (S 0)) m) b l → (∀ q, q ≠ 125 → σ3 q = σ1 q) → X κ NC 123 [some (.ref 113), some (.int what), some (.int (nI (tn (S 0)))), some (.int b), some (.int l), some (.int (nI (9 ^ tn (S 0)))), some (.int (nI m)), o7, o8, o9] [] (hv σ3) := by
              intro m2
              induction m2 with
              | zero => intro m σ3 b l o7 o8 o9 h1 h2; omega
              | succ m2 ih2 =>
                intro m σ3 b l o7 o8 o9 hm1 hm2 hBL hG3
                refine x_iload6 G d_M_best_123 ?_
                refine x_iload5 G d_M_best_125 ?_
                refine x_icmp_ge G d_M_best_127 (fun c127 => ?_) (fun c127 => ?_)
                · have hmn : m = 9 ^ tn (S 0) := by rw [nle (by omega) (by omega)] at c127; omega
                  have hcase : scN S (tn (S 0)) (9 ^ tn (S 0)) = none ∨ ∃ x, scN S (tn (S 0)) (9 ^ tn (S 0)) = some x := by
                    cases scN S (tn (S 0)) (9 ^ tn (S 0)) with
                    | none => exact Or.inl rfl
                    | some x => exact Or.inr ⟨x, rfl⟩
                  rw [hmn] at hBL
                  have hS3 : σ3 114 = S := by rw [hG3 114 (by decide)]; exact hS1
                  have hO3 : OutN σ σ3 := fun k a b c d e f g i j l => by rw [hG3 k c, hG1 k d g i]
                  rcases hcase with hsc | ⟨x, hsc⟩
                  · rw [hsc] at hBL
                    have hBL : b = -1 := hBL
                    subst hBL
                    refine x_iload3 G d_M_best_226 ?_
                    refine x_if_ge G d_M_best_227 (fun c227 => absurd c227 ((by decide))) (fun c227 => ?_)
                    refine x_ldc G d_M_best_230 kc_M_81 ?_
                    refine x_goto G d_M_best_232 ?_
                    exact m_iret E G d_M_best_245 hx rfl rfl ⟨_, rfl, MC.mk' (S1 := S) (v1 := -1000000005) (by simp only [fBest, tz, if_true]; rw [if_pos hlo, hsc]; rfl) rfl hS3 hO3⟩
                  · have hx9 := sc_bound hI h5 _ x hsc
                    rw [hsc] at hBL
                    have hBL : b = nI x.2 ∧ l = nI x.1 := hBL
                    have hp9 := pow9_le h5
                    refine x_iload3 G d_M_best_226 ?_
                    refine x_if_ge G d_M_best_227 (fun c227 => ?_) (fun c227 => absurd ((by rw [hBL.1]; exact nI_pos' (by omega))) c227)
                    refine x_iload1 G d_M_best_235 ?_
                    refine x_if_ne G d_M_best_236 (fun c236 => ?_) (fun c236 => ?_)
                    · have hw0 : bsO what (some x) = nI x.2 := if_neg c236
                      refine x_iload3 G d_M_best_244 ?_
                      exact m_iret E G d_M_best_245 hx rfl rfl ⟨_, rfl, MC.mk' (S1 := S) (v1 := nI x.2) (by simp only [fBest, tz, if_true]; rw [if_pos hlo, hsc]; exact congrArg (fun z => (z, S)) hw0) hBL.1 hS3 hO3⟩
                    · have hw0 : bsO what (some x) = nI x.1 := if_pos c236
                      refine x_iload4 G d_M_best_239 ?_
                      refine x_goto G d_M_best_241 ?_
                      exact m_iret E G d_M_best_245 hx rfl rfl ⟨_, rfl, MC.mk' (S1 := S) (v1 := nI x.1) (by simp only [fBest, tz, if_true]; rw [if_pos hlo, hsc]; exact congrArg (fun z => (z, S)) hw0) hBL.2 hS3 hO3⟩
                · have hmn : m < 9 ^ tn (S 0) := by rw [nle (by omega) (by omega)] at c127; omega
                  refine x_iload6 G d_M_best_130 ?_
                  refine x_istore7 G d_M_best_132 rfl hk ?_
                  refine x_iconst (v := nI 0) G d_M_best_134 rfl ?_
                  refine x_istore8 G d_M_best_135 rfl hk ?_
                  refine x_iload2 G d_M_best_137 ?_
                  refine x_iconst (v := nI 1) G d_M_best_138 rfl ?_
                  refine x_isub G d_M_best_139 ?_
                  refine x_istore9 G d_M_best_140 rfl hk ?_
                  have hloopD : ∀ (k : Nat) (σ4 : Sg) (sum : Int32), k ≤ tn (S 0) → (∀ i, k ≤ i → i < tn (S 0) → σ4 125 i = TT (tn (S 0)) m i) → sum + SMI S k (m / 9 ^ (tn (S 0) - k)) = SMI S (tn (S 0)) m → (∀ q, q ≠ 125 → σ4 q = σ1 q) → X κ NC 142 [some (.ref 113), some (.int what), some (.int (nI (tn (S 0)))), some (.int b), some (.int l), some (.int (nI (9 ^ tn (S 0)))), some (.int (nI m)), some (.int (nI (m / 9 ^ (tn (S 0) - k)))), some (.int sum), some (.int (pmI k))] [] (hv σ4) := by
                    intro k
                    induction k using Nat.strongRecOn with
                    | ind k ihk =>
                      intro σ4 sum hk1 hT4 hsum hG4
                      refine x_iload9 G d_M_best_142 ?_
                      refine x_if_lt G d_M_best_144 (fun c144 => ?_) (fun c144 => ?_)
                      · have hk0 : k = 0 := by
                          rcases Nat.eq_zero_or_pos k with q | q
                          · exact q
                          · exact absurd c144 (by rw [show pmI k = nI (k - 1) from pk_sub q]; exact nI_pos (by omega))
                        subst hk0
                        have hs0 : sum = SMI S (tn (S 0)) m := by
                          have : sum + SMI S 0 (m / 9 ^ (tn (S 0) - 0)) = SMI S (tn (S 0)) m := hsum
                          rw [← this]
                          exact (Int32.add_zero sum).symm
                        refine x_iload3 G d_M_best_195 ?_
                        refine x_if_lt G d_M_best_196 (fun c196 => ?_) (fun c196 => ?_)
                        · have hgo : PVb S (tn (S 0)) m = true → ltO (SM S (tn (S 0)) m) (scN S (tn (S 0)) m) = true := fun hpv => by
                            cases hsc : scN S (tn (S 0)) m with
                            | none => rfl
                            | some x =>
                              rw [hsc] at hBL
                              have hx9 := sc_bound hI h5 m x hsc
                              have hq := SMI_nI hI (tn (S 0)) m (by omega) hpv
                              have hsm := SM_le hI (tn (S 0)) m (by omega)
                              rw [hBL.1] at c196
                              exact absurd c196 (nI_pos (by omega))
                          refine x_aload0 G d_M_best_206 ?_
                          refine m_callV_pi (p_M_isPlacing (kg κ) (d - 1) (by omega) σ4 S (by rw [hG4 114 (by decide)]; exact hS1) hI (tn (S 0)) hn8.1 hn8.2 (TT (tn (S 0)) m) (fun i hi => hT4 i (by omega) hi) (fun i hi => TT_in _ m i hi) (fun p f a c => by rw [hG4 126 (by decide)]; exact hW1 p f a c)) G d_M_best_207 lk_M_182 rfl ⟨by decide, rfl⟩ (by decide) (by omega) rfl (Nat.le_of_ble_eq_true rfl) hx ?_
                          refine x_if_eq G d_M_best_210 (fun c210 => ?_) (fun c210 => ?_)
                          · replace c210 := bI_0.mp c210
                            refine x_iinc6 (v := nI (m + 1)) G d_M_best_220 rfl hk (nI_1 _) ?_
                            refine x_goto G d_M_best_223 ?_
                            have hpv : PVb S (tn (S 0)) m = false := by rw [← pl_PV hI hJ h3 (Nat.le_refl _)]; exact c210
                            exact ih2 (m + 1) σ4 b l _ _ _ (by omega) (by omega) (by
                                show BL (if (PVb S (tn (S 0)) m && ltO (SM S (tn (S 0)) m) (scN S (tn (S 0)) m)) = true then some (SM S (tn (S 0)) m, m) else scN S (tn (S 0)) m) b l
                                rw [if_neg (by rw [hpv, Bool.false_and]; decide)]
                                exact hBL) hG4
                          · replace c210 := bI_n0.mp c210
                            refine x_iload6 G d_M_best_213 ?_
                            refine x_istore3 G d_M_best_215 rfl hk ?_
                            refine x_iload8 G d_M_best_216 ?_
                            refine x_istore4 G d_M_best_218 rfl hk ?_
                            refine x_iinc6 (v := nI (m + 1)) G d_M_best_220 rfl hk (nI_1 _) ?_
                            refine x_goto G d_M_best_223 ?_
                            have hpv : PVb S (tn (S 0)) m = true := by rw [← pl_PV hI hJ h3 (Nat.le_refl _)]; exact c210
                            have hlt : ltO (SM S (tn (S 0)) m) (scN S (tn (S 0)) m) = true := hgo hpv
                            exact ih2 (m + 1) σ4 (nI m) sum _ _ _ (by omega) (by omega) (by
                                show BL (if (PVb S (tn (S 0)) m && ltO (SM S (tn (S 0)) m) (scN S (tn (S 0)) m)) = true then some (SM S (tn (S 0)) m, m) else scN S (tn (S 0)) m) (nI m) sum
                                rw [if_pos (by rw [hpv, hlt]; rfl)]
                                exact ⟨rfl, by rw [hs0]; exact SMI_nI hI _ m (by omega) hpv⟩) hG4
                        · refine x_iload8 G d_M_best_199 ?_
                          refine x_iload4 G d_M_best_201 ?_
                          refine x_icmp_ge G d_M_best_203 (fun c203 => ?_) (fun c203 => ?_)
                          · have hno : (PVb S (tn (S 0)) m && ltO (SM S (tn (S 0)) m) (scN S (tn (S 0)) m)) = false := by
                              cases hpv : PVb S (tn (S 0)) m with
                              | false => rfl
                              | true =>
                                rw [Bool.true_and]
                                cases hsc : scN S (tn (S 0)) m with
                                | none => rw [hsc] at hBL; exact absurd (by rw [show b = -1 from hBL]; decide) c196
                                | some x =>
                                  rw [hsc] at hBL
                                  have hx9 := sc_bound hI h5 m x hsc
                                  have hsm := SM_le hI (tn (S 0)) m (by omega)
                                  rw [hs0, SMI_nI hI _ m (by omega) hpv, hBL.2, nle (by omega) (by omega)] at c203
                                  exact decide_eq_false (by omega)
                            refine x_iinc6 (v := nI (m + 1)) G d_M_best_220 rfl hk (nI_1 _) ?_
                            refine x_goto G d_M_best_223 ?_
                            have hnb : (PVb S (tn (S 0)) m && ltO (SM S (tn (S 0)) m) (scN S (tn (S 0)) m)) = false := hno
                            exact ih2 (m + 1) σ4 b l _ _ _ (by omega) (by omega) (by
                                show BL (if (PVb S (tn (S 0)) m && ltO (SM S (tn (S 0)) m) (scN S (tn (S 0)) m)) = true then some (SM S (tn (S 0)) m, m) else scN S (tn (S 0)) m) b l
                                rw [if_neg (by rw [hnb]; decide)]
                                exact hBL) hG4
                          · have hgo : PVb S (tn (S 0)) m = true → ltO (SM S (tn (S 0)) m) (scN S (tn (S 0)) m) = true := fun hpv => by
                              cases hsc : scN S (tn (S 0)) m with
                              | none => rfl
                              | some x =>
                                rw [hsc] at hBL
                                have hx9 := sc_bound hI h5 m x hsc
                                have hq := SMI_nI hI (tn (S 0)) m (by omega) hpv
                                have hsm := SM_le hI (tn (S 0)) m (by omega)
                                rw [hs0, hq, hBL.2, nle (by omega) (by omega)] at c203
                                exact decide_eq_true (by omega)
                            refine x_aload0 G d_M_best_206 ?_
                            refine m_callV_pi (p_M_isPlacing (kg κ) (d - 1) (by omega) σ4 S (by rw [hG4 114 (by decide)]; exact hS1) hI (tn (S 0)) hn8.1 hn8.2 (TT (tn (S 0)) m) (fun i hi => hT4 i (by omega) hi) (fun i hi => TT_in _ m i hi) (fun p f a c => by rw [hG4 126 (by decide)]; exact hW1 p f a c)) G d_M_best_207 lk_M_182 rfl ⟨by decide, rfl⟩ (by decide) (by omega) rfl (Nat.le_of_ble_eq_true rfl) hx ?_
                            refine x_if_eq G d_M_best_210 (fun c210 => ?_) (fun c210 => ?_)
                            · replace c210 := bI_0.mp c210
                              refine x_iinc6 (v := nI (m + 1)) G d_M_best_220 rfl hk (nI_1 _) ?_
                              refine x_goto G d_M_best_223 ?_
                              have hpv : PVb S (tn (S 0)) m = false := by rw [← pl_PV hI hJ h3 (Nat.le_refl _)]; exact c210
                              exact ih2 (m + 1) σ4 b l _ _ _ (by omega) (by omega) (by
                                  show BL (if (PVb S (tn (S 0)) m && ltO (SM S (tn (S 0)) m) (scN S (tn (S 0)) m)) = true then some (SM S (tn (S 0)) m, m) else scN S (tn (S 0)) m) b l
                                  rw [if_neg (by rw [hpv, Bool.false_and]; decide)]
                                  exact hBL) hG4
                            · replace c210 := bI_n0.mp c210
                              refine x_iload6 G d_M_best_213 ?_
                              refine x_istore3 G d_M_best_215 rfl hk ?_
                              refine x_iload8 G d_M_best_216 ?_
                              refine x_istore4 G d_M_best_218 rfl hk ?_
                              refine x_iinc6 (v := nI (m + 1)) G d_M_best_220 rfl hk (nI_1 _) ?_
                              refine x_goto G d_M_best_223 ?_
                              have hpv : PVb S (tn (S 0)) m = true := by rw [← pl_PV hI hJ h3 (Nat.le_refl _)]; exact c210
                              have hlt : ltO (SM S (tn (S 0)) m) (scN S (tn (S 0)) m) = true := hgo hpv
                              exact ih2 (m + 1) σ4 (nI m) sum _ _ _ (by omega) (by omega) (by
                                  show BL (if (PVb S (tn (S 0)) m && ltO (SM S (tn (S 0)) m) (scN S (tn (S 0)) m)) = true then some (SM S (tn (S 0)) m, m) else scN S (tn (S 0)) m) (nI m) sum
                                  rw [if_pos (by rw [hpv, hlt]; rfl)]
                                  exact ⟨rfl, by rw [hs0]; exact SMI_nI hI _ m (by omega) hpv⟩) hG4
                      · have hk0 : 0 < k := by
                          rcases Nat.eq_zero_or_pos k with q | q
                          · exact absurd (by rw [q]; decide) c144
                          · exact q
                        have hpk : pmI k = nI (k - 1) := pk_sub hk0
                        have hlm : m / 9 ^ (tn (S 0) - k) < 2 ^ 31 := Nat.lt_of_le_of_lt (Nat.div_le_self _ _) (by omega)
                        have hdd : m / 9 ^ (tn (S 0) - k) / 9 = m / 9 ^ (tn (S 0) - (k - 1)) := by rw [Nat.div_div_eq_div_mul, ← Nat.pow_succ, show (tn (S 0) - k).succ = tn (S 0) - (k - 1) by omega]
                        rw [hpk]
                        refine x_aload0 G d_M_best_147 ?_
                        refine m_getr G d_M_best_148 fl_M_43 rfl (by decide) rfl ?_
                        refine x_iload9 G d_M_best_151 ?_
                        refine x_iload7 G d_M_best_153 ?_
                        refine x_bipush (v := nI 9) G d_M_best_155 rfl ?_
                        refine x_irem G d_M_best_157 (by decide +kernel) ?_
                        rw [pk_rem hlm (by decide) (by decide)]
                        refine m_iast_n (k - 1) G d_M_best_158 rfl rfl ⟨by omega, by first | decide | omega⟩ (fun σ5 e5 => ?_)
                        refine x_iload7 G d_M_best_159 ?_
                        refine x_bipush (v := nI 9) G d_M_best_161 rfl ?_
                        refine x_idiv G d_M_best_163 (by decide +kernel) ?_
                        rw [pk_div hlm (by decide) (by decide), hdd]
                        refine x_istore7 G d_M_best_164 rfl hk ?_
                        refine x_iload8 G d_M_best_166 ?_
                        refine x_aload0 G d_M_best_168 ?_
                        refine m_getr G d_M_best_169 fl_M_50 rfl (by decide) rfl ?_
                        refine x_bipush (v := nI 9) G d_M_best_172 rfl ?_
                        refine x_iload9 G d_M_best_174 ?_
                        refine x_imul G d_M_best_176 ?_
                        rw [pk_mul]
                        refine x_aload0 G d_M_best_177 ?_
                        refine m_getr G d_M_best_178 fl_M_43 rfl (by decide) rfl ?_
                        refine x_iload9 G d_M_best_181 ?_
                        refine m_iald (k - 1) G d_M_best_183 rfl rfl ⟨by omega, by first | decide | omega⟩ ?_
                        rw [show σ5 125 (k - 1) = nI (m / 9 ^ (tn (S 0) - k) % 9) by rw [e5, updS_at]]
                        refine x_iadd G d_M_best_184 ?_
                        rw [nI_add]
                        refine m_iald (9 * (k - 1) + m / 9 ^ (tn (S 0) - k) % 9) G d_M_best_185 rfl rfl ⟨by have := Nat.mod_lt (m / 9 ^ (tn (S 0) - k)) (show 9 > 0 by decide); omega, by first | decide | omega⟩ ?_
                        rw [show σ5 126 (9 * (k - 1) + m / 9 ^ (tn (S 0) - k) % 9) = WV S (k - 1) (m / 9 ^ (tn (S 0) - k) % 9) by rw [e5, updS_nk (by decide), hG4 126 (by decide)]; exact hW1 _ _ (by omega) (Nat.mod_lt _ (by decide))]
                        refine x_iadd G d_M_best_186 ?_
                        refine x_istore8 G d_M_best_187 rfl hk ?_
                        refine x_iinc9 (v := pmI (k - 1)) G d_M_best_189 rfl hk (m1_sub _) ?_
                        have hT5 : ∀ i, k - 1 ≤ i → i < tn (S 0) → σ5 125 i = TT (tn (S 0)) m i := fun i a b => by
                          rw [e5, updS_row]
                          by_cases q : i = k - 1
                          · rw [q, pk_us, TT_at (by omega), show tn (S 0) - 1 - (k - 1) = tn (S 0) - k by omega]
                          · rw [pk_un q]; exact hT4 i (by omega) b
                        have hG5 : ∀ q, q ≠ 125 → σ5 q = σ1 q := fun q a => by rw [e5, updS_nk a]; exact hG4 q a
                        have hsum5 : sum + WV S (k - 1) (m / 9 ^ (tn (S 0) - k) % 9) + SMI S (k - 1) (m / 9 ^ (tn (S 0) - (k - 1))) = SMI S (tn (S 0)) m := by
                          have e : SMI S k (m / 9 ^ (tn (S 0) - k)) = SMI S (k - 1) (m / 9 ^ (tn (S 0) - k) / 9) + WV S (k - 1) (m / 9 ^ (tn (S 0) - k) % 9) := by
                            conv => lhs; rw [show k = (k - 1) + 1 by omega]
                            rw [SMI]
                            rw [show k - 1 + 1 = k by omega]
                          rw [← hsum, e, hdd, Int32.add_assoc, Int32.add_comm (WV _ _ _)]
                        refine x_goto G d_M_best_192 ?_
                        exact ihk (k - 1) (by omega) σ5 _ (by omega) hT5 hsum5 hG5
                  have hent := hloopD (tn (S 0)) σ3 (nI 0) (Nat.le_refl _) (fun i a b => absurd b (by omega)) (by rw [Nat.sub_self, Nat.pow_zero, Nat.div_one, nI_0]; exact Int32.zero_add _) hG3
                  rw [Nat.sub_self, Nat.pow_zero, Nat.div_one] at hent
                  exact hent
            exact hloopC (9 ^ tn (S 0) + 1) 0 σ1 (-1) (nI 0) _ _ _ (Nat.zero_le _) (by omega) rfl (fun _ _ => rfl)
          · have hpn : p < tn (S 0) := by rw [nle (by omega) (by omega)] at c47; omega
            refine x_iload2 G d_M_best_50 ?_
            refine x_iconst (v := nI 5) G d_M_best_51 rfl ?_
            refine x_icmp_gt G d_M_best_52 (fun c52 => absurd c52 ((nI_nlt (by omega) (by omega)))) (fun c52 => ?_)
            refine x_iload5 G d_M_best_55 ?_
            refine x_bipush (v := nI 9) G d_M_best_57 rfl ?_
            refine x_imul G d_M_best_59 ?_
            rw [pk_mul, ← Nat.pow_succ]
            refine x_istore5 G d_M_best_60 rfl hk ?_
            refine x_iconst (v := nI 0) G d_M_best_62 rfl ?_
            refine x_istore7 G d_M_best_63 rfl hk ?_
            have hloopF : ∀ (m2 f : Nat) (σ2 : Sg), f ≤ 9 → 9 < f + m2 → WkM S p σ2 → (∀ f', f' < f → σ2 126 (9 * p + f') = WV S p f') → (∀ q, q ≠ 126 → q ≠ 130 → q ≠ 131 → σ2 q = σ q) → X κ NC 65 [some (.ref 113), some (.int what), some (.int (nI (tn (S 0)))), some (.int (-1)), some (.int (nI 0)), some (.int (nI (9 ^ (p + 1)))), some (.int (nI p)), some (.int (nI f)), none, none] [] (hv σ2) := by
              intro m2
              induction m2 with
              | zero => intro f σ2 h1 h2; omega
              | succ m2 ih2 =>
                intro f σ2 hf1 hf2 hW2 hF2 hG2
                have hS2 : σ2 114 = S := by rw [hG2 114 (by decide) (by decide) (by decide)]; exact hS
                refine x_iload7 G d_M_best_65 ?_
                refine x_bipush (v := nI 9) G d_M_best_67 rfl ?_
                refine x_icmp_ge G d_M_best_69 (fun c69 => ?_) (fun c69 => ?_)
                · have hf9 : f = 9 := by rw [nle (by decide) (by omega)] at c69; omega
                  refine x_iinc6 (v := nI (p + 1)) G d_M_best_114 rfl hk (nI_1 _) ?_
                  refine x_goto G d_M_best_117 ?_
                  exact ih (p + 1) σ2 _ (by omega) (by omega) (fun p' f' a b => if q : p' = p then (by rw [q]; exact hF2 f' (by omega)) else hW2 p' f' (by omega) b) hG2
                · have hf9 : f < 9 := by rw [nle (by decide) (by omega)] at c69; omega
                  refine x_aload0 G d_M_best_72 ?_
                  refine m_getr G d_M_best_73 fl_M_50 rfl (by decide) rfl ?_
                  refine x_bipush (v := nI 9) G d_M_best_76 rfl ?_
                  refine x_iload6 G d_M_best_78 ?_
                  refine x_imul G d_M_best_80 ?_
                  rw [pk_mul]
                  refine x_iload7 G d_M_best_81 ?_
                  refine x_iadd G d_M_best_83 ?_
                  rw [nI_add]
                  refine x_aload0 G d_M_best_84 ?_
                  refine x_iload6 G d_M_best_85 ?_
                  refine x_iload7 G d_M_best_87 ?_
                  refine m_callV_pi (p_M_mayStand (kg κ) (d - 1) (by omega) σ2 S hS2 hI p (by omega) f hf9) G d_M_best_89 lk_M_137 rfl ⟨by decide, rfl⟩ (by decide) (by omega) rfl (Nat.le_of_ble_eq_true rfl) hx ?_
                  refine x_if_eq G d_M_best_92 (fun c92 => ?_) (fun c92 => ?_)
                  · replace c92 := bI_0.mp c92
                    have hmy := c92
                    refine x_iconst (v := (-1)) G d_M_best_106 rfl ?_
                    refine m_iast_n (9 * p + f) G d_M_best_107 rfl rfl ⟨by omega, by first | decide | omega⟩ (fun σ4 e4 => ?_)
                    refine x_iinc7 (v := nI (f + 1)) G d_M_best_108 rfl hk (nI_1 _) ?_
                    refine x_goto G d_M_best_111 ?_
                    exact ih2 (f + 1) σ4 (by omega) (by omega) (fun p' f' a b => by rw [e4, updS_ne (by omega)]; exact hW2 p' f' a b) (fun f' hf' => by
                      rw [e4, updS_row]
                      by_cases q : f' = f
                      · rw [q, pk_us]; unfold WV; rw [if_neg (by rw [hmy]; decide)]
                      · rw [pk_un (by omega)]; exact hF2 f' (by omega)) (fun q a b c => by rw [e4, updS_nk a]; exact hG2 q a b c)
                  · replace c92 := bI_n0.mp c92
                    have hmy := c92
                    refine x_aload0 G d_M_best_95 ?_
                    refine x_iload6 G d_M_best_96 ?_
                    refine x_iload7 G d_M_best_98 ?_
                    refine m_callV_pr (p_M_walkOf (kg κ) (d - 1) (by omega) σ2 S hS2 hI p (by omega) f hf9) G d_M_best_100 lk_M_134 rfl ⟨by decide, rfl⟩ (by decide) (by omega) rfl (Nat.le_of_ble_eq_true rfl) hx (fun v3 σ3 ⟨g1, g2⟩ => ?_)
                    refine x_goto G d_M_best_103 ?_
                    refine m_iast_n (9 * p + f) G d_M_best_107 rfl rfl ⟨by omega, by first | decide | omega⟩ (fun σ4 e4 => ?_)
                    refine x_iinc7 (v := nI (f + 1)) G d_M_best_108 rfl hk (nI_1 _) ?_
                    refine x_goto G d_M_best_111 ?_
                    exact ih2 (f + 1) σ4 (by omega) (by omega) (fun p' f' a b => by rw [e4, updS_ne (by omega), g2 126 (by decide) (by decide)]; exact hW2 p' f' a b) (fun f' hf' => by
                      rw [e4, updS_row]
                      by_cases q : f' = f
                      · rw [q, pk_us]; unfold WV; rw [if_pos hmy]; exact g1
                      · rw [pk_un (by omega), g2 126 (by decide) (by decide)]; exact hF2 f' (by omega)) (fun q a b c => by rw [e4, updS_nk a, g2 q b c]; exact hG2 q a b c)
            exact hloopF 10 0 σ1 (by decide) (by decide) hW1 (fun f' hf' => absurd hf' (Nat.not_lt_zero f')) hG1
      exact hloopP (tn (S 0) + 1) 0 σ none (Nat.zero_le _) (by omega) (fun p f hp _ => absurd hp (Nat.not_lt_zero p)) (fun _ _ _ _ => rfl)
    · have hlo : ¬ (1 ≤ tn (S 0) ∧ tn (S 0) ≤ 5) := by omega
      refine x_aload0 G d_M_best_13 ?_
      refine m_getr G d_M_best_14 fl_M_7 rfl (by decide) rfl ?_
      refine x_iconst (v := nI 0) G d_M_best_17 rfl ?_
      refine m_iald 0 G d_M_best_18 rfl rfl ⟨by decide, by first | decide | omega⟩ ?_
      rw [show σ 114 0 = nI (tn (S 0)) by rw [hS]; exact hn8.1]
      refine x_istore2 G d_M_best_19 rfl hk ?_
      refine x_iconst (v := (-1)) G d_M_best_20 rfl ?_
      refine x_istore3 G d_M_best_21 rfl hk ?_
      refine x_iconst (v := nI 0) G d_M_best_22 rfl ?_
      refine x_istore4 G d_M_best_23 rfl hk ?_
      refine x_iload2 G d_M_best_25 ?_
      refine x_if_eq G d_M_best_26 (fun c26 => ?_) (fun c26 => absurd ((by rw [h0]; exact nI_0)) c26)
      refine x_iconst (v := nI 0) G d_M_best_34 rfl ?_
      refine x_goto G d_M_best_35 ?_
      refine x_istore5 G d_M_best_39 rfl hk ?_
      refine x_iconst (v := nI 0) G d_M_best_41 rfl ?_
      refine x_istore6 G d_M_best_42 rfl hk ?_
      refine x_iload6 G d_M_best_44 ?_
      refine x_iload2 G d_M_best_46 ?_
      refine x_icmp_ge G d_M_best_47 (fun c47 => ?_) (fun c47 => absurd ((by rw [h0]; exact Int32.le_refl _)) c47)
      refine x_iconst (v := nI 0) G d_M_best_120 rfl ?_
      refine x_istore6 G d_M_best_121 rfl hk ?_
      refine x_iload6 G d_M_best_123 ?_
      refine x_iload5 G d_M_best_125 ?_
      refine x_icmp_ge G d_M_best_127 (fun c127 => ?_) (fun c127 => absurd ((Int32.le_refl _)) c127)
      refine x_iload3 G d_M_best_226 ?_
      refine x_if_ge G d_M_best_227 (fun c227 => absurd c227 ((by decide))) (fun c227 => ?_)
      refine x_ldc G d_M_best_230 kc_M_81 ?_
      refine x_goto G d_M_best_232 ?_
      exact m_iret E G d_M_best_245 hx rfl rfl ⟨_, rfl, MC.same hS (by simp only [fBest, tz, if_true]; rw [if_neg hlo])⟩
    · have hlo : ¬ (1 ≤ tn (S 0) ∧ tn (S 0) ≤ 5) := by omega
      refine x_aload0 G d_M_best_13 ?_
      refine m_getr G d_M_best_14 fl_M_7 rfl (by decide) rfl ?_
      refine x_iconst (v := nI 0) G d_M_best_17 rfl ?_
      refine m_iald 0 G d_M_best_18 rfl rfl ⟨by decide, by first | decide | omega⟩ ?_
      rw [show σ 114 0 = nI (tn (S 0)) by rw [hS]; exact hn8.1]
      refine x_istore2 G d_M_best_19 rfl hk ?_
      refine x_iconst (v := (-1)) G d_M_best_20 rfl ?_
      refine x_istore3 G d_M_best_21 rfl hk ?_
      refine x_iconst (v := nI 0) G d_M_best_22 rfl ?_
      refine x_istore4 G d_M_best_23 rfl hk ?_
      refine x_iload2 G d_M_best_25 ?_
      refine x_if_eq G d_M_best_26 (fun c26 => absurd c26 ((nI_ne0 (by omega) (by omega)))) (fun c26 => ?_)
      refine x_iload2 G d_M_best_29 ?_
      refine x_iconst (v := nI 5) G d_M_best_30 rfl ?_
      refine x_icmp_le G d_M_best_31 (fun c31 => absurd c31 ((nI_ge (by omega) (by omega)))) (fun c31 => ?_)
      refine x_iconst (v := nI 0) G d_M_best_34 rfl ?_
      refine x_goto G d_M_best_35 ?_
      refine x_istore5 G d_M_best_39 rfl hk ?_
      refine x_iconst (v := nI 0) G d_M_best_41 rfl ?_
      refine x_istore6 G d_M_best_42 rfl hk ?_
      refine x_iload6 G d_M_best_44 ?_
      refine x_iload2 G d_M_best_46 ?_
      refine x_icmp_ge G d_M_best_47 (fun c47 => absurd c47 ((nI_ge (by omega) (by omega)))) (fun c47 => ?_)
      refine x_iload2 G d_M_best_50 ?_
      refine x_iconst (v := nI 5) G d_M_best_51 rfl ?_
      refine x_icmp_gt G d_M_best_52 (fun c52 => ?_) (fun c52 => absurd ((nI_lt (by omega) (by omega))) c52)
      refine x_iconst (v := nI 0) G d_M_best_120 rfl ?_
      refine x_istore6 G d_M_best_121 rfl hk ?_
      refine x_iload6 G d_M_best_123 ?_
      refine x_iload5 G d_M_best_125 ?_
      refine x_icmp_ge G d_M_best_127 (fun c127 => ?_) (fun c127 => absurd ((Int32.le_refl _)) c127)
      refine x_iload3 G d_M_best_226 ?_
      refine x_if_ge G d_M_best_227 (fun c227 => absurd c227 ((by decide))) (fun c227 => ?_)
      refine x_ldc G d_M_best_230 kc_M_81 ?_
      refine x_goto G d_M_best_232 ?_
      exact m_iret E G d_M_best_245 hx rfl rfl ⟨_, rfl, MC.same hS (by simp only [fBest, tz, if_true]; rw [if_neg hlo])⟩
  · replace c7 := bI_0.mp c7
    have tz := c7
    refine x_ldc G d_M_best_10 kc_M_98 ?_
    exact m_iret E G d_M_best_12 hx rfl rfl ⟨_, rfl, MC.same hS (by simp only [fBest, tz, Bool.false_eq_true, if_false])⟩
