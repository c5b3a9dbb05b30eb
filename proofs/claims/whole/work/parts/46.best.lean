/-! THE PLACING WITH THE LEAST WALKING: the spec, over the codes of all placings in their order -/
theorem paces_In : ∀ j, j < 6 → ∀ a, a < 1000 → (pacesB j (nI a) = nI (tn (pacesB j (nI a))) ∧ tn (pacesB j (nI a)) ≤ 2003) := by decide +kernel
theorem walk_In {S : Rw} (hI : Inv S) {p f : Nat} (hp : p < 8) (hf : f < 9) : In (sWalk S p f) 2003 := by
  have hpl : In (sPlain S p f) 999 := by
    unfold sPlain
    split
    · have h1 := hI.home hp
      have h2 := hI.corn hf
      have h3 : sFar S p f ≤ 4 := far_le _ (by omega) f hf
      rw [h2.1, pk_mul, nI_add]
      exact In.mk' (by omega) (by decide)
    · unfold clampI
      split
      · exact In.mk' (n := 0) (by decide) (by decide)
      · split
        · exact In.mk' (by decide) (by decide)
        · rename_i h1 h2
          exact (In_iff (by decide)).mpr ⟨Int32.not_lt.mp h1, Int32.not_lt.mp h2⟩
  unfold sWalk
  rw [hpl.1]
  exact paces_In _ (by have := (hI.kind hp).2; omega) _ (by have := hpl.2; omega)
def WV (S : Rw) (p f : Nat) : Int32 := if sMay S p f = true then sWalk S p f else -1
def wN (S : Rw) (p f : Nat) : Nat := tn (sWalk S p f)
theorem wN_le {S : Rw} (hI : Inv S) {p f : Nat} (hp : p < 8) (hf : f < 9) : sWalk S p f = nI (wN S p f) ∧ wN S p f ≤ 2003 := walk_In hI hp hf
/-- where the first k people stand in the placing of code c -/
def TT : Nat → Nat → Nat → Int32
  | 0, _ => fun _ => -1
  | k + 1, c => upd (TT k (c / 9)) k (nI (c % 9))
def SM (S : Rw) : Nat → Nat → Nat
  | 0, _ => 0
  | k + 1, c => SM S k (c / 9) + wN S k (c % 9)
def PVb (S : Rw) : Nat → Nat → Bool
  | 0, _ => true
  | k + 1, c => PVb S k (c / 9) && (sMay S k (c % 9) && sFree S (TT k (c / 9)) k (c % 9))
def ltO (a : Nat) : Option (Nat × Nat) → Bool
  | none => true
  | some x => decide (a < x.1)
/-- the best of the first m placings: its walk and its code -/
def scN (S : Rw) (n : Nat) : Nat → Option (Nat × Nat)
  | 0 => none
  | m + 1 => if (PVb S n m && ltO (SM S n m) (scN S n m)) = true then some (SM S n m, m) else scN S n m
def bsO (what : Int32) : Option (Nat × Nat) → Int32
  | none => -1000000005
  | some x => if what = 0 then nI x.1 else nI x.2
def fBest (S : Rw) (what : Int32) : Int32 × Rw := (if upB what (nI 1) then (if 1 ≤ tn (S 0) ∧ tn (S 0) ≤ 5 then bsO what (scN S (tn (S 0)) (9 ^ tn (S 0))) else -1000000005) else -1000000001, S)
theorem TT_ge : ∀ k c p, k ≤ p → TT k c p = -1
  | 0, _, _, _ => rfl
  | k + 1, c, p, h => by
    show upd (TT k (c / 9)) k (nI (c % 9)) p = -1
    rw [pk_un (by omega)]
    exact TT_ge k _ p (by omega)
theorem TT_in : ∀ k c p, p < k → ∃ f, f < 9 ∧ TT k c p = nI f
  | 0, _, _, h => absurd h (Nat.not_lt_zero _)
  | k + 1, c, p, h => by
    show ∃ f, f < 9 ∧ upd (TT k (c / 9)) k (nI (c % 9)) p = nI f
    by_cases q : p = k
    · rw [q, pk_us]; exact ⟨c % 9, Nat.mod_lt _ (by decide), rfl⟩
    · rw [pk_un q]; exact TT_in k _ p (by omega)
theorem TT_next {k c f : Nat} (hf : f < 9) : TT (k + 1) (c * 9 + f) = upd (TT k c) k (nI f) := by
  show upd (TT k ((c * 9 + f) / 9)) k (nI ((c * 9 + f) % 9)) = _
  rw [show (c * 9 + f) / 9 = c by omega, show (c * 9 + f) % 9 = f by omega]
theorem SM_next {S : Rw} {k c f : Nat} (hf : f < 9) : SM S (k + 1) (c * 9 + f) = SM S k c + wN S k f := by
  show SM S k ((c * 9 + f) / 9) + wN S k ((c * 9 + f) % 9) = _
  rw [show (c * 9 + f) / 9 = c by omega, show (c * 9 + f) % 9 = f by omega]
theorem PV_next {S : Rw} {k c f : Nat} (hf : f < 9) : PVb S (k + 1) (c * 9 + f) = (PVb S k c && (sMay S k f && sFree S (TT k c) k f)) := by
  show (PVb S k ((c * 9 + f) / 9) && (sMay S k ((c * 9 + f) % 9) && sFree S (TT k ((c * 9 + f) / 9)) k ((c * 9 + f) % 9))) = _
  rw [show (c * 9 + f) / 9 = c by omega, show (c * 9 + f) % 9 = f by omega]
theorem SM_le {S : Rw} (hI : Inv S) : ∀ k c, k ≤ 8 → SM S k c ≤ 2003 * k
  | 0, _, _ => Nat.le_refl _
  | k + 1, c, h => by
    have h1 := SM_le hI k (c / 9) (by omega)
    have h2 := (wN_le hI (p := k) (f := c % 9) (by omega) (Nat.mod_lt _ (by decide))).2
    show SM S k (c / 9) + wN S k (c % 9) ≤ _
    omega
theorem div9 (m j : Nat) : m / 9 ^ (j + 1) = m / 9 / 9 ^ j := by
  rw [Nat.pow_succ, Nat.mul_comm, Nat.div_div_eq_div_mul]
theorem PV_pre {S : Rw} {k : Nat} : ∀ j m, PVb S (k + j) m = true → PVb S k (m / 9 ^ j) = true
  | 0, m, h => by rw [Nat.pow_zero, Nat.div_one]; exact h
  | j + 1, m, h => by
    rw [div9]
    have h' : (PVb S (k + j) (m / 9) && (sMay S (k + j) (m % 9) && sFree S (TT (k + j) (m / 9)) (k + j) (m % 9))) = true := h
    rw [Bool.and_eq_true] at h'
    exact PV_pre j _ h'.1
theorem SM_pre {S : Rw} {k : Nat} : ∀ j m, SM S k (m / 9 ^ j) ≤ SM S (k + j) m
  | 0, m => by rw [Nat.pow_zero, Nat.div_one]; exact Nat.le_refl _
  | j + 1, m => by
    rw [div9]
    have h := SM_pre (S := S) (k := k) j (m / 9)
    show _ ≤ SM S (k + j) (m / 9) + wN S (k + j) (m % 9)
    omega
theorem sc_skip {S : Rw} {n a : Nat} : ∀ j, (∀ m, a ≤ m → m < a + j → PVb S n m = false ∨ ltO (SM S n m) (scN S n a) = false) → scN S n (a + j) = scN S n a
  | 0, _ => rfl
  | j + 1, h => by
    have ih := sc_skip (S := S) (n := n) (a := a) j (fun m h1 h2 => h m h1 (by omega))
    show (if (PVb S n (a + j) && ltO (SM S n (a + j)) (scN S n (a + j))) = true then some (SM S n (a + j), a + j) else scN S n (a + j)) = _
    rw [ih, if_neg]
    rcases h (a + j) (by omega) (by omega) with q | q
    · rw [q, Bool.false_and]; decide
    · rw [q, Bool.and_false]; decide
/-- the codes that begin with c -/
theorem in_sub {c j m : Nat} (h1 : c * 9 ^ j ≤ m) (h2 : m < c * 9 ^ j + 9 ^ j) : m / 9 ^ j = c := by
  have h0 : 0 < 9 ^ j := Nat.pow_pos (by decide)
  rw [Nat.div_eq_iff h0]
  omega
theorem sc_bound {S : Rw} (hI : Inv S) {n : Nat} (hn : n ≤ 5) : ∀ m x, scN S n m = some x → x.1 ≤ 10015 ∧ x.2 < m
  | 0, x, h => by cases h
  | m + 1, x, h => by
    unfold scN at h
    split at h
    · cases h
      have := SM_le hI n m (by omega)
      exact ⟨by show SM S n m ≤ _; omega, Nat.lt_succ_self m⟩
    · have := sc_bound hI hn m x h
      exact ⟨this.1, by omega⟩
theorem frN_upd {S : Rw} {T : Nat → Int32} {p f : Nat} {y : Int32} : ∀ o, frN S (upd T p y) p f o = frN S T p f o
  | 0 => rfl
  | o + 1 => by
    rw [frN, frN, frN_upd o]
    congr 1
    funext c
    by_cases q : o = p
    · rw [if_neg (fun z => z.1 q), if_neg (fun z => z.1 q)]
    · rw [pk_un q]
theorem sFree_upd {S : Rw} {T : Nat → Int32} {p f : Nat} {y : Int32} : sFree S (upd T p y) p f = sFree S T p f := by
  unfold sFree
  rw [frN_upd]
def LW (o : Option (Nat × Nat)) (σ : Sg) : Prop := match o with
  | none => σ 0 13 = -1
  | some x => σ 0 13 = nI x.1 ∧ σ 0 14 = nI x.2
def OutB (σ σ1 : Sg) : Prop := (∀ q, q ≠ 0 → q ≠ 71 → σ1 q = σ q) ∧ ∀ j, j ≠ 13 → j ≠ 14 → σ1 0 j = σ 0 j
theorem OutB.refl {σ : Sg} : OutB σ σ := ⟨fun _ _ _ => rfl, fun _ _ _ => rfl⟩
theorem OutB.trans {σ σ1 σ2 : Sg} (h : OutB σ σ1) (g : OutB σ1 σ2) : OutB σ σ2 := ⟨fun q a b => (g.1 q a b).trans (h.1 q a b), fun j a b => (g.2 j a b).trans (h.2 j a b)⟩
def WkT (S : Rw) (n : Nat) (σ : Sg) : Prop := ∀ p f, p < n → f < 9 → σ 80 (p * 9 + f) = WV S p f
def PlC (S : Rw) (one : Nat) : Prop := ∀ (g : CX) (d : Nat) (σ : Sg) (c : Nat), 2 * (tn (S 0) - one) + 4 ≤ d → WRel 58 S σ → WkT S (tn (S 0)) σ → StT 58 (TT one c) σ → LW (scN S (tn (S 0)) (c * 9 ^ (tn (S 0) - one))) σ → PVb S one c = true → c < 9 ^ one →
  RunM g d N_place [.ref 0, .int (nI one), .int (nI (SM S one c)), .int (nI c)] σ (PV (fun σ1 => LW (scN S (tn (S 0)) (c * 9 ^ (tn (S 0) - one) + 9 ^ (tn (S 0) - one))) σ1 ∧ StT 58 (TT one c) σ1 ∧ OutB σ σ1))
theorem WRel.ob {S : Rw} {σ σ1 : Sg} (h : WRel 58 S σ) (g : OutB σ σ1) : WRel 58 S σ1 := h.frame (fun k a b c => g.1 k (by omega) c)
theorem WkT.ob {S : Rw} {n : Nat} {σ σ1 : Sg} (h : WkT S n σ) (g : OutB σ σ1) : WkT S n σ1 := fun p f hp hf => by rw [g.1 80 (by decide) (by decide)]; exact h p f hp hf
theorem WV_neg {S : Rw} (hI : Inv S) {p f : Nat} (hp : p < 8) (hf : f < 9) : WV S p f < 0 ↔ sMay S p f = false := by
  have h := wN_le hI hp hf
  unfold WV
  cases sMay S p f with
  | true => rw [if_pos rfl, h.1]; exact ⟨fun z => absurd z (nI_pos (by omega)), fun z => absurd z (by decide)⟩
  | false => rw [if_neg (by decide)]; exact ⟨fun _ => rfl, fun _ => by decide⟩
theorem pow9_le {k : Nat} (h : k ≤ 5) : 9 ^ k ≤ 59049 := by
  have := Nat.pow_le_pow_right (show 0 < 9 by decide) h
  have e : (9 : Nat) ^ 5 = 59049 := by decide
  omega
theorem p_N_placeOnEach (g : CX) (d : Nat) (hd : 5 ≤ d) (σ : Sg) (S : Rw) (hI : Inv S) (one c : Nat) (hon : one ≤ tn (S 0)) (hn5 : tn (S 0) ≤ 5) (hR : WRel 58 S σ) (hW : WkT S (tn (S 0)) σ) (hT : StT 58 (TT one c) σ) (hL : LW (scN S (tn (S 0)) (c * 9 ^ (tn (S 0) - one))) σ) (hpv : PVb S one c = true) (hc : c < 9 ^ one) (hlt : one < tn (S 0)) (ih0 : PlC S (one + 1)) (hdd : 2 * (tn (S 0) - one) + 3 ≤ d) : RunM g d N_placeOnEach [.ref 0, .int (nI one), .int (nI (SM S one c)), .int (nI c)] σ (PV (fun σ1 => LW (scN S (tn (S 0)) (c * 9 ^ (tn (S 0) - one) + 9 ^ (tn (S 0) - one))) σ1 ∧ StT 58 (TT one c) σ1 ∧ OutB σ σ1)) := by
  refine RunM.of 2 (by decide +kernel) rfl ?_
  intro κ hg hx hk0 G E
  subst hg
  have hk : 6 ≤ kn κ := Nat.le_of_eq hk0.symm
  show X κ NC 0 [some (.ref 0), some (.int (nI one)), some (.int (nI (SM S one c))), some (.int (nI c)), none, none] [] (hv σ)
  refine x_iconst (v := nI 0) G d_N_placeOnEach_0 rfl ?_
  refine x_istore4 G d_N_placeOnEach_1 rfl hk ?_
  have hloop : ∀ (m f : Nat) (σ1 : Sg) (y : Int32) (o5 : Option Value), f ≤ 9 → 9 < f + m → LW (scN S (tn (S 0)) ((c * 9 + f) * 9 ^ (tn (S 0) - one - 1))) σ1 → StT 58 (upd (TT one c) one y) σ1 → OutB σ σ1 → X κ NC 3 [some (.ref 0), some (.int (nI one)), some (.int (nI (SM S one c))), some (.int (nI c)), some (.int (nI f)), o5] [] (hv σ1) := by
    intro m
    induction m with
    | zero => intro f σ1 y o5 h1 h2; omega
    | succ m ih =>
      intro f σ1 y o5 hf1 hf2 hL1 hT1 hO1
      have hR1 := hR.ob hO1
      have hW1 := hW.ob hO1
      refine x_iload4 G d_N_placeOnEach_3 ?_
      refine x_bipush (v := nI 9) G d_N_placeOnEach_5 rfl ?_
      refine x_icmp_ge G d_N_placeOnEach_7 (fun c7 => ?_) (fun c7 => ?_)
      · have h9 : f = 9 := by rw [nle (by decide) (by omega)] at c7; omega
        subst h9
        refine x_aload0 G d_N_placeOnEach_77 ?_
        refine m_getr G d_N_placeOnEach_78 fl_N_50 rfl (by decide) rfl ?_
        refine m_getr G d_N_placeOnEach_81 fl_N_206 rfl (by decide) rfl ?_
        refine x_iload1 G d_N_placeOnEach_84 ?_
        refine x_iconst (v := (-1)) G d_N_placeOnEach_85 rfl ?_
        refine m_iast_n one G d_N_placeOnEach_86 rfl rfl ⟨by omega, by first | decide | omega⟩ (fun σ4 e4 => ?_)
        exact m_vret E G d_N_placeOnEach_87 hx rfl ⟨rfl, (by
                                        have e0 : σ4 0 = σ1 0 := by rw [e4, updS_nk (by decide)]
                                        rw [show c * 9 ^ (tn (S 0) - one) + 9 ^ (tn (S 0) - one) = (c * 9 + 9) * 9 ^ (tn (S 0) - one - 1) by rw [show c * 9 + 9 = (c + 1) * 9 by omega, Nat.mul_assoc, Nat.mul_comm 9, ← Nat.pow_succ, show (tn (S 0) - one - 1).succ = tn (S 0) - one by omega, Nat.add_mul, Nat.one_mul]]
                                        unfold LW at hL1 ⊢
                                        rw [e0]
                                        exact hL1), (fun i hi => by
                                        rw [e4]
                                        show updS σ1 71 one (-1) 71 i = _
                                        rw [updS_row]
                                        by_cases q : i = one
                                        · rw [q, pk_us, TT_ge one c one (Nat.le_refl _)]
                                        · rw [pk_un q]
                                          have := hT1 i hi
                                          rw [pk_un q] at this
                                          exact this), ⟨fun q a b => by rw [e4, updS_nk b]; exact hO1.1 q a b, fun j a b => by rw [e4, updS_nk (by decide)]; exact hO1.2 j a b⟩⟩
      · have hf9 : f < 9 := by rw [nle (by decide) (by omega)] at c7; omega
        have hwn := wN_le hI (p := one) (f := f) (by omega) hf9
        have hpw := pow9_le (k := one) (by omega)
        have hsm := SM_le hI one c (by omega)
        refine x_aload0 G d_N_placeOnEach_10 ?_
        refine m_getr G d_N_placeOnEach_11 fl_N_79 rfl (by decide) rfl ?_
        refine x_iload1 G d_N_placeOnEach_14 ?_
        refine x_bipush (v := nI 9) G d_N_placeOnEach_15 rfl ?_
        refine x_imul G d_N_placeOnEach_17 ?_
        rw [pk_mul]
        refine x_iload4 G d_N_placeOnEach_18 ?_
        refine x_iadd G d_N_placeOnEach_20 ?_
        rw [nI_add]
        refine m_iald (one * 9 + f) G d_N_placeOnEach_21 rfl rfl ⟨by omega, by first | decide | omega⟩ ?_
        rw [hW1 one f (by omega) hf9]
        refine x_istore5 G d_N_placeOnEach_22 rfl hk ?_
        refine x_iload5 G d_N_placeOnEach_24 ?_
        refine x_if_lt G d_N_placeOnEach_26 (fun c26 => ?_) (fun c26 => ?_)
        · have hmy := (WV_neg hI (by omega) hf9).mp c26
          refine x_iinc4 (v := nI (f + 1)) G d_N_placeOnEach_71 rfl hk (nI_1 _) ?_
          refine x_goto G d_N_placeOnEach_74 ?_
          have hsk : scN S (tn (S 0)) ((c * 9 + (f + 1)) * 9 ^ (tn (S 0) - one - 1)) = scN S (tn (S 0)) ((c * 9 + f) * 9 ^ (tn (S 0) - one - 1)) := by
            rw [show (c * 9 + (f + 1)) * 9 ^ (tn (S 0) - one - 1) = (c * 9 + f) * 9 ^ (tn (S 0) - one - 1) + 9 ^ (tn (S 0) - one - 1) by rw [← Nat.add_assoc, Nat.add_mul, Nat.one_mul]]
            refine sc_skip _ (fun m h1 h2 => Or.inl ?_)
            have hd9 := in_sub h1 h2
            cases hpm : PVb S (tn (S 0)) m with
            | false => rfl
            | true =>
              exfalso
              have q := PV_pre (S := S) (k := one + 1) (tn (S 0) - one - 1) m (by rw [show one + 1 + (tn (S 0) - one - 1) = tn (S 0) by omega]; exact hpm)
              rw [hd9, PV_next hf9, hmy, Bool.false_and, Bool.and_false] at q
              exact absurd q (by simp)
          exact ih (f + 1) σ1 y _ (by omega) (by omega) (by rw [hsk]; exact hL1) hT1 hO1
        · have hmy : sMay S one f = true := by
            cases q : sMay S one f with
            | true => rfl
            | false => exact absurd ((WV_neg hI (by omega) hf9).mpr q) c26
          refine x_aload0 G d_N_placeOnEach_29 ?_
          refine m_getr G d_N_placeOnEach_30 fl_N_50 rfl (by decide) rfl ?_
          refine x_iload1 G d_N_placeOnEach_33 ?_
          refine x_iload4 G d_N_placeOnEach_34 ?_
          refine m_callV_pi (p_Wo_hasRoom (kg κ) (d - 1) (by omega) σ1 58 hw58 S hR1 hI _ hT1 one f (by omega) hf9) G d_N_placeOnEach_36 lk_N_203 rfl ⟨by decide, rfl⟩ (by decide) (by omega) rfl (Nat.le_of_ble_eq_true rfl) hx ?_
          rw [sFree_upd]
          refine x_if_eq G d_N_placeOnEach_39 (fun c39 => ?_) (fun c39 => ?_)
          · have hfr := bI_0.mp c39
            refine x_iinc4 (v := nI (f + 1)) G d_N_placeOnEach_71 rfl hk (nI_1 _) ?_
            refine x_goto G d_N_placeOnEach_74 ?_
            have hsk : scN S (tn (S 0)) ((c * 9 + (f + 1)) * 9 ^ (tn (S 0) - one - 1)) = scN S (tn (S 0)) ((c * 9 + f) * 9 ^ (tn (S 0) - one - 1)) := by
              rw [show (c * 9 + (f + 1)) * 9 ^ (tn (S 0) - one - 1) = (c * 9 + f) * 9 ^ (tn (S 0) - one - 1) + 9 ^ (tn (S 0) - one - 1) by rw [← Nat.add_assoc, Nat.add_mul, Nat.one_mul]]
              refine sc_skip _ (fun m h1 h2 => Or.inl ?_)
              have hd9 := in_sub h1 h2
              cases hpm : PVb S (tn (S 0)) m with
              | false => rfl
              | true =>
                exfalso
                have q := PV_pre (S := S) (k := one + 1) (tn (S 0) - one - 1) m (by rw [show one + 1 + (tn (S 0) - one - 1) = tn (S 0) by omega]; exact hpm)
                rw [hd9, PV_next hf9, hfr, Bool.and_false, Bool.and_false] at q
                exact absurd q (by simp)
            exact ih (f + 1) σ1 y _ (by omega) (by omega) (by rw [hsk]; exact hL1) hT1 hO1
          · have hfr := bI_n0.mp c39
            refine x_aload0 G d_N_placeOnEach_42 ?_
            refine m_getr G d_N_placeOnEach_43 fl_N_50 rfl (by decide) rfl ?_
            refine m_getr G d_N_placeOnEach_46 fl_N_206 rfl (by decide) rfl ?_
            refine x_iload1 G d_N_placeOnEach_49 ?_
            refine x_iload4 G d_N_placeOnEach_50 ?_
            refine m_iast_n one G d_N_placeOnEach_52 rfl rfl ⟨by omega, by first | decide | omega⟩ (fun σ2 e2 => ?_)
            have hO2 : OutB σ σ2 := ⟨fun q a b => by rw [e2, updS_nk b]; exact hO1.1 q a b, fun j a b => by rw [e2, updS_nk (by decide)]; exact hO1.2 j a b⟩
            have hT2 : StT 58 (TT (one + 1) (c * 9 + f)) σ2 := by
              intro i hi
              rw [e2, TT_next hf9]
              show updS σ1 71 one (nI f) 71 i = _
              rw [updS_row]
              by_cases q : i = one
              · rw [q, pk_us, pk_us]
              · rw [pk_un q, pk_un q]
                have := hT1 i hi
                rw [pk_un q] at this
                exact this
            have hL2 : LW (scN S (tn (S 0)) ((c * 9 + f) * 9 ^ (tn (S 0) - (one + 1)))) σ2 := by
              rw [show tn (S 0) - (one + 1) = tn (S 0) - one - 1 by omega]
              have e0 : σ2 0 = σ1 0 := by rw [e2, updS_nk (by decide)]
              unfold LW at hL1 ⊢
              rw [e0]
              exact hL1
            refine x_aload0 G d_N_placeOnEach_53 ?_
            refine x_iload1 G d_N_placeOnEach_54 ?_
            refine x_iconst (v := nI 1) G d_N_placeOnEach_55 rfl ?_
            refine x_iadd G d_N_placeOnEach_56 ?_
            rw [show nI one + nI 1 = nI (one + 1) from nI_1 _]
            refine x_iload2 G d_N_placeOnEach_57 ?_
            refine x_iload5 G d_N_placeOnEach_58 ?_
            refine x_iadd G d_N_placeOnEach_60 ?_
            rw [show WV S one f = nI (wN S one f) by unfold WV; rw [if_pos hmy]; exact hwn.1, nI_add, ← SM_next hf9]
            refine x_iload3 G d_N_placeOnEach_61 ?_
            refine x_bipush (v := nI 9) G d_N_placeOnEach_62 rfl ?_
            refine x_imul G d_N_placeOnEach_64 ?_
            rw [pk_mul]
            refine x_iload4 G d_N_placeOnEach_65 ?_
            refine x_iadd G d_N_placeOnEach_67 ?_
            rw [nI_add]
            refine m_callV_pv (ih0 (kg κ) (d - 1) σ2 (c * 9 + f) (by omega) (hR.ob hO2) (hW.ob hO2) hT2 hL2 (by rw [PV_next hf9, hpv, hmy, hfr]; rfl) (by rw [Nat.pow_succ]; omega)) G d_N_placeOnEach_68 lk_N_196 rfl ⟨by decide, rfl⟩ (by decide) (by omega) rfl (Nat.le_of_ble_eq_true rfl) hx (fun σ3 ⟨a1, a2, a3⟩ => ?_)
            have hO3 := hO2.trans a3
            rw [show tn (S 0) - (one + 1) = tn (S 0) - one - 1 by omega] at a1
            refine x_iinc4 (v := nI (f + 1)) G d_N_placeOnEach_71 rfl hk (nI_1 _) ?_
            refine x_goto G d_N_placeOnEach_74 ?_
            exact ih (f + 1) σ3 (nI f) _ (by omega) (by omega) (by rw [show (c * 9 + (f + 1)) * 9 ^ (tn (S 0) - one - 1) = (c * 9 + f) * 9 ^ (tn (S 0) - one - 1) + 9 ^ (tn (S 0) - one - 1) by rw [← Nat.add_assoc, Nat.add_mul, Nat.one_mul]]; exact a1) (by rw [← TT_next hf9]; exact a2) hO3
  exact hloop 10 0 σ (-1) none (by decide) (by decide) (by rw [Nat.add_zero, Nat.mul_assoc, Nat.mul_comm 9, ← Nat.pow_succ, show (tn (S 0) - one - 1).succ = tn (S 0) - one by omega]; exact hL) (by rw [show upd (TT one c) one (-1) = TT one c from upd_self (TT_ge one c one (Nat.le_refl _))]; exact hT) OutB.refl
theorem p_N_place (g : CX) (d : Nat) (hd : 4 ≤ d) (σ : Sg) (S : Rw) (hI : Inv S) (one c : Nat) (hon : one ≤ tn (S 0)) (hn5 : tn (S 0) ≤ 5) (hR : WRel 58 S σ) (hW : WkT S (tn (S 0)) σ) (hT : StT 58 (TT one c) σ) (hL : LW (scN S (tn (S 0)) (c * 9 ^ (tn (S 0) - one))) σ) (hpv : PVb S one c = true) (hc : c < 9 ^ one) (ihn : one < tn (S 0) → PlC S (one + 1)) (hdd : 2 * (tn (S 0) - one) + 4 ≤ d) : RunM g d N_place [.ref 0, .int (nI one), .int (nI (SM S one c)), .int (nI c)] σ (PV (fun σ1 => LW (scN S (tn (S 0)) (c * 9 ^ (tn (S 0) - one) + 9 ^ (tn (S 0) - one))) σ1 ∧ StT 58 (TT one c) σ1 ∧ OutB σ σ1)) := by
  refine RunM.of 0 (by decide +kernel) rfl ?_
  intro κ hg hx hk0 G E
  subst hg
  have hk : 4 ≤ kn κ := Nat.le_of_eq hk0.symm
  show X κ NC 0 [some (.ref 0), some (.int (nI one)), some (.int (nI (SM S one c))), some (.int (nI c))] [] (hv σ)
  have hpw := pow9_le (k := one) (by omega)
  have hsm := SM_le hI one c (by omega)
  have hcase : scN S (tn (S 0)) (c * 9 ^ (tn (S 0) - one)) = none ∨ (∃ x, scN S (tn (S 0)) (c * 9 ^ (tn (S 0) - one)) = some x ∧ SM S one c < x.1) ∨ ∃ x, scN S (tn (S 0)) (c * 9 ^ (tn (S 0) - one)) = some x ∧ ¬ SM S one c < x.1 := by
    cases scN S (tn (S 0)) (c * 9 ^ (tn (S 0) - one)) with
    | none => exact Or.inl rfl
    | some x =>
      by_cases q : SM S one c < x.1
      · exact Or.inr (Or.inl ⟨x, rfl, q⟩)
      · exact Or.inr (Or.inr ⟨x, rfl, q⟩)
  rcases hcase with hsc | ⟨x, hsc, hlt2⟩ | ⟨x, hsc, hlt2⟩
  · have h13 : σ 0 13 = -1 := by rw [hsc] at hL; exact hL
    refine x_aload0 G d_N_place_0 ?_
    refine m_geti G d_N_place_1 fl_N_90 rfl (by decide) rfl ?_
    rw [h13]
    refine x_if_lt G d_N_place_4 (fun c4 => ?_) (fun c4 => absurd ((by decide)) c4)
    refine x_iload1 G d_N_place_16 ?_
    refine x_aload0 G d_N_place_17 ?_
    refine m_getr G d_N_place_18 fl_N_50 rfl (by decide) rfl ?_
    refine m_geti G d_N_place_21 fl_N_153 rfl (by decide) rfl ?_
    rw [show σ 58 7 = nI (tn (S 0)) by rw [hR.n]; exact hI.n.1]
    refine x_icmp_ge G d_N_place_24 (fun c24 => ?_) (fun c24 => ?_)
    · have hone : one = tn (S 0) := by rw [nle (by omega) (by omega)] at c24; omega
      refine x_aload0 G d_N_place_32 ?_
      refine x_iload2 G d_N_place_33 ?_
      refine m_puti_n G d_N_place_34 fl_N_90 rfl (by decide) rfl rfl rfl (fun σ1 e1 => ?_)
      refine x_aload0 G d_N_place_37 ?_
      refine x_iload3 G d_N_place_38 ?_
      refine m_puti_n G d_N_place_39 fl_N_93 rfl (by decide) rfl rfl rfl (fun σ2 e2 => ?_)
      exact m_vret E G d_N_place_42 hx rfl ⟨rfl, (by
                                        rw [show c * 9 ^ (tn (S 0) - one) = c by rw [hone, Nat.sub_self, Nat.pow_zero, Nat.mul_one]] at hsc ⊢
                                        rw [show 9 ^ (tn (S 0) - one) = 1 by rw [hone, Nat.sub_self, Nat.pow_zero]]
                                        show LW (if (PVb S (tn (S 0)) c && ltO (SM S (tn (S 0)) c) (scN S (tn (S 0)) c)) = true then some (SM S (tn (S 0)) c, c) else scN S (tn (S 0)) c) σ2
                                        rw [← hone] at hsc ⊢
                                        rw [hpv, hsc, show ltO (SM S one c) none = true from rfl, if_pos (by decide)]
                                        exact ⟨by rw [e2, updS_ne (by decide), e1, updS_at], by rw [e2, updS_at]⟩), (hT.ne (by rw [e2, updS_nk (by decide), e1, updS_nk (by decide)])), ⟨fun q a b => by rw [e2, updS_nk a, e1, updS_nk a], fun j a b => by rw [e2, updS_ne (by omega), e1, updS_ne (by omega)]⟩⟩
    · have hone : one < tn (S 0) := by rw [nle (by omega) (by omega)] at c24; omega
      refine x_iload1 G d_N_place_27 ?_
      refine x_iconst (v := nI 5) G d_N_place_28 rfl ?_
      refine x_icmp_lt G d_N_place_29 (fun c29 => ?_) (fun c29 => absurd ((nI_lt (by omega) (by decide))) c29)
      refine x_aload0 G d_N_place_43 ?_
      refine x_iload1 G d_N_place_44 ?_
      refine x_iload2 G d_N_place_45 ?_
      refine x_iload3 G d_N_place_46 ?_
      refine m_callV_pv (p_N_placeOnEach (kg κ) (d - 1) (by omega) σ S hI one c hon hn5 hR hW hT hL hpv hc hone (ihn hone) (by omega)) G d_N_place_47 lk_N_200 rfl ⟨by decide, rfl⟩ (by decide) (by omega) rfl (Nat.le_of_ble_eq_true rfl) hx (fun σ3 h3 => ?_)
      exact m_vret E G d_N_place_50 hx rfl ⟨rfl, h3⟩
  · have hL2 : σ 0 13 = nI x.1 ∧ σ 0 14 = nI x.2 := by rw [hsc] at hL; exact hL
    have hx9 := (sc_bound hI hn5 _ x hsc).1
    refine x_aload0 G d_N_place_0 ?_
    refine m_geti G d_N_place_1 fl_N_90 rfl (by decide) rfl ?_
    rw [hL2.1]
    refine x_if_lt G d_N_place_4 (fun c4 => absurd c4 ((nI_pos (by omega)))) (fun c4 => ?_)
    refine x_iload2 G d_N_place_7 ?_
    refine x_aload0 G d_N_place_8 ?_
    refine m_geti G d_N_place_9 fl_N_90 rfl (by decide) rfl ?_
    rw [hL2.1]
    refine x_icmp_lt G d_N_place_12 (fun c12 => ?_) (fun c12 => absurd ((nI_lt hlt2 (by omega))) c12)
    refine x_iload1 G d_N_place_16 ?_
    refine x_aload0 G d_N_place_17 ?_
    refine m_getr G d_N_place_18 fl_N_50 rfl (by decide) rfl ?_
    refine m_geti G d_N_place_21 fl_N_153 rfl (by decide) rfl ?_
    rw [show σ 58 7 = nI (tn (S 0)) by rw [hR.n]; exact hI.n.1]
    refine x_icmp_ge G d_N_place_24 (fun c24 => ?_) (fun c24 => ?_)
    · have hone : one = tn (S 0) := by rw [nle (by omega) (by omega)] at c24; omega
      refine x_aload0 G d_N_place_32 ?_
      refine x_iload2 G d_N_place_33 ?_
      refine m_puti_n G d_N_place_34 fl_N_90 rfl (by decide) rfl rfl rfl (fun σ1 e1 => ?_)
      refine x_aload0 G d_N_place_37 ?_
      refine x_iload3 G d_N_place_38 ?_
      refine m_puti_n G d_N_place_39 fl_N_93 rfl (by decide) rfl rfl rfl (fun σ2 e2 => ?_)
      exact m_vret E G d_N_place_42 hx rfl ⟨rfl, (by
                                        rw [show c * 9 ^ (tn (S 0) - one) = c by rw [hone, Nat.sub_self, Nat.pow_zero, Nat.mul_one]] at hsc ⊢
                                        rw [show 9 ^ (tn (S 0) - one) = 1 by rw [hone, Nat.sub_self, Nat.pow_zero]]
                                        show LW (if (PVb S (tn (S 0)) c && ltO (SM S (tn (S 0)) c) (scN S (tn (S 0)) c)) = true then some (SM S (tn (S 0)) c, c) else scN S (tn (S 0)) c) σ2
                                        rw [← hone] at hsc ⊢
                                        rw [hpv, hsc, show ltO (SM S one c) (some x) = true from decide_eq_true hlt2, if_pos (by decide)]
                                        exact ⟨by rw [e2, updS_ne (by decide), e1, updS_at], by rw [e2, updS_at]⟩), (hT.ne (by rw [e2, updS_nk (by decide), e1, updS_nk (by decide)])), ⟨fun q a b => by rw [e2, updS_nk a, e1, updS_nk a], fun j a b => by rw [e2, updS_ne (by omega), e1, updS_ne (by omega)]⟩⟩
    · have hone : one < tn (S 0) := by rw [nle (by omega) (by omega)] at c24; omega
      refine x_iload1 G d_N_place_27 ?_
      refine x_iconst (v := nI 5) G d_N_place_28 rfl ?_
      refine x_icmp_lt G d_N_place_29 (fun c29 => ?_) (fun c29 => absurd ((nI_lt (by omega) (by decide))) c29)
      refine x_aload0 G d_N_place_43 ?_
      refine x_iload1 G d_N_place_44 ?_
      refine x_iload2 G d_N_place_45 ?_
      refine x_iload3 G d_N_place_46 ?_
      refine m_callV_pv (p_N_placeOnEach (kg κ) (d - 1) (by omega) σ S hI one c hon hn5 hR hW hT hL hpv hc hone (ihn hone) (by omega)) G d_N_place_47 lk_N_200 rfl ⟨by decide, rfl⟩ (by decide) (by omega) rfl (Nat.le_of_ble_eq_true rfl) hx (fun σ3 h3 => ?_)
      exact m_vret E G d_N_place_50 hx rfl ⟨rfl, h3⟩
  · have hL2 : σ 0 13 = nI x.1 ∧ σ 0 14 = nI x.2 := by rw [hsc] at hL; exact hL
    have hx9 := (sc_bound hI hn5 _ x hsc).1
    refine x_aload0 G d_N_place_0 ?_
    refine m_geti G d_N_place_1 fl_N_90 rfl (by decide) rfl ?_
    rw [hL2.1]
    refine x_if_lt G d_N_place_4 (fun c4 => absurd c4 ((nI_pos (by omega)))) (fun c4 => ?_)
    refine x_iload2 G d_N_place_7 ?_
    refine x_aload0 G d_N_place_8 ?_
    refine m_geti G d_N_place_9 fl_N_90 rfl (by decide) rfl ?_
    rw [hL2.1]
    refine x_icmp_lt G d_N_place_12 (fun c12 => absurd c12 ((nI_nlt (by omega) (by omega)))) (fun c12 => ?_)
    exact m_vret E G d_N_place_15 hx rfl ⟨rfl, (by
                                        rw [sc_skip _ (fun m h1 h2 => Or.inr ?_)]
                                        · exact hL
                                        · rw [hsc]
                                          have hd9 := in_sub h1 h2
                                          have q := SM_pre (S := S) (k := one) (tn (S 0) - one) m
                                          rw [hd9, show one + (tn (S 0) - one) = tn (S 0) by omega] at q
                                          exact decide_eq_false (by omega)), hT, OutB.refl⟩
theorem place_all {S : Rw} (hI : Inv S) (hn5 : tn (S 0) ≤ 5) : ∀ j one, one + j = tn (S 0) → PlC S one
  | 0, one, h => fun g d σ c h1 h2 h3 h4 h5 h6 h7 => p_N_place g d (by omega) σ S hI one c (by omega) hn5 h2 h3 h4 h5 h6 h7 (fun z => by omega) h1
  | j + 1, one, h => fun g d σ c h1 h2 h3 h4 h5 h6 h7 => p_N_place g d (by omega) σ S hI one c (by omega) hn5 h2 h3 h4 h5 h6 h7 (fun _ => place_all hI hn5 j (one + 1) (by omega)) h1
theorem p_N_measureWalks (g : CX) (d : Nat) (hd : 4 ≤ d) (σ : Sg) (S : Rw) (hI : Inv S) (hL : LRel S σ) (hn5 : tn (S 0) ≤ 5) (hR : WRel 58 S σ) : RunM g d N_measureWalks [.ref 0] σ (PV (fun σ1 => WkT S (tn (S 0)) σ1 ∧ ∀ q, q ≠ 80 → q ≠ 27 → σ1 q = σ q)) := by
  refine RunM.of 2 (by decide +kernel) rfl ?_
  intro κ hg hx hk0 G E
  subst hg
  have hk : 3 ≤ kn κ := Nat.le_of_eq hk0.symm
  show X κ NC 0 [some (.ref 0), none, none] [] (hv σ)
  refine x_iconst (v := nI 0) G d_N_measureWalks_0 rfl ?_
  refine x_istore1 G d_N_measureWalks_1 rfl hk ?_
  have hloop : ∀ (m p : Nat) (σ1 : Sg) (o2 : Option Value), p ≤ tn (S 0) → tn (S 0) < p + m → WkT S p σ1 → (∀ q, q ≠ 80 → q ≠ 27 → σ1 q = σ q) → X κ NC 2 [some (.ref 0), some (.int (nI p)), o2] [] (hv σ1) := by
    intro m
    induction m with
    | zero => intro p σ1 o2 h1 h2; omega
    | succ m ih =>
      intro p σ1 o2 hp1 hp2 hW1 hG1
      refine x_iload1 G d_N_measureWalks_2 ?_
      refine x_aload0 G d_N_measureWalks_3 ?_
      refine m_getr G d_N_measureWalks_4 fl_N_50 rfl (by decide) rfl ?_
      refine m_geti G d_N_measureWalks_7 fl_N_153 rfl (by decide) rfl ?_
      rw [show σ1 58 7 = nI (tn (S 0)) by rw [hG1 58 (by decide) (by decide), hR.n]; exact hI.n.1]
      refine x_icmp_ge G d_N_measureWalks_10 (fun c10 => ?_) (fun c10 => ?_)
      · have hpn : p = tn (S 0) := by rw [nle (by omega) (by omega)] at c10; omega
        exact m_vret E G d_N_measureWalks_74 hx rfl ⟨rfl, (by rw [← hpn]; exact hW1), hG1⟩
      · have hpn : p < tn (S 0) := by rw [nle (by omega) (by omega)] at c10; omega
        refine x_iload1 G d_N_measureWalks_13 ?_
        refine x_iconst (v := nI 5) G d_N_measureWalks_14 rfl ?_
        refine x_icmp_ge G d_N_measureWalks_15 (fun c15 => absurd c15 ((nI_ge (by omega) (by decide)))) (fun c15 => ?_)
        refine x_iconst (v := nI 0) G d_N_measureWalks_18 rfl ?_
        refine x_istore2 G d_N_measureWalks_19 rfl hk ?_
        have hloop2 : ∀ (m2 f : Nat) (σ2 : Sg), f ≤ 9 → 9 < f + m2 → WkT S p σ2 → (∀ f', f' < f → σ2 80 (p * 9 + f') = WV S p f') → (∀ q, q ≠ 80 → q ≠ 27 → σ2 q = σ q) → X κ NC 20 [some (.ref 0), some (.int (nI p)), some (.int (nI f))] [] (hv σ2) := by
          intro m2
          induction m2 with
          | zero => intro f σ2 h1 h2; omega
          | succ m2 ih2 =>
            intro f σ2 hf1 hf2 hW2 hF2 hG2
            have hR2 : WRel 58 S σ2 := hR.frame (fun k a b _ => hG2 k (by omega) (by omega))
            have hL2 : LRel S σ2 := fun t ht => by
              have h14 := hI.2.1.2
              rw [hG2 24 (by decide) (by decide), hG2 25 (by decide) (by decide), hG2 26 (by decide) (by decide), hG2 (10 + t) (by omega) (by omega)]
              exact hL t ht
            refine x_iload2 G d_N_measureWalks_20 ?_
            refine x_bipush (v := nI 9) G d_N_measureWalks_21 rfl ?_
            refine x_icmp_ge G d_N_measureWalks_23 (fun c23 => ?_) (fun c23 => ?_)
            · have hf9 : f = 9 := by rw [nle (by decide) (by omega)] at c23; omega
              refine x_iinc1 (v := nI (p + 1)) G d_N_measureWalks_68 rfl hk (nI_1 _) ?_
              refine x_goto G d_N_measureWalks_71 ?_
              exact ih (p + 1) σ2 _ (by omega) (by omega) (fun p' f' a b => if q : p' = p then (by rw [q]; exact hF2 f' (by omega)) else hW2 p' f' (by omega) b) hG2
            · have hf9 : f < 9 := by rw [nle (by decide) (by omega)] at c23; omega
              refine x_aload0 G d_N_measureWalks_26 ?_
              refine m_getr G d_N_measureWalks_27 fl_N_79 rfl (by decide) rfl ?_
              refine x_iload1 G d_N_measureWalks_30 ?_
              refine x_bipush (v := nI 9) G d_N_measureWalks_31 rfl ?_
              refine x_imul G d_N_measureWalks_33 ?_
              rw [pk_mul]
              refine x_iload2 G d_N_measureWalks_34 ?_
              refine x_iadd G d_N_measureWalks_35 ?_
              rw [nI_add]
              refine x_aload0 G d_N_measureWalks_36 ?_
              refine m_getr G d_N_measureWalks_37 fl_N_50 rfl (by decide) rfl ?_
              refine x_iload1 G d_N_measureWalks_40 ?_
              refine x_iload2 G d_N_measureWalks_41 ?_
              refine m_callV_pi (p_Wo_mayStand (kg κ) (d - 1) (by omega) σ2 58 hw58 S hR2 hI p f (by omega) hf9) G d_N_measureWalks_42 lk_N_123 rfl ⟨by decide, rfl⟩ (by decide) (by omega) rfl (Nat.le_of_ble_eq_true rfl) hx ?_
              refine x_if_eq G d_N_measureWalks_45 (fun c45 => ?_) (fun c45 => ?_)
              · have hmy := bI_0.mp c45
                refine x_iconst (v := (-1)) G d_N_measureWalks_60 rfl ?_
                refine m_iast_n (p * 9 + f) G d_N_measureWalks_61 rfl rfl ⟨by omega, by first | decide | omega⟩ (fun σ4 e4 => ?_)
                refine x_iinc2 (v := nI (f + 1)) G d_N_measureWalks_62 rfl hk (nI_1 _) ?_
                refine x_goto G d_N_measureWalks_65 ?_
                exact ih2 (f + 1) σ4 (by omega) (by omega) (fun p' f' a b => by rw [e4, updS_ne (by omega)]; exact hW2 p' f' a b) (fun f' hf' => by
                  rw [e4, updS_row]
                  by_cases q : f' = f
                  · rw [q, pk_us]; unfold WV; rw [if_neg (by rw [hmy]; decide)]
                  · rw [pk_un (by omega)]; exact hF2 f' (by omega)) (fun q a b => by rw [e4, updS_nk a]; exact hG2 q a b)
              · have hmy := bI_n0.mp c45
                refine x_aload0 G d_N_measureWalks_48 ?_
                refine m_getr G d_N_measureWalks_49 fl_N_50 rfl (by decide) rfl ?_
                refine x_iload1 G d_N_measureWalks_52 ?_
                refine x_iload2 G d_N_measureWalks_53 ?_
                refine m_callV_pr (p_Wo_walkOf (kg κ) (d - 1) (by omega) σ2 58 hw58 S hR2 hI hL2 p f (by omega) hf9) G d_N_measureWalks_54 lk_N_119 rfl ⟨by decide, rfl⟩ (by decide) (by omega) rfl (Nat.le_of_ble_eq_true rfl) hx (fun v3 σ3 ⟨g1, g2⟩ => ?_)
                refine x_goto G d_N_measureWalks_57 ?_
                refine m_iast_n (p * 9 + f) G d_N_measureWalks_61 rfl rfl ⟨by omega, by first | decide | omega⟩ (fun σ4 e4 => ?_)
                refine x_iinc2 (v := nI (f + 1)) G d_N_measureWalks_62 rfl hk (nI_1 _) ?_
                refine x_goto G d_N_measureWalks_65 ?_
                exact ih2 (f + 1) σ4 (by omega) (by omega) (fun p' f' a b => by rw [e4, updS_ne (by omega), g2 80 (by decide)]; exact hW2 p' f' a b) (fun f' hf' => by
                  rw [e4, updS_row]
                  by_cases q : f' = f
                  · rw [q, pk_us]; unfold WV; rw [if_pos hmy]; exact g1
                  · rw [pk_un (by omega), g2 80 (by decide)]; exact hF2 f' (by omega)) (fun q a b => by rw [e4, updS_nk a, g2 q b]; exact hG2 q a b)
        exact hloop2 10 0 σ1 (by decide) (by decide) hW1 (fun f' hf' => absurd hf' (Nat.not_lt_zero f')) hG1
  exact hloop (tn (S 0) + 1) 0 σ none (Nat.zero_le _) (by omega) (fun p f hp _ => absurd hp (Nat.not_lt_zero p)) (fun _ _ _ => rfl)
theorem p_N_best (g : CX) (d : Nat) (hd : 20 ≤ d) (σ : Sg) (S : Rw) (hO : CO S σ) (what : Int32) : RunM g d N_best [.ref 0, .int what] σ (PR (RC (fBest S what) σ)) := by
  refine RunM.of 0 (by decide +kernel) rfl ?_
  intro κ hg hx hk0 G E
  subst hg
  have hk : 2 ≤ kn κ := Nat.le_of_eq hk0.symm
  show X κ NC 0 [some (.ref 0), some (.int what)] [] (hv σ)
  obtain ⟨hR, hL, hI, hJ, h9⟩ := hO
  have hn8 := hI.n
  refine x_iload1 G d_N_best_0 ?_
  refine x_iconst (v := nI 1) G d_N_best_1 rfl ?_
  refine m_callS_pi (p_N_isUpTo (kg κ) (d - 1) (Nat.zero_le _) _ _ _) G d_N_best_2 lk_N_98 (by omega) rfl (Nat.le_of_ble_eq_true rfl) hx ?_
  refine x_if_ne G d_N_best_5 (fun c5 => ?_) (fun c5 => ?_)
  · replace c5 := bI_n0.mp c5
    refine x_aload0 G d_N_best_11 ?_
    refine m_getr G d_N_best_12 fl_N_43 rfl (by decide) rfl ?_
    refine m_geti G d_N_best_15 fl_N_153 rfl (by decide) rfl ?_
    rw [show σ 28 7 = nI (tn (S 0)) by rw [hR.n]; exact hn8.1]
    refine x_iconst (v := nI 1) G d_N_best_18 rfl ?_
    refine x_icmp_lt G d_N_best_19 (fun c19 => ?_) (fun c19 => ?_)
    · have h1 : ¬ (1 ≤ tn (S 0) ∧ tn (S 0) ≤ 5) := by rw [nlt (by omega) (by decide)] at c19; omega
      refine x_ldc G d_N_best_33 kc_N_185 ?_
      exact m_iret E G d_N_best_35 hx rfl rfl ⟨_, rfl, RC.same hR (by simp only [fBest, c5, Bool.and_true, Bool.true_and, Bool.and_false, Bool.false_and, Bool.or_true, Bool.true_or, Bool.or_false, Bool.false_or, Bool.not_true, Bool.not_false, Bool.false_eq_true, decide_true, decide_false, if_true, if_false, if_neg h1])⟩
    · have h1 : 1 ≤ tn (S 0) := by rw [nlt (by omega) (by decide)] at c19; omega
      refine x_aload0 G d_N_best_22 ?_
      refine m_getr G d_N_best_23 fl_N_43 rfl (by decide) rfl ?_
      refine m_geti G d_N_best_26 fl_N_153 rfl (by decide) rfl ?_
      rw [show σ 28 7 = nI (tn (S 0)) by rw [hR.n]; exact hn8.1]
      refine x_iconst (v := nI 5) G d_N_best_29 rfl ?_
      refine x_icmp_le G d_N_best_30 (fun c30 => ?_) (fun c30 => ?_)
      · have h5 : tn (S 0) ≤ 5 := (nle (by omega) (by decide)).mp c30
        have hlo : (1 ≤ tn (S 0) ∧ tn (S 0) ≤ 5) := ⟨h1, h5⟩
        refine x_aload0 G d_N_best_36 ?_
        refine m_getr G d_N_best_37 fl_N_50 rfl (by decide) rfl ?_
        refine x_aload0 G d_N_best_40 ?_
        refine m_getr G d_N_best_41 fl_N_43 rfl (by decide) rfl ?_
        refine m_callV_pv (p_Wo_become (kg κ) (d - 1) (by omega) σ 58 28 hw58 hw28 (by decide) S hR) G d_N_best_44 lk_N_186 rfl ⟨by decide, rfl⟩ (by decide) (by omega) rfl (Nat.le_of_ble_eq_true rfl) hx (fun σ1 ⟨b1, b2⟩ => ?_)
        refine x_aload0 G d_N_best_47 ?_
        refine m_getr G d_N_best_48 fl_N_50 rfl (by decide) rfl ?_
        refine m_callV_pv (p_Wo_standNowhere (kg κ) (d - 1) (by omega) σ1 58 hw58) G d_N_best_51 lk_N_190 rfl ⟨by decide, rfl⟩ (by decide) (by omega) rfl (Nat.le_of_ble_eq_true rfl) hx (fun σ2 ⟨t1, t2⟩ => ?_)
        have hL2 : LRel S σ2 := fun t ht => by
          have h14 := hI.2.1.2
          have q : ∀ k, k < 27 → σ2 k = σ k := fun k hk => by rw [t2 k (by omega), b2 k (by omega) (by omega)]
          rw [q 24 (by decide), q 25 (by decide), q 26 (by decide), q (10 + t) (by omega)]
          exact hL t ht
        have hR2 : WRel 58 S σ2 := b1.frame (fun k a b c => t2 k c)
        refine x_aload0 G d_N_best_54 ?_
        refine m_callV_pv (p_N_measureWalks (kg κ) (d - 1) (by omega) σ2 S hI hL2 h5 hR2) G d_N_best_55 lk_N_193 rfl ⟨by decide, rfl⟩ (by decide) (by omega) rfl (Nat.le_of_ble_eq_true rfl) hx (fun σ3 ⟨m1, m2⟩ => ?_)
        refine x_aload0 G d_N_best_58 ?_
        refine x_iconst (v := (-1)) G d_N_best_59 rfl ?_
        refine m_puti_n G d_N_best_60 fl_N_90 rfl (by decide) rfl rfl rfl (fun σ4 e4 => ?_)
        have hR4 : WRel 58 S σ4 := hR2.frame (fun k a b c => by rw [e4, updS_nk (by omega), m2 k (by omega) (by omega)])
        have hW4 : WkT S (tn (S 0)) σ4 := fun p f a b => by rw [e4, updS_nk (by decide)]; exact m1 p f a b
        have hT4 : StT 58 (TT 0 0) σ4 := t1.ne (by rw [e4, updS_nk (by decide), m2 _ (by decide) (by decide)])
        refine x_aload0 G d_N_best_63 ?_
        refine x_iconst (v := nI 0) G d_N_best_64 rfl ?_
        refine x_iconst (v := nI 0) G d_N_best_65 rfl ?_
        refine x_iconst (v := nI 0) G d_N_best_66 rfl ?_
        refine m_callV_pv (place_all hI h5 (tn (S 0)) 0 (Nat.zero_add _) (kg κ) (d - 1) σ4 0 (by omega) hR4 hW4 hT4 (by rw [Nat.zero_mul]; show σ4 0 13 = -1; rw [e4, updS_at]) rfl (by decide)) G d_N_best_67 lk_N_196 rfl ⟨by decide, rfl⟩ (by decide) (by omega) rfl (Nat.le_of_ble_eq_true rfl) hx (fun σ5 ⟨p1, p2, p3⟩ => ?_)
        rw [Nat.zero_mul, Nat.zero_add, Nat.sub_zero] at p1
        have hx5 : ∀ q, q ≠ 0 → (q < 58 ∨ 73 ≤ q) → q ≠ 27 → q ≠ 80 → σ5 q = σ q := fun q a b c dd => by rw [p3.1 q a (by omega), e4, updS_nk a, m2 q dd c, t2 q (by omega), b2 q (by omega) c]
        have hR6 : WRel 28 S σ5 := hR.frame (fun k a b _ => hx5 k (by omega) (by omega) (by omega) (by omega))
        have hO6 : OutC σ σ5 := ⟨fun k a b c dd e2 f2 => hx5 k a c dd f2, fun j a b => by rw [p3.2 j a b, e4, updS_ne (by omega), m2 0 (by decide) (by decide), t2 0 (by decide), b2 0 (by decide) (by decide)]⟩
        refine x_aload0 G d_N_best_70 ?_
        have hcase : scN S (tn (S 0)) (9 ^ tn (S 0)) = none ∨ ∃ x, scN S (tn (S 0)) (9 ^ tn (S 0)) = some x := by
          cases scN S (tn (S 0)) (9 ^ tn (S 0)) with
          | none => exact Or.inl rfl
          | some x => exact Or.inr ⟨x, rfl⟩
        rcases hcase with hsc | ⟨x, hsc⟩
        · rw [hsc] at p1
          have p1 : σ5 0 13 = -1 := p1
          refine m_geti G d_N_best_71 fl_N_90 rfl (by decide) rfl ?_
          rw [p1]
          refine x_if_ge G d_N_best_74 (fun c74 => absurd c74 ((by decide))) (fun c74 => ?_)
          refine x_ldc G d_N_best_77 kc_N_185 ?_
          exact m_iret E G d_N_best_79 hx rfl rfl ⟨_, rfl, RC.mk' (S1 := S) (v1 := -1000000005) (by simp only [fBest, c5, Bool.and_true, Bool.true_and, Bool.and_false, Bool.false_and, Bool.or_true, Bool.true_or, Bool.or_false, Bool.false_or, Bool.not_true, Bool.not_false, Bool.false_eq_true, decide_true, decide_false, if_true, if_false]; rw [if_pos hlo, hsc]; rfl) rfl hR6 hO6⟩
        · have hx9 := (sc_bound hI h5 _ x hsc).1
          rw [hsc] at p1
          have p1 : σ5 0 13 = nI x.1 ∧ σ5 0 14 = nI x.2 := p1
          refine m_geti G d_N_best_71 fl_N_90 rfl (by decide) rfl ?_
          rw [p1.1]
          refine x_if_ge G d_N_best_74 (fun c74 => ?_) (fun c74 => absurd ((nI_pos' (by omega))) c74)
          refine x_iload1 G d_N_best_80 ?_
          refine x_if_ne G d_N_best_81 (fun c81 => ?_) (fun c81 => ?_)
          · have hw0 : bsO what (some x) = nI x.2 := if_neg c81
            refine x_aload0 G d_N_best_91 ?_
            refine m_geti G d_N_best_92 fl_N_93 rfl (by decide) rfl ?_
            rw [p1.2]
            exact m_iret E G d_N_best_95 hx rfl rfl ⟨_, rfl, RC.mk' (S1 := S) (v1 := nI x.2) (by simp only [fBest, c5, Bool.and_true, Bool.true_and, Bool.and_false, Bool.false_and, Bool.or_true, Bool.true_or, Bool.or_false, Bool.false_or, Bool.not_true, Bool.not_false, Bool.false_eq_true, decide_true, decide_false, if_true, if_false]; rw [if_pos hlo, hsc]; exact congrArg (fun z => (z, S)) hw0) rfl hR6 hO6⟩
          · have hw0 : bsO what (some x) = nI x.1 := if_pos c81
            refine x_aload0 G d_N_best_84 ?_
            refine m_geti G d_N_best_85 fl_N_90 rfl (by decide) rfl ?_
            rw [p1.1]
            refine x_goto G d_N_best_88 ?_
            exact m_iret E G d_N_best_95 hx rfl rfl ⟨_, rfl, RC.mk' (S1 := S) (v1 := nI x.1) (by simp only [fBest, c5, Bool.and_true, Bool.true_and, Bool.and_false, Bool.false_and, Bool.or_true, Bool.true_or, Bool.or_false, Bool.false_or, Bool.not_true, Bool.not_false, Bool.false_eq_true, decide_true, decide_false, if_true, if_false]; rw [if_pos hlo, hsc]; exact congrArg (fun z => (z, S)) hw0) rfl hR6 hO6⟩
      · have h1 : ¬ (1 ≤ tn (S 0) ∧ tn (S 0) ≤ 5) := by rw [nle (by omega) (by decide)] at c30; omega
        refine x_ldc G d_N_best_33 kc_N_185 ?_
        exact m_iret E G d_N_best_35 hx rfl rfl ⟨_, rfl, RC.same hR (by simp only [fBest, c5, Bool.and_true, Bool.true_and, Bool.and_false, Bool.false_and, Bool.or_true, Bool.true_or, Bool.or_false, Bool.false_or, Bool.not_true, Bool.not_false, Bool.false_eq_true, decide_true, decide_false, if_true, if_false, if_neg h1])⟩
  · replace c5 := bI_0.mp c5
    refine x_ldc G d_N_best_8 kc_N_102 ?_
    exact m_iret E G d_N_best_10 hx rfl rfl ⟨_, rfl, RC.same hR (by simp only [fBest, c5, Bool.and_true, Bool.true_and, Bool.and_false, Bool.false_and, Bool.or_true, Bool.true_or, Bool.or_false, Bool.false_or, Bool.not_true, Bool.not_false, Bool.false_eq_true, decide_true, decide_false, if_true, if_false])⟩
