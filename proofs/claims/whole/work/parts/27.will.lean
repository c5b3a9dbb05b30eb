/-! what will be: the class's side -/
theorem had_or1 : ∀ n, n < 512 → ∀ f, f < 9 → ((nI n ||| nI 1 <<< (nI f &&& 31)) = nI (tn (nI n ||| nI 1 <<< (nI f &&& 31))) ∧ tn (nI n ||| nI 1 <<< (nI f &&& 31)) ≤ 511) := by decide +kernel
theorem had_or (n : Nat) (hn : n < 512) (f : Nat) (hf : f < 9) : In (nI n ||| nI 1 <<< (nI f &&& 31)) 511 := had_or1 n hn f hf
theorem Inv2.put {S : Rw} (h : Inv2 S) {p k : Nat} {x : Int32} (hp : p < tn (S 0)) (hp8 : p < 8) (hk : k = 4 ∨ k = 5) : Inv2 (upd S (ixP p k) x) := by
  refine ⟨fun q hq => ?_, fun a b ha hb => ?_, fun q q1 q2 => ?_⟩
  · rw [pk_un (by unfold ixP; omega), pk_un (by unfold ixP; omega)]; exact h.1 q hq
  · unfold sTalk
    rw [pk_un (by unfold ixP; omega), pk_un (by unfold ixP; omega)]; exact h.2.1 a b ha hb
  · rw [pk_un (by unfold ixP; omega)] at q1
    rw [pk_un (by unfold ixP; omega), pk_un (by unfold ixP; omega), pk_un (by unfold ixP; omega), pk_un (by unfold ixP; omega)]
    exact h.2.2 q q1 q2
theorem Inv2.puth {S : Rw} (h : Inv2 S) {p : Nat} {x : Int32} (hp : p < tn (S 0)) (hp8 : p < 8) (hx : In x 511) : Inv2 (upd S (ixP p 3) x) := by
  refine ⟨fun q hq => ?_, fun a b ha hb => ?_, fun q q1 q2 => ?_⟩
  · rw [pk_un (show ixP q 6 ≠ ixP p 3 by unfold ixP; omega)]
    by_cases e : q = p
    · rw [e, pk_us]; exact ⟨hx, (h.1 p hp8).2⟩
    · rw [pk_un (by unfold ixP; omega)]; exact h.1 q hq
  · unfold sTalk
    rw [pk_un (by unfold ixP; omega), pk_un (by unfold ixP; omega)]; exact h.2.1 a b ha hb
  · rw [pk_un (by unfold ixP; omega)] at q1
    rw [pk_un (by unfold ixP; omega), pk_un (by unfold ixP; omega), pk_un (by unfold ixP; omega), pk_un (by unfold ixP; omega)]
    exact h.2.2 q q1 q2
theorem Inv2.putx {S : Rw} (h : Inv2 S) {i : Nat} {x : Int32} (h0 : i ≠ 0) (hi : i < 34) : Inv2 (upd S i x) :=
  h.of (pk_un (by omega)) (fun p k _ _ _ => pk_un (by unfold ixP; omega))
theorem sArr_keep2 {S : Rw} (hI : Inv S) (hJ : Inv2 S) {p f : Nat} (hp : p < tn (S 0)) (hf : f < 9) : Inv2 (sArr S p f) := by
  have hn := hI.n
  unfold sArr
  simp only
  have h1 : Inv2 (upd S (ixF f 1) (if nI 0 < S (ixF f 1) - nI 1 then S (ixF f 1) - nI 1 else nI 0)) := hJ.putx (by unfold ixF; omega) (by unfold ixF; omega)
  have h0 : (upd S (ixF f 1) (if nI 0 < S (ixF f 1) - nI 1 then S (ixF f 1) - nI 1 else nI 0)) 0 = S 0 := pk_un (by unfold ixF; omega)
  have h2 := h1.puth (p := p) (x := (upd S (ixF f 1) (if nI 0 < S (ixF f 1) - nI 1 then S (ixF f 1) - nI 1 else nI 0)) (ixP p 3) ||| nI 1 <<< (nI f &&& 31)) (by rw [h0]; exact hp) (by omega) (by
    have := (h1.had (p := p) (by omega))
    rw [this.1]; exact had_or _ (by omega) f hf)
  split
  · rename_i hs
    obtain ⟨j, hj, _, e⟩ := isO_ex (by omega) (show isO (nI (tn (S 0))) (S (ixF f 0)) = true by rw [← hn.1]; exact hs.2)
    rw [e, tn_nI (by omega)]
    exact h2.put (by rw [pk_un (by unfold ixP; omega), h0]; exact hj) (by omega) (Or.inl rfl)
  · exact h2
theorem sGo_keep2 {S : Rw} (hI : Inv S) (hJ : Inv2 S) {T : Nat → Int32} {p : Nat} (hp : p < tn (S 0)) : Inv2 (sGo S T p).1 := by
  unfold sGo
  split
  · exact hJ.putx (by decide) (by decide)
  · rename_i hg
    rcases gst_range (S := S) (T := T) (p := p) 9 (Nat.le_refl _) with h | ⟨f, h1, h2⟩
    · exact absurd h hg
    · have k1 : Keep S (upd S 3 (S 3 + (gst S T p 9).2)) := Keep.refl.put (Or.inl (by omega))
      rw [h2, tn_nI (by omega)]
      exact sArr_keep2 (k1.inv hI) (hJ.putx (by decide) (by decide)) (by rw [k1.1]; exact hp) h1
theorem sGos_keep2 {S : Rw} (hI : Inv S) (hJ : Inv2 S) (ab : Int32) (hn : 0 < tn (S 0)) : ∀ i, Inv2 (sGos S ab i).1
  | 0 => hJ
  | i + 1 => by
    have h1 := sGos_keep2 hI hJ ab hn i
    obtain ⟨k1, k2⟩ := sGos_keep hI ab hn i
    unfold sGos
    simp only
    split
    · exact h1
    · exact sGo_keep2 (k1.inv hI) h1 (by rw [k1.1]; exact Nat.mod_lt _ hn)
theorem sGosT_none {S : Rw} (hI : Inv S) (ab : Int32) {q : Nat} (hq : tn (S 0) ≤ q) : sNoonT S ab q = -1 := by
  unfold sNoonT
  rcases Nat.eq_zero_or_pos (tn (S 0)) with z | z
  · rw [z]; rfl
  · exact sGos_T _ (fun j _ => by have := Nat.mod_lt (tn (S 2) + j) z; omega)
theorem sCat_keep2 {S S0 : Rw} (hJ : Inv2 S) {T : Nat → Int32} : ∀ n, n ≤ 8 → n ≤ tn (S 0) → Inv2 (sCat S T n)
  | 0, _, _ => hJ
  | n + 1, h8, hn => by
    have h1 := sCat_keep2 (S0 := S0) hJ (T := T) n (by omega) (by omega)
    have k := sCat_keep (S := S) (T := T) n (by omega)
    unfold sCat
    simp only
    split
    · exact h1.put (by rw [k.1]; omega) (by omega) (Or.inr rfl)
    · exact h1
theorem sNoon_keep2 {S : Rw} (hI : Inv S) (hJ : Inv2 S) (ab : Int32) : Inv2 (sNoon S ab) := by
  have hn := hI.n
  have h1 : Inv2 (sGos S ab (tn (S 0))).1 := by
    rcases Nat.eq_zero_or_pos (tn (S 0)) with z | z
    · rw [z]; exact hJ
    · exact sGos_keep2 hI hJ ab z _
  have k1 := (sGosN_keep hI ab).1
  unfold sNoon
  simp only
  refine Inv2.putx ?_ (by decide) (by decide)
  split
  · exact sCat_keep2 (S0 := S) (h1.putx (by decide) (by decide)) _ hn.2 (by rw [pk_un (by decide), k1.1]; exact Nat.le_refl _)
  · exact h1.putx (by decide) (by decide)
theorem passN_keep2 {S : Rw} (hI : Inv S) (hJ : Inv2 S) (ab : Int32) : ∀ n, tn (S 2) + n ≤ 11000 → Inv2 (passN S ab n)
  | 0, _ => hJ
  | n + 1, h => sNoon_keep2 (passN_keep hI ab n (by omega)).1 (passN_keep2 hI hJ ab n (by omega)) ab
theorem Inv.own {S : Rw} (h : Inv S) {f : Nat} (hf : f < 9) {x : Int32} (hx : In x 8) : Inv (upd S (ixF f 0) x) := by
  have hA : AgT S (upd S (ixF f 0) x) := AgT.refl.upd (by unfold ixF; omega) (by unfold ixF; omega)
  refine ⟨?_, ?_, ?_, ?_, fun g hg => ?_, fun p hp => ?_, fun t ht => ?_⟩
  · rw [pk_un (by unfold ixF; omega)]; exact h.1
  · rw [pk_un (by unfold ixF; omega)]; exact h.2.1
  · rw [pk_un (by unfold ixF; omega)]; exact h.2.2.1
  · rw [pk_un (by unfold ixF; omega)]; exact h.2.2.2.1
  · rw [pk_un (show ixF g 1 ≠ ixF f 0 by unfold ixF; omega), pk_un (show ixF g 2 ≠ ixF f 0 by unfold ixF; omega)]
    refine ⟨?_, (h.2.2.2.2.1 g hg).2⟩
    by_cases e : g = f
    · rw [e, pk_us]; exact hx
    · rw [pk_un (by unfold ixF; omega)]; exact (h.2.2.2.2.1 g hg).1
  · rw [pk_un (by unfold ixF ixP; omega), pk_un (by unfold ixF ixP; omega), pk_un (by unfold ixF ixP; omega)]; exact h.2.2.2.2.2.1 p hp
  · rw [hA.1] at ht; exact TV_agT hA (h.2.2.2.2.2.2 t ht)
/-! what they answer -/
def own (S : Rw) (f : Nat) (o : Int32) : Rw := upd S (ixF f 0) o
def fBehind (S : Rw) (n what : Int32) : Int32 × Rw := (if upB n (nI 100) && upB what (nI 3) then (if what = nI 0 then passN S (-1) (tn n) 3 else if what = nI 1 then passN S (-1) (tn n) 4 else if what = nI 2 then sumN (fun f => passN S (-1) (tn n) (ixF f 1)) 9 else sumN (fun p => passN S (-1) (tn n) (ixP p 5)) 8) else -1000000001, S)
def fHas (S : Rw) (one n what : Int32) : Int32 × Rw := (if isO (S 0) one && upB n (nI 100) && upB what (nI 1) then (if what = 0 then passN S (-1) (tn n) (ixP (tn one) 4) else passN S (-1) (tn n) (ixP (tn one) 3)) else -1000000001, S)
def rtN (S : Rw) (m : Nat) : Nat → Int32
  | 0 => -1
  | k + 1 => if rtN S m k = -1 then (if ahN (passN S (-1) k) m (tn (passN S (-1) k 0)) then nI k else -1) else rtN S m k
def fRota (S : Rw) (m : Int32) : Int32 × Rw := (if upB m (nI 9) then (if rtN S (tn m) 101 < 0 then -1000000005 else rtN S (tn m) 101) else -1000000001, S)
def fSold (S : Rw) (f one n : Int32) : Int32 × Rw := (if upB f (nI 8) && isO (S 0) one && inB n (nI 1) (nI 60) then passN (own S (tn f) one) (-1) (tn n) 3 - passN S (-1) (tn n) 3 else -1000000001, S)
def nbV (S : Rw) (n f : Nat) : Int32 := passN (own S f (nI 8)) (-1) n 3 + nI 100 * passN (own S f (nI 8)) (-1) n 4
def nbN (S : Rw) (n : Nat) : Nat → Int32 × Int32
  | 0 => (-1, 0)
  | f + 1 => if (nbN S n f).1 = -1 ∨ nbV S n f < (nbN S n f).2 then (nI f, nbV S n f) else nbN S n f
def fNobodys (S : Rw) (n what : Int32) : Int32 × Rw := (if inB n (nI 1) (nI 60) && upB what (nI 1) then (if what = 0 then (nbN S (tn n) 9).1 else (nbN S (tn n) 9).2) else -1000000001, S)
def fToll (S : Rw) : Int32 × Rw := (if cnt S 1 < 0 then S 3 else ev S (tn (cnt S 1)) (nmf 1 (S 3) (S 4) 0), S)
def fFine (S : Rw) (one : Int32) : Int32 × Rw := (if isO (S 0) one then (if cnt S 2 < 0 then S (ixP (tn one) 4) else ev S (tn (cnt S 2)) (nmf 2 (S (ixP (tn one) 4)) (S (ixP (tn one) 5)) 0)) else -1000000001, S)
theorem rtN_stay {S : Rw} {m k : Nat} {v : Int32} (h : rtN S m k = v) (hv : v ≠ -1) : ∀ j, rtN S m (k + j) = v
  | 0 => h
  | j + 1 => by
    show rtN S m (k + j + 1) = v
    rw [rtN, rtN_stay h hv j, if_neg hv]
theorem nI_m1 {k : Nat} (hk : k < 2 ^ 31) : nI k ≠ -1 := by
  intro h
  have := congrArg Int32.toInt h
  rw [nI_toInt hk] at this
  have e : (-1 : Int32).toInt = -1 := by decide
  omega
theorem nbN_pos {S : Rw} {n : Nat} : ∀ f, 0 < f → f ≤ 9 → ∃ j, j < f ∧ (nbN S n f).1 = nI j
  | f + 1, _, h9 => by
    unfold nbN
    split
    · exact ⟨f, Nat.lt_succ_self f, rfl⟩
    · rename_i hc
      rcases Nat.eq_zero_or_pos f with z | z
      · subst z; exact absurd (Or.inl rfl) hc
      · obtain ⟨j, h1, h2⟩ := nbN_pos f z (by omega)
        exact ⟨j, by omega, h2⟩
theorem OutC.w58 {σ σ1 : Sg} {S : Rw} (hR : WRel 28 S σ) (h : OutW 58 σ σ1) : WRel 28 S σ1 := hR.frame (fun k a b _ => h k (by omega) (by omega))
def nbSt (S : Rw) (n f : Nat) (fl le : Int32) : Prop := (f = 0 ∧ fl = nI 0 ∧ le = nI 0) ∨ (0 < f ∧ fl = (nbN S n f).1 ∧ le = (nbN S n f).2)
theorem nb_new {S : Rw} {n f : Nat} {fl le : Int32} (h : nbSt S n f fl le) (hc : f = 0 ∨ nbV S n f < le) : nbSt S n (f + 1) (nI f) (nbV S n f) := by
  refine Or.inr ⟨Nat.succ_pos f, ?_⟩
  have e : nbN S n (f + 1) = (nI f, nbV S n f) := by
    unfold nbN
    rw [if_pos]
    rcases h with ⟨rfl, -, -⟩ | ⟨h1, -, h3⟩
    · exact Or.inl rfl
    · rcases hc with z | z
      · omega
      · exact Or.inr (by rw [← h3]; exact z)
  rw [e]
  exact ⟨rfl, rfl⟩
theorem nb_old {S : Rw} {n f : Nat} {fl le : Int32} (hf : f < 9) (h : nbSt S n f fl le) (h0 : f ≠ 0) (hc : ¬ nbV S n f < le) : nbSt S n (f + 1) fl le := by
  refine Or.inr ⟨Nat.succ_pos f, ?_⟩
  rcases h with ⟨h1, -, -⟩ | ⟨h1, h2, h3⟩
  · exact absurd h1 h0
  · have e : nbN S n (f + 1) = nbN S n f := by
      rw [nbN, if_neg]
      rintro (q | q)
      · obtain ⟨j, hj, e⟩ := nbN_pos (S := S) (n := n) f h1 (by omega)
        exact nI_m1 (k := j) (by omega) (by rw [← e]; exact q)
      · rw [← h3] at q; exact hc q
    rw [e]
    exact ⟨h2, h3⟩
theorem p_N_think (g : CX) (d : Nat) (hd : 6 ≤ d) (σ : Sg) (S : Rw) (hO : CO S σ) (n : Nat) (hn : n ≤ 101) : RunM g d N_think [.ref 0, .int (nI n)] σ (PV (fun σ1 => WRel 58 (passN S (-1) n) σ1 ∧ OutW 58 σ σ1 ∧ (0 < n → StT 58 (sNoonT (passN S (-1) (n - 1)) (-1)) σ1))) := by
  refine RunM.of 0 (by decide +kernel) rfl ?_
  intro κ hg hx hk0 G E
  subst hg
  have hk : 2 ≤ kn κ := Nat.le_of_eq hk0.symm
  show X κ NC 0 [some (.ref 0), some (.int (nI n))] [] (hv σ)
  obtain ⟨hR, hL, hI, hJ, h9⟩ := hO
  have hn8 := hI.n
  refine x_aload0 G d_N_think_0 ?_
  refine m_getr G d_N_think_1 fl_N_50 rfl (by decide) rfl ?_
  refine x_aload0 G d_N_think_4 ?_
  refine m_getr G d_N_think_5 fl_N_43 rfl (by decide) rfl ?_
  refine m_callV_pv (p_Wo_become (kg κ) (d - 1) (by omega) σ 58 28 hw58 hw28 (by decide) S hR) G d_N_think_8 lk_N_186 rfl ⟨by decide, rfl⟩ (by decide) (by omega) rfl (Nat.le_of_ble_eq_true rfl) hx (fun σ1 ⟨g1, g2⟩ => ?_)
  refine x_aload0 G d_N_think_11 ?_
  refine m_getr G d_N_think_12 fl_N_50 rfl (by decide) rfl ?_
  refine x_iload1 G d_N_think_15 ?_
  refine x_iconst (v := (-1)) G d_N_think_16 rfl ?_
  refine m_callV_pv (p_Wo_pass (kg κ) (d - 1) (by omega) σ1 58 hw58 S g1 hI (lrel_of hw58 hI hL AgT.refl g2) n (by have := h9.2; omega) (-1)) G d_N_think_17 lk_N_174 rfl ⟨by decide, rfl⟩ (by decide) (by omega) rfl (Nat.le_of_ble_eq_true rfl) hx (fun σ2 ⟨k1, k2, k3⟩ => ?_)
  exact m_vret E G d_N_think_20 hx rfl ⟨rfl, k1, g2.trans k2, k3⟩
theorem p_N_thinkOwned (g : CX) (d : Nat) (hd : 6 ≤ d) (σ : Sg) (S : Rw) (hO : CO S σ) (f : Nat) (hf : f < 9) (ow : Int32) (hox : In ow 8) (n : Nat) (hn : n ≤ 101) : RunM g d N_thinkOwned [.ref 0, .int (nI f), .int ow, .int (nI n)] σ (PV (fun σ1 => WRel 58 (passN (own S f ow) (-1) n) σ1 ∧ OutW 58 σ σ1)) := by
  refine RunM.of 0 (by decide +kernel) rfl ?_
  intro κ hg hx hk0 G E
  subst hg
  have hk : 4 ≤ kn κ := Nat.le_of_eq hk0.symm
  show X κ NC 0 [some (.ref 0), some (.int (nI f)), some (.int ow), some (.int (nI n))] [] (hv σ)
  obtain ⟨hR, hL, hI, hJ, h9⟩ := hO
  have hn8 := hI.n
  refine x_aload0 G d_N_thinkOwned_0 ?_
  refine m_getr G d_N_thinkOwned_1 fl_N_50 rfl (by decide) rfl ?_
  refine x_aload0 G d_N_thinkOwned_4 ?_
  refine m_getr G d_N_thinkOwned_5 fl_N_43 rfl (by decide) rfl ?_
  refine m_callV_pv (p_Wo_become (kg κ) (d - 1) (by omega) σ 58 28 hw58 hw28 (by decide) S hR) G d_N_thinkOwned_8 lk_N_186 rfl ⟨by decide, rfl⟩ (by decide) (by omega) rfl (Nat.le_of_ble_eq_true rfl) hx (fun σ1 ⟨g1, g2⟩ => ?_)
  refine x_aload0 G d_N_thinkOwned_11 ?_
  refine m_getr G d_N_thinkOwned_12 fl_N_50 rfl (by decide) rfl ?_
  refine m_getr G d_N_thinkOwned_15 fl_N_144 rfl (by decide) rfl ?_
  refine x_iconst (v := nI 0) G d_N_thinkOwned_18 rfl ?_
  refine m_aald 0 G d_N_thinkOwned_19 rfl (by decide) rfl ⟨by omega, by first | decide | omega⟩ rfl ?_
  refine x_iload1 G d_N_thinkOwned_20 ?_
  refine x_iload2 G d_N_thinkOwned_21 ?_
  refine m_iast_n f G d_N_thinkOwned_22 rfl rfl ⟨by omega, by first | decide | omega⟩ (fun σ2 e2 => ?_)
  have hR2 : WRel 58 (own S f ow) σ2 := by rw [e2]; exact g1.setf (by decide) hf _
  have hO2 : OutW 58 σ σ2 := by rw [e2]; exact g2.upd (by omega)
  have hA2 : AgT S (own S f ow) := AgT.refl.upd (by unfold ixF; omega) (by unfold ixF; omega)
  have h92 : own S f ow 2 = S 2 := pk_un (by unfold ixF; omega)
  refine x_aload0 G d_N_thinkOwned_23 ?_
  refine m_getr G d_N_thinkOwned_24 fl_N_50 rfl (by decide) rfl ?_
  refine x_iload3 G d_N_thinkOwned_27 ?_
  refine x_iconst (v := (-1)) G d_N_thinkOwned_28 rfl ?_
  refine m_callV_pv (p_Wo_pass (kg κ) (d - 1) (by omega) σ2 58 hw58 _ hR2 (hI.own hf hox) (lrel_of hw58 hI hL hA2 hO2) n (by rw [h92]; have := h9.2; omega) (-1)) G d_N_thinkOwned_29 lk_N_174 rfl ⟨by decide, rfl⟩ (by decide) (by omega) rfl (Nat.le_of_ble_eq_true rfl) hx (fun σ3 ⟨k1, k2, k3⟩ => ?_)
  exact m_vret E G d_N_thinkOwned_32 hx rfl ⟨rfl, k1, hO2.trans k2⟩
theorem p_N_behind (g : CX) (d : Nat) (hd : 7 ≤ d) (σ : Sg) (S : Rw) (hO : CO S σ) (n what : Int32) : RunM g d N_behind [.ref 0, .int n, .int what] σ (PR (RC (fBehind S n what) σ)) := by
  refine RunM.of 0 (by decide +kernel) rfl ?_
  intro κ hg hx hk0 G E
  subst hg
  have hk : 3 ≤ kn κ := Nat.le_of_eq hk0.symm
  show X κ NC 0 [some (.ref 0), some (.int n), some (.int what)] [] (hv σ)
  obtain ⟨hR, hL, hI, hJ, h9⟩ := hO
  have hn8 := hI.n
  refine x_iload1 G d_N_behind_0 ?_
  refine x_bipush (v := nI 100) G d_N_behind_1 rfl ?_
  refine m_callS_pi (p_N_isUpTo (kg κ) (d - 1) (Nat.zero_le _) _ _ _) G d_N_behind_3 lk_N_98 (by omega) rfl (Nat.le_of_ble_eq_true rfl) hx ?_
  refine x_if_eq G d_N_behind_6 (fun c6 => ?_) (fun c6 => ?_)
  · replace c6 := bI_0.mp c6
    refine x_ldc G d_N_behind_17 kc_N_102 ?_
    exact m_iret E G d_N_behind_19 hx rfl rfl ⟨_, rfl, RC.same hR (by simp only [fBehind, c6, Bool.and_true, Bool.true_and, Bool.and_false, Bool.false_and, Bool.or_true, Bool.true_or, Bool.or_false, Bool.false_or, Bool.not_true, Bool.not_false, Bool.false_eq_true, decide_true, decide_false, if_true, if_false])⟩
  · replace c6 := bI_n0.mp c6
    obtain ⟨j, hj, tj, rfl⟩ := upB_ex (by decide) c6
    refine x_iload2 G d_N_behind_9 ?_
    refine x_iconst (v := nI 3) G d_N_behind_10 rfl ?_
    refine m_callS_pi (p_N_isUpTo (kg κ) (d - 1) (Nat.zero_le _) _ _ _) G d_N_behind_11 lk_N_98 (by omega) rfl (Nat.le_of_ble_eq_true rfl) hx ?_
    refine x_if_ne G d_N_behind_14 (fun c14 => ?_) (fun c14 => ?_)
    · replace c14 := bI_n0.mp c14
      refine x_aload0 G d_N_behind_20 ?_
      refine x_iload1 G d_N_behind_21 ?_
      refine m_callV_pv (p_N_think (kg κ) (d - 1) (by omega) σ S ⟨hR, hL, hI, hJ, h9⟩ j (by omega)) G d_N_behind_22 lk_N_209 rfl ⟨by decide, rfl⟩ (by decide) (by omega) rfl (Nat.le_of_ble_eq_true rfl) hx (fun σ1 ⟨g1, g2, g3⟩ => ?_)
      refine x_iload2 G d_N_behind_25 ?_
      obtain ⟨q, hq, tq, rfl⟩ := upB_ex (by decide) c14
      have hq4 : q = 0 ∨ q = 1 ∨ q = 2 ∨ q = 3 := by omega
      rcases hq4 with rfl | rfl | rfl | rfl
      · show X κ NC 26 _ _ _
        refine x_tabIn (26) 52 G d_N_behind_26 (by decide +kernel) (by decide +kernel) (by decide +kernel) rfl ?_
        refine x_aload0 G d_N_behind_52 ?_
        refine m_getr G d_N_behind_53 fl_N_50 rfl (by decide) rfl ?_
        refine m_geti G d_N_behind_56 fl_N_178 rfl (by decide) rfl ?_
        exact m_iret E G d_N_behind_59 hx rfl rfl ⟨_, rfl, RC.mk' (S1 := S) (v1 := passN S (-1) j 3) (by unfold fBehind; rw [c6, c14, tj]; simp only [Bool.and_true, if_true]) (g1.steps) (OutC.w58 hR g2) (OutC.of (Or.inr rfl) g2)⟩
      · show X κ NC 26 _ _ _
        refine x_tabIn (34) 60 G d_N_behind_26 (by decide +kernel) (by decide +kernel) (by decide +kernel) rfl ?_
        refine x_aload0 G d_N_behind_60 ?_
        refine m_getr G d_N_behind_61 fl_N_50 rfl (by decide) rfl ?_
        refine m_geti G d_N_behind_64 fl_N_168 rfl (by decide) rfl ?_
        exact m_iret E G d_N_behind_67 hx rfl rfl ⟨_, rfl, RC.mk' (S1 := S) (v1 := passN S (-1) j 4) (by unfold fBehind; rw [c6, c14, tj]; simp only [Bool.and_true, if_true]; rw [if_neg (show ¬ nI 1 = nI 0 by decide)]) (g1.left) (OutC.w58 hR g2) (OutC.of (Or.inr rfl) g2)⟩
      · show X κ NC 26 _ _ _
        refine x_tabIn (42) 68 G d_N_behind_26 (by decide +kernel) (by decide +kernel) (by decide +kernel) rfl ?_
        refine x_aload0 G d_N_behind_68 ?_
        refine m_getr G d_N_behind_69 fl_N_50 rfl (by decide) rfl ?_
        refine m_getr G d_N_behind_72 fl_N_144 rfl (by decide) rfl ?_
        refine x_iconst (v := nI 1) G d_N_behind_75 rfl ?_
        refine m_aald 1 G d_N_behind_76 rfl (by decide) rfl ⟨by omega, by first | decide | omega⟩ rfl ?_
        refine m_callS_pi (p_Wo_sum (kg κ) (d - 1) (by omega) σ1 (58 + 9 + 1) 9 rfl (by decide) (by decide)) G d_N_behind_77 lk_N_181 (by omega) rfl (Nat.le_of_ble_eq_true rfl) hx ?_
        exact m_iret E G d_N_behind_80 hx rfl rfl ⟨_, rfl, RC.mk' (S1 := S) (v1 := sumN (fun f => passN S (-1) j (ixF f 1)) 9) (by unfold fBehind; rw [c6, c14, tj]; simp only [Bool.and_true, if_true]; rw [if_neg (show ¬ nI 2 = nI 0 by decide), if_neg (show ¬ nI 2 = nI 1 by decide)]) (sumN_cong 9 (fun i hi => g1.f 1 (by decide) hi)) (OutC.w58 hR g2) (OutC.of (Or.inr rfl) g2)⟩
      · show X κ NC 26 _ _ _
        refine x_tabOut 81 G d_N_behind_26 (by decide +kernel) rfl ?_
        refine x_aload0 G d_N_behind_81 ?_
        refine m_getr G d_N_behind_82 fl_N_50 rfl (by decide) rfl ?_
        refine m_getr G d_N_behind_85 fl_N_115 rfl (by decide) rfl ?_
        refine x_iconst (v := nI 5) G d_N_behind_88 rfl ?_
        refine m_aald 5 G d_N_behind_89 rfl (by decide) rfl ⟨by omega, by first | decide | omega⟩ rfl ?_
        refine m_callS_pi (p_Wo_sum (kg κ) (d - 1) (by omega) σ1 (58 + 2 + 5) 8 rfl (by decide) (by decide)) G d_N_behind_90 lk_N_181 (by omega) rfl (Nat.le_of_ble_eq_true rfl) hx ?_
        exact m_iret E G d_N_behind_93 hx rfl rfl ⟨_, rfl, RC.mk' (S1 := S) (v1 := sumN (fun p => passN S (-1) j (ixP p 5)) 8) (by unfold fBehind; rw [c6, c14, tj]; simp only [Bool.and_true, if_true]; rw [if_neg (show ¬ nI 3 = nI 0 by decide), if_neg (show ¬ nI 3 = nI 1 by decide), if_neg (show ¬ nI 3 = nI 2 by decide)]) (sumN_cong 8 (fun i hi => g1.p 5 (by decide) hi)) (OutC.w58 hR g2) (OutC.of (Or.inr rfl) g2)⟩
    · replace c14 := bI_0.mp c14
      refine x_ldc G d_N_behind_17 kc_N_102 ?_
      exact m_iret E G d_N_behind_19 hx rfl rfl ⟨_, rfl, RC.same hR (by simp only [fBehind, c6, tj, c14, Bool.and_true, Bool.true_and, Bool.and_false, Bool.false_and, Bool.or_true, Bool.true_or, Bool.or_false, Bool.false_or, Bool.not_true, Bool.not_false, Bool.false_eq_true, decide_true, decide_false, if_true, if_false])⟩
theorem p_N_has (g : CX) (d : Nat) (hd : 7 ≤ d) (σ : Sg) (S : Rw) (hO : CO S σ) (one n what : Int32) : RunM g d N_has [.ref 0, .int one, .int n, .int what] σ (PR (RC (fHas S one n what) σ)) := by
  refine RunM.of 0 (by decide +kernel) rfl ?_
  intro κ hg hx hk0 G E
  subst hg
  have hk : 4 ≤ kn κ := Nat.le_of_eq hk0.symm
  show X κ NC 0 [some (.ref 0), some (.int one), some (.int n), some (.int what)] [] (hv σ)
  obtain ⟨hR, hL, hI, hJ, h9⟩ := hO
  have hn8 := hI.n
  refine x_aload0 G d_N_has_0 ?_
  refine m_getr G d_N_has_1 fl_N_43 rfl (by decide) rfl ?_
  refine x_iload1 G d_N_has_4 ?_
  refine m_callV_pi (p_isOn (kg κ) (d - 1) _ 28 hw28 S hR _) G d_N_has_5 lk_N_107 rfl ⟨by decide, rfl⟩ (by decide) (by omega) rfl (Nat.le_of_ble_eq_true rfl) hx ?_
  refine x_if_eq G d_N_has_8 (fun c8 => ?_) (fun c8 => ?_)
  · replace c8 := bI_0.mp c8
    refine x_ldc G d_N_has_28 kc_N_102 ?_
    exact m_iret E G d_N_has_30 hx rfl rfl ⟨_, rfl, RC.same hR (by simp only [fHas, c8, Bool.and_true, Bool.true_and, Bool.and_false, Bool.false_and, Bool.or_true, Bool.true_or, Bool.or_false, Bool.false_or, Bool.not_true, Bool.not_false, Bool.false_eq_true, decide_true, decide_false, if_true, if_false])⟩
  · replace c8 := bI_n0.mp c8
    obtain ⟨p, hp, hpn, tp, rfl⟩ := one_ex hI c8
    refine x_iload2 G d_N_has_11 ?_
    refine x_bipush (v := nI 100) G d_N_has_12 rfl ?_
    refine m_callS_pi (p_N_isUpTo (kg κ) (d - 1) (Nat.zero_le _) _ _ _) G d_N_has_14 lk_N_98 (by omega) rfl (Nat.le_of_ble_eq_true rfl) hx ?_
    refine x_if_eq G d_N_has_17 (fun c17 => ?_) (fun c17 => ?_)
    · replace c17 := bI_0.mp c17
      refine x_ldc G d_N_has_28 kc_N_102 ?_
      exact m_iret E G d_N_has_30 hx rfl rfl ⟨_, rfl, RC.same hR (by simp only [fHas, c8, tp, c17, Bool.and_true, Bool.true_and, Bool.and_false, Bool.false_and, Bool.or_true, Bool.true_or, Bool.or_false, Bool.false_or, Bool.not_true, Bool.not_false, Bool.false_eq_true, decide_true, decide_false, if_true, if_false])⟩
    · replace c17 := bI_n0.mp c17
      obtain ⟨j, hj, tj, rfl⟩ := upB_ex (by decide) c17
      refine x_iload3 G d_N_has_20 ?_
      refine x_iconst (v := nI 1) G d_N_has_21 rfl ?_
      refine m_callS_pi (p_N_isUpTo (kg κ) (d - 1) (Nat.zero_le _) _ _ _) G d_N_has_22 lk_N_98 (by omega) rfl (Nat.le_of_ble_eq_true rfl) hx ?_
      refine x_if_ne G d_N_has_25 (fun c25 => ?_) (fun c25 => ?_)
      · replace c25 := bI_n0.mp c25
        refine x_aload0 G d_N_has_31 ?_
        refine x_iload2 G d_N_has_32 ?_
        refine m_callV_pv (p_N_think (kg κ) (d - 1) (by omega) σ S ⟨hR, hL, hI, hJ, h9⟩ j (by omega)) G d_N_has_33 lk_N_209 rfl ⟨by decide, rfl⟩ (by decide) (by omega) rfl (Nat.le_of_ble_eq_true rfl) hx (fun σ1 ⟨g1, g2, g3⟩ => ?_)
        refine x_aload0 G d_N_has_36 ?_
        refine m_getr G d_N_has_37 fl_N_50 rfl (by decide) rfl ?_
        refine m_getr G d_N_has_40 fl_N_115 rfl (by decide) rfl ?_
        refine x_iload3 G d_N_has_43 ?_
        refine x_if_ne G d_N_has_44 (fun c44 => ?_) (fun c44 => ?_)
        · refine x_iconst (v := nI 3) G d_N_has_51 rfl ?_
          refine m_aald 3 G d_N_has_52 rfl (by decide) rfl ⟨by omega, by first | decide | omega⟩ rfl ?_
          refine x_iload1 G d_N_has_53 ?_
          refine m_iald p G d_N_has_54 rfl rfl ⟨by omega, by first | decide | omega⟩ ?_
          exact m_iret E G d_N_has_55 hx rfl rfl ⟨_, rfl, RC.mk' (S1 := S) (v1 := passN S (-1) j (ixP p 3)) (by simp only [fHas, c8, tp, c17, tj, c25, c44, Bool.and_true, Bool.true_and, Bool.and_false, Bool.false_and, Bool.or_true, Bool.true_or, Bool.or_false, Bool.false_or, Bool.not_true, Bool.not_false, Bool.false_eq_true, decide_true, decide_false, if_true, if_false]) (g1.p 3 (by decide) (by omega)) (OutC.w58 hR g2) (OutC.of (Or.inr rfl) g2)⟩
        · refine x_iconst (v := nI 4) G d_N_has_47 rfl ?_
          refine x_goto G d_N_has_48 ?_
          refine m_aald 4 G d_N_has_52 rfl (by decide) rfl ⟨by omega, by first | decide | omega⟩ rfl ?_
          refine x_iload1 G d_N_has_53 ?_
          refine m_iald p G d_N_has_54 rfl rfl ⟨by omega, by first | decide | omega⟩ ?_
          exact m_iret E G d_N_has_55 hx rfl rfl ⟨_, rfl, RC.mk' (S1 := S) (v1 := passN S (-1) j (ixP p 4)) (by simp only [fHas, c8, tp, c17, tj, c25, eq_true c44, Bool.and_true, Bool.true_and, Bool.and_false, Bool.false_and, Bool.or_true, Bool.true_or, Bool.or_false, Bool.false_or, Bool.not_true, Bool.not_false, Bool.false_eq_true, decide_true, decide_false, if_true, if_false]) (g1.p 4 (by decide) (by omega)) (OutC.w58 hR g2) (OutC.of (Or.inr rfl) g2)⟩
      · replace c25 := bI_0.mp c25
        refine x_ldc G d_N_has_28 kc_N_102 ?_
        exact m_iret E G d_N_has_30 hx rfl rfl ⟨_, rfl, RC.same hR (by simp only [fHas, c8, tp, c17, tj, c25, Bool.and_true, Bool.true_and, Bool.and_false, Bool.false_and, Bool.or_true, Bool.true_or, Bool.or_false, Bool.false_or, Bool.not_true, Bool.not_false, Bool.false_eq_true, decide_true, decide_false, if_true, if_false])⟩
theorem p_N_rota (g : CX) (d : Nat) (hd : 6 ≤ d) (σ : Sg) (S : Rw) (hO : CO S σ) (m : Int32) : RunM g d N_rota [.ref 0, .int m] σ (PR (RC (fRota S m) σ)) := by
  refine RunM.of 1 (by decide +kernel) rfl ?_
  intro κ hg hx hk0 G E
  subst hg
  have hk : 3 ≤ kn κ := Nat.le_of_eq hk0.symm
  show X κ NC 0 [some (.ref 0), some (.int m), none] [] (hv σ)
  obtain ⟨hR, hL, hI, hJ, h9⟩ := hO
  have hn8 := hI.n
  refine x_iload1 G d_N_rota_0 ?_
  refine x_bipush (v := nI 9) G d_N_rota_1 rfl ?_
  refine m_callS_pi (p_N_isUpTo (kg κ) (d - 1) (Nat.zero_le _) _ _ _) G d_N_rota_3 lk_N_98 (by omega) rfl (Nat.le_of_ble_eq_true rfl) hx ?_
  refine x_if_ne G d_N_rota_6 (fun c6 => ?_) (fun c6 => ?_)
  · replace c6 := bI_n0.mp c6
    obtain ⟨m, hm, tm, rfl⟩ := upB_ex (by decide) c6
    refine x_aload0 G d_N_rota_12 ?_
    refine m_getr G d_N_rota_13 fl_N_50 rfl (by decide) rfl ?_
    refine x_aload0 G d_N_rota_16 ?_
    refine m_getr G d_N_rota_17 fl_N_43 rfl (by decide) rfl ?_
    refine m_callV_pv (p_Wo_become (kg κ) (d - 1) (by omega) σ 58 28 hw58 hw28 (by decide) S hR) G d_N_rota_20 lk_N_186 rfl ⟨by decide, rfl⟩ (by decide) (by omega) rfl (Nat.le_of_ble_eq_true rfl) hx (fun σ0 ⟨g1, g2⟩ => ?_)
    refine x_iconst (v := nI 0) G d_N_rota_23 rfl ?_
    refine x_istore2 G d_N_rota_24 rfl hk ?_
    have hloop : ∀ (k2 k : Nat) (σ1 : Sg), k ≤ 101 → 101 < k + k2 → rtN S m k = -1 → WRel 58 (passN S (-1) k) σ1 → OutW 58 σ σ1 → X κ NC 25 [some (.ref 0), some (.int (nI m)), some (.int (nI k))] [] (hv σ1) := by
      intro k2
      induction k2 with
      | zero => intro k σ1 h1 h2; omega
      | succ k2 ih =>
        intro k σ1 hk1 hk2 hrt hR1 hO1
        obtain ⟨kI, k0, -, kz, kA, -⟩ := passN_keep hI (-1) k (by have := h9.2; omega)
        have kJ := passN_keep2 hI hJ (-1) k (by have := h9.2; omega)
        refine x_iload2 G d_N_rota_25 ?_
        refine x_bipush (v := nI 100) G d_N_rota_26 rfl ?_
        refine x_icmp_gt G d_N_rota_28 (fun c28 => ?_) (fun c28 => ?_)
        · have hk101 : k = 101 := by rcases Nat.lt_or_ge k 101 with z | z; exact absurd c28 (fun q => by rw [nlt (by decide) (by omega)] at q; omega); omega
          refine x_ldc G d_N_rota_59 kc_N_185 ?_
          exact m_iret E G d_N_rota_61 hx rfl rfl ⟨_, rfl, RC.mk' (S1 := S) (v1 := -1000000005) (by unfold fRota; rw [c6, tm, ← hk101, hrt]; rfl) rfl (OutC.w58 hR hO1) (OutC.of (Or.inr rfl) hO1)⟩
        · have hk101 : k < 101 := by rcases Nat.lt_or_ge 100 k with z | z; exact absurd ((nlt (by decide) (by omega)).mpr z) c28; omega
          refine x_aload0 G d_N_rota_31 ?_
          refine m_getr G d_N_rota_32 fl_N_50 rfl (by decide) rfl ?_
          refine x_iload1 G d_N_rota_35 ?_
          refine m_callV_pi (p_Wo_allHad (kg κ) (d - 1) (by omega) σ1 58 hw58 _ hR1 kI kJ m (by omega)) G d_N_rota_36 lk_N_213 rfl ⟨by decide, rfl⟩ (by decide) (by omega) rfl (Nat.le_of_ble_eq_true rfl) hx ?_
          refine x_if_eq G d_N_rota_39 (fun c39 => ?_) (fun c39 => ?_)
          · replace c39 := bI_0.mp c39
            refine x_aload0 G d_N_rota_44 ?_
            refine m_getr G d_N_rota_45 fl_N_50 rfl (by decide) rfl ?_
            refine x_iconst (v := nI 1) G d_N_rota_48 rfl ?_
            refine x_iconst (v := (-1)) G d_N_rota_49 rfl ?_
            refine m_callV_pv (p_Wo_pass (kg κ) (d - 1) (by omega) σ1 58 hw58 _ hR1 kI (lrel_of hw58 hI hL kA hO1) 1 (by rw [kz, tn_nI (by have := h9.2; omega)]; have := h9.2; omega) (-1)) G d_N_rota_50 lk_N_174 rfl ⟨by decide, rfl⟩ (by decide) (by omega) rfl (Nat.le_of_ble_eq_true rfl) hx (fun σ2 ⟨j1, j2, j3⟩ => ?_)
            refine x_iinc2 (v := nI (k + 1)) G d_N_rota_53 rfl hk (nI_1 _) ?_
            refine x_goto G d_N_rota_56 ?_
            exact ih (k + 1) σ2 (by omega) (by omega) (by rw [rtN, if_pos hrt, if_neg (by rw [c39]; decide)]) j1 (hO1.trans j2)
          · replace c39 := bI_n0.mp c39
            refine x_iload2 G d_N_rota_42 ?_
            exact m_iret E G d_N_rota_43 hx rfl rfl ⟨_, rfl, RC.mk' (S1 := S) (v1 := nI k) (by unfold fRota; rw [c6, tm, show rtN S m 101 = nI k from by have := rtN_stay (j := 100 - k) (show rtN S m (k + 1) = nI k by rw [rtN, if_pos hrt, if_pos c39]) (nI_m1 (by omega)); rw [show k + 1 + (100 - k) = 101 by omega] at this; exact this]; simp only [if_true]; rw [if_neg (nI_pos (by omega))]) rfl (OutC.w58 hR hO1) (OutC.of (Or.inr rfl) hO1)⟩
    exact hloop 102 0 σ0 (by decide) (by decide) rfl g1 g2
  · replace c6 := bI_0.mp c6
    refine x_ldc G d_N_rota_9 kc_N_102 ?_
    exact m_iret E G d_N_rota_11 hx rfl rfl ⟨_, rfl, RC.same hR (by simp only [fRota, c6, Bool.and_true, Bool.true_and, Bool.and_false, Bool.false_and, Bool.or_true, Bool.true_or, Bool.or_false, Bool.false_or, Bool.not_true, Bool.not_false, Bool.false_eq_true, decide_true, decide_false, if_true, if_false])⟩
theorem p_N_sold (g : CX) (d : Nat) (hd : 7 ≤ d) (σ : Sg) (S : Rw) (hO : CO S σ) (f one n : Int32) : RunM g d N_sold [.ref 0, .int f, .int one, .int n] σ (PR (RC (fSold S f one n) σ)) := by
  refine RunM.of 1 (by decide +kernel) rfl ?_
  intro κ hg hx hk0 G E
  subst hg
  have hk : 5 ≤ kn κ := Nat.le_of_eq hk0.symm
  show X κ NC 0 [some (.ref 0), some (.int f), some (.int one), some (.int n), none] [] (hv σ)
  obtain ⟨hR, hL, hI, hJ, h9⟩ := hO
  have hn8 := hI.n
  refine x_iload1 G d_N_sold_0 ?_
  refine x_bipush (v := nI 8) G d_N_sold_1 rfl ?_
  refine m_callS_pi (p_N_isUpTo (kg κ) (d - 1) (Nat.zero_le _) _ _ _) G d_N_sold_3 lk_N_98 (by omega) rfl (Nat.le_of_ble_eq_true rfl) hx ?_
  refine x_if_eq G d_N_sold_6 (fun c6 => ?_) (fun c6 => ?_)
  · replace c6 := bI_0.mp c6
    refine x_ldc G d_N_sold_31 kc_N_102 ?_
    exact m_iret E G d_N_sold_33 hx rfl rfl ⟨_, rfl, RC.same hR (by simp only [fSold, c6, Bool.and_true, Bool.true_and, Bool.and_false, Bool.false_and, Bool.or_true, Bool.true_or, Bool.or_false, Bool.false_or, Bool.not_true, Bool.not_false, Bool.false_eq_true, decide_true, decide_false, if_true, if_false])⟩
  · replace c6 := bI_n0.mp c6
    obtain ⟨f, hf, tf, rfl⟩ := upB_ex (by decide) c6
    refine x_aload0 G d_N_sold_9 ?_
    refine m_getr G d_N_sold_10 fl_N_43 rfl (by decide) rfl ?_
    refine x_iload2 G d_N_sold_13 ?_
    refine m_callV_pi (p_isOn (kg κ) (d - 1) _ 28 hw28 S hR _) G d_N_sold_14 lk_N_107 rfl ⟨by decide, rfl⟩ (by decide) (by omega) rfl (Nat.le_of_ble_eq_true rfl) hx ?_
    refine x_if_eq G d_N_sold_17 (fun c17 => ?_) (fun c17 => ?_)
    · replace c17 := bI_0.mp c17
      refine x_ldc G d_N_sold_31 kc_N_102 ?_
      exact m_iret E G d_N_sold_33 hx rfl rfl ⟨_, rfl, RC.same hR (by simp only [fSold, c6, tf, c17, Bool.and_true, Bool.true_and, Bool.and_false, Bool.false_and, Bool.or_true, Bool.true_or, Bool.or_false, Bool.false_or, Bool.not_true, Bool.not_false, Bool.false_eq_true, decide_true, decide_false, if_true, if_false])⟩
    · replace c17 := bI_n0.mp c17
      obtain ⟨p, hp, hpn, tp, rfl⟩ := one_ex hI c17
      refine x_iload3 G d_N_sold_20 ?_
      refine x_iconst (v := nI 1) G d_N_sold_21 rfl ?_
      refine x_icmp_lt G d_N_sold_22 (fun c22 => ?_) (fun c22 => ?_)
      · have cin : inB n (nI 1) (nI 60) = false := by simp only [inB, c22, decide_true, decide_false, Bool.not_false, Bool.not_true, Bool.and_true, Bool.and_false, Bool.false_and]
        refine x_ldc G d_N_sold_31 kc_N_102 ?_
        exact m_iret E G d_N_sold_33 hx rfl rfl ⟨_, rfl, RC.same hR (by simp only [fSold, c6, tf, c17, tp, cin, Bool.and_true, Bool.true_and, Bool.and_false, Bool.false_and, Bool.or_true, Bool.true_or, Bool.or_false, Bool.false_or, Bool.not_true, Bool.not_false, Bool.false_eq_true, decide_true, decide_false, if_true, if_false])⟩
      · refine x_iload3 G d_N_sold_25 ?_
        refine x_bipush (v := nI 60) G d_N_sold_26 rfl ?_
        refine x_icmp_le G d_N_sold_28 (fun c28 => ?_) (fun c28 => ?_)
        · replace c28 := Int32.not_lt.mpr c28
          have cin : inB n (nI 1) (nI 60) = true := by simp only [inB, c22, c28, decide_true, decide_false, Bool.not_false, Bool.not_true, Bool.and_true, Bool.and_false, Bool.false_and]
          obtain ⟨j, hj1, hj2, tj, rfl⟩ := inB_1 (by decide) cin
          refine x_aload0 G d_N_sold_34 ?_
          refine x_iload3 G d_N_sold_35 ?_
          refine m_callV_pv (p_N_think (kg κ) (d - 1) (by omega) σ S ⟨hR, hL, hI, hJ, h9⟩ j (by omega)) G d_N_sold_36 lk_N_209 rfl ⟨by decide, rfl⟩ (by decide) (by omega) rfl (Nat.le_of_ble_eq_true rfl) hx (fun σ1 ⟨g1, g2, g3⟩ => ?_)
          refine x_aload0 G d_N_sold_39 ?_
          refine m_getr G d_N_sold_40 fl_N_50 rfl (by decide) rfl ?_
          refine m_geti G d_N_sold_43 fl_N_178 rfl (by decide) rfl ?_
          refine x_istore4 G d_N_sold_46 rfl hk ?_
          refine x_aload0 G d_N_sold_48 ?_
          refine x_iload1 G d_N_sold_49 ?_
          refine x_iload2 G d_N_sold_50 ?_
          refine x_iload3 G d_N_sold_51 ?_
          refine m_callV_pv (p_N_thinkOwned (kg κ) (d - 1) (by omega) σ1 S ⟨OutC.w58 hR g2, lrel_of hw58 hI hL AgT.refl g2, hI, hJ, h9⟩ f (by omega) (nI p) (In.mk' (by omega) (by decide)) j (by omega)) G d_N_sold_52 lk_N_216 rfl ⟨by decide, rfl⟩ (by decide) (by omega) rfl (Nat.le_of_ble_eq_true rfl) hx (fun σ2 ⟨g4, g5⟩ => ?_)
          refine x_aload0 G d_N_sold_55 ?_
          refine m_getr G d_N_sold_56 fl_N_50 rfl (by decide) rfl ?_
          refine m_geti G d_N_sold_59 fl_N_178 rfl (by decide) rfl ?_
          refine x_iload4 G d_N_sold_62 ?_
          refine x_isub G d_N_sold_64 ?_
          exact m_iret E G d_N_sold_65 hx rfl rfl ⟨_, rfl, RC.mk' (S1 := S) (v1 := passN (own S f (nI p)) (-1) j 3 - passN S (-1) j 3) (by simp only [fSold, c6, tf, c17, tp, cin, tj, Bool.and_true, Bool.true_and, Bool.and_false, Bool.false_and, Bool.or_true, Bool.true_or, Bool.or_false, Bool.false_or, Bool.not_true, Bool.not_false, Bool.false_eq_true, decide_true, decide_false, if_true, if_false]) (by rw [show σ2 58 10 = _ from g4.steps, show σ1 58 10 = _ from g1.steps]) (OutC.w58 hR (g2.trans g5)) (OutC.of (Or.inr rfl) (g2.trans g5))⟩
        · replace c28 := Int32.not_le.mp c28
          have cin : inB n (nI 1) (nI 60) = false := by simp only [inB, c22, c28, decide_true, decide_false, Bool.not_false, Bool.not_true, Bool.and_true, Bool.and_false, Bool.false_and]
          refine x_ldc G d_N_sold_31 kc_N_102 ?_
          exact m_iret E G d_N_sold_33 hx rfl rfl ⟨_, rfl, RC.same hR (by simp only [fSold, c6, tf, c17, tp, cin, Bool.and_true, Bool.true_and, Bool.and_false, Bool.false_and, Bool.or_true, Bool.true_or, Bool.or_false, Bool.false_or, Bool.not_true, Bool.not_false, Bool.false_eq_true, decide_true, decide_false, if_true, if_false])⟩
theorem p_N_toll (g : CX) (d : Nat) (hd : 2 ≤ d) (σ : Sg) (S : Rw) (hO : CO S σ)  : RunM g d N_toll [.ref 0] σ (PR (RC (fToll S ) σ)) := by
  refine RunM.of 1 (by decide +kernel) rfl ?_
  intro κ hg hx hk0 G E
  subst hg
  have hk : 2 ≤ kn κ := Nat.le_of_eq hk0.symm
  show X κ NC 0 [some (.ref 0), none] [] (hv σ)
  obtain ⟨hR, hL, hI, hJ, h9⟩ := hO
  have hn8 := hI.n
  refine x_aload0 G d_N_toll_0 ?_
  refine m_getr G d_N_toll_1 fl_N_43 rfl (by decide) rfl ?_
  refine m_getr G d_N_toll_4 fl_N_233 rfl (by decide) rfl ?_
  refine x_iconst (v := nI 1) G d_N_toll_7 rfl ?_
  refine m_iald 1 G d_N_toll_8 rfl rfl ⟨by omega, by first | decide | omega⟩ ?_
  rw [show σ (28 + 14) 1 = cnt S 1 from hR.c (by decide)]
  refine x_istore1 G d_N_toll_9 rfl hk ?_
  refine x_iload1 G d_N_toll_10 ?_
  refine x_if_ge G d_N_toll_11 (fun c11 => ?_) (fun c11 => ?_)
  · replace c11 := Int32.not_lt.mpr c11
    rcases cnt_cases S 1 with ht | ⟨t, ht1, ht2, ht3⟩
    · exact absurd (by rw [ht]; decide) c11
    obtain ⟨hTV, ht14⟩ := hI.txt ht1
    refine x_aload0 G d_N_toll_24 ?_
    refine m_getr G d_N_toll_25 fl_N_34 rfl (by decide) rfl ?_
    refine x_iload1 G d_N_toll_28 ?_
    rw [ht2]
    refine x_aload0 G d_N_toll_29 ?_
    refine m_getr G d_N_toll_30 fl_N_43 rfl (by decide) rfl ?_
    refine m_geti G d_N_toll_33 fl_N_178 rfl (by decide) rfl ?_
    refine x_aload0 G d_N_toll_36 ?_
    refine m_getr G d_N_toll_37 fl_N_43 rfl (by decide) rfl ?_
    refine m_geti G d_N_toll_40 fl_N_168 rfl (by decide) rfl ?_
    refine x_iconst (v := nI 0) G d_N_toll_43 rfl ?_
    refine m_callV_pr (p_Lw_gives (kg κ) (d - 1) (by omega) σ S hL t ht1 ht14 hTV _ _ _) G d_N_toll_44 lk_N_236 rfl ⟨by decide, rfl⟩ (by decide) (by omega) rfl (Nat.le_of_ble_eq_true rfl) hx (fun v1 σ1 ⟨hv1, hF⟩ => ?_)
    exact m_iret E G d_N_toll_47 hx rfl rfl ⟨_, rfl, RC.mk' (S1 := S) (v1 := ev S (tn (cnt S 1)) (nmf 1 (S 3) (S 4) 0)) (by simp only [fToll, c11, Bool.and_true, Bool.true_and, Bool.and_false, Bool.false_and, Bool.or_true, Bool.true_or, Bool.or_false, Bool.false_or, Bool.not_true, Bool.not_false, Bool.false_eq_true, decide_true, decide_false, if_true, if_false]) (by rw [hv1, ht2, ht3, tn_nI (show 1 < 2 ^ 31 by decide), tn_nI (show t < 2 ^ 31 by omega), show σ 28 10 = _ from hR.steps, show σ 28 11 = _ from hR.left]; rfl) (hR.frame (fun k a b c => hF k (by omega))) (OutC.of (w := 28) (Or.inl rfl) (fun k _ c => hF k c))⟩
  · replace c11 := Int32.not_le.mp c11
    refine x_aload0 G d_N_toll_14 ?_
    refine m_getr G d_N_toll_15 fl_N_43 rfl (by decide) rfl ?_
    refine m_geti G d_N_toll_18 fl_N_178 rfl (by decide) rfl ?_
    refine x_goto G d_N_toll_21 ?_
    exact m_iret E G d_N_toll_47 hx rfl rfl ⟨_, rfl, RC.same hR (by simp only [fToll, c11, Bool.and_true, Bool.true_and, Bool.and_false, Bool.false_and, Bool.or_true, Bool.true_or, Bool.or_false, Bool.false_or, Bool.not_true, Bool.not_false, Bool.false_eq_true, decide_true, decide_false, if_true, if_false]; rw [← hR.steps])⟩
theorem p_N_fine (g : CX) (d : Nat) (hd : 2 ≤ d) (σ : Sg) (S : Rw) (hO : CO S σ) (one : Int32) : RunM g d N_fine [.ref 0, .int one] σ (PR (RC (fFine S one) σ)) := by
  refine RunM.of 2 (by decide +kernel) rfl ?_
  intro κ hg hx hk0 G E
  subst hg
  have hk : 4 ≤ kn κ := Nat.le_of_eq hk0.symm
  show X κ NC 0 [some (.ref 0), some (.int one), none, none] [] (hv σ)
  obtain ⟨hR, hL, hI, hJ, h9⟩ := hO
  have hn8 := hI.n
  refine x_aload0 G d_N_fine_0 ?_
  refine m_getr G d_N_fine_1 fl_N_43 rfl (by decide) rfl ?_
  refine x_iload1 G d_N_fine_4 ?_
  refine m_callV_pi (p_isOn (kg κ) (d - 1) _ 28 hw28 S hR _) G d_N_fine_5 lk_N_107 rfl ⟨by decide, rfl⟩ (by decide) (by omega) rfl (Nat.le_of_ble_eq_true rfl) hx ?_
  refine x_if_ne G d_N_fine_8 (fun c8 => ?_) (fun c8 => ?_)
  · replace c8 := bI_n0.mp c8
    obtain ⟨p, hp, hpn, tp, rfl⟩ := one_ex hI c8
    refine x_aload0 G d_N_fine_14 ?_
    refine m_getr G d_N_fine_15 fl_N_43 rfl (by decide) rfl ?_
    refine m_getr G d_N_fine_18 fl_N_233 rfl (by decide) rfl ?_
    refine x_iconst (v := nI 2) G d_N_fine_21 rfl ?_
    refine m_iald 2 G d_N_fine_22 rfl rfl ⟨by omega, by first | decide | omega⟩ ?_
    rw [show σ (28 + 14) 2 = cnt S 2 from hR.c (by decide)]
    refine x_istore2 G d_N_fine_23 rfl hk ?_
    refine x_aload0 G d_N_fine_24 ?_
    refine m_getr G d_N_fine_25 fl_N_43 rfl (by decide) rfl ?_
    refine m_getr G d_N_fine_28 fl_N_115 rfl (by decide) rfl ?_
    refine x_iconst (v := nI 4) G d_N_fine_31 rfl ?_
    refine m_aald 4 G d_N_fine_32 rfl (by decide) rfl ⟨by omega, by first | decide | omega⟩ rfl ?_
    refine x_iload1 G d_N_fine_33 ?_
    refine m_iald p G d_N_fine_34 rfl rfl ⟨by omega, by first | decide | omega⟩ ?_
    rw [show σ (28 + 2 + 4) p = S (ixP p 4) from hR.p 4 (by decide) hp]
    refine x_istore3 G d_N_fine_35 rfl hk ?_
    refine x_iload2 G d_N_fine_36 ?_
    refine x_if_ge G d_N_fine_37 (fun c37 => ?_) (fun c37 => ?_)
    · replace c37 := Int32.not_lt.mpr c37
      rcases cnt_cases S 2 with ht | ⟨t, ht1, ht2, ht3⟩
      · exact absurd (by rw [ht]; decide) c37
      obtain ⟨hTV, ht14⟩ := hI.txt ht1
      refine x_aload0 G d_N_fine_44 ?_
      refine m_getr G d_N_fine_45 fl_N_34 rfl (by decide) rfl ?_
      refine x_iload2 G d_N_fine_48 ?_
      refine x_iload3 G d_N_fine_49 ?_
      refine x_aload0 G d_N_fine_50 ?_
      refine m_getr G d_N_fine_51 fl_N_43 rfl (by decide) rfl ?_
      refine m_getr G d_N_fine_54 fl_N_115 rfl (by decide) rfl ?_
      refine x_iconst (v := nI 5) G d_N_fine_57 rfl ?_
      refine m_aald 5 G d_N_fine_58 rfl (by decide) rfl ⟨by omega, by first | decide | omega⟩ rfl ?_
      refine x_iload1 G d_N_fine_59 ?_
      refine m_iald p G d_N_fine_60 rfl rfl ⟨by omega, by first | decide | omega⟩ ?_
      rw [show σ (28 + 2 + 5) p = S (ixP p 5) from hR.p 5 (by decide) hp, ht2]
      refine x_iconst (v := nI 0) G d_N_fine_61 rfl ?_
      refine m_callV_pr (p_Lw_gives (kg κ) (d - 1) (by omega) σ S hL t ht1 ht14 hTV _ _ _) G d_N_fine_62 lk_N_236 rfl ⟨by decide, rfl⟩ (by decide) (by omega) rfl (Nat.le_of_ble_eq_true rfl) hx (fun v1 σ1 ⟨hv1, hF⟩ => ?_)
      exact m_iret E G d_N_fine_65 hx rfl rfl ⟨_, rfl, RC.mk' (S1 := S) (v1 := ev S (tn (cnt S 2)) (nmf 2 (S (ixP p 4)) (S (ixP p 5)) 0)) (by simp only [fFine, c8, tp, c37, Bool.and_true, Bool.true_and, Bool.and_false, Bool.false_and, Bool.or_true, Bool.true_or, Bool.or_false, Bool.false_or, Bool.not_true, Bool.not_false, Bool.false_eq_true, decide_true, decide_false, if_true, if_false]) (by rw [hv1, ht2, ht3, tn_nI (show 2 < 2 ^ 31 by decide), tn_nI (show t < 2 ^ 31 by omega)]; rfl) (hR.frame (fun k a b c => hF k (by omega))) (OutC.of (w := 28) (Or.inl rfl) (fun k _ c => hF k c))⟩
    · replace c37 := Int32.not_le.mp c37
      refine x_iload3 G d_N_fine_40 ?_
      refine x_goto G d_N_fine_41 ?_
      exact m_iret E G d_N_fine_65 hx rfl rfl ⟨_, rfl, RC.same hR (by simp only [fFine, c8, tp, c37, Bool.and_true, Bool.true_and, Bool.and_false, Bool.false_and, Bool.or_true, Bool.true_or, Bool.or_false, Bool.false_or, Bool.not_true, Bool.not_false, Bool.false_eq_true, decide_true, decide_false, if_true, if_false])⟩
  · replace c8 := bI_0.mp c8
    refine x_ldc G d_N_fine_11 kc_N_102 ?_
    exact m_iret E G d_N_fine_13 hx rfl rfl ⟨_, rfl, RC.same hR (by simp only [fFine, c8, Bool.and_true, Bool.true_and, Bool.and_false, Bool.false_and, Bool.or_true, Bool.true_or, Bool.or_false, Bool.false_or, Bool.not_true, Bool.not_false, Bool.false_eq_true, decide_true, decide_false, if_true, if_false])⟩
theorem p_N_nobodys (g : CX) (d : Nat) (hd : 7 ≤ d) (σ : Sg) (S : Rw) (hO : CO S σ) (n what : Int32) : RunM g d N_nobodys [.ref 0, .int n, .int what] σ (PR (RC (fNobodys S n what) σ)) := by
  refine RunM.of 4 (by decide +kernel) rfl ?_
  intro κ hg hx hk0 G E
  subst hg
  have hk : 7 ≤ kn κ := Nat.le_of_eq hk0.symm
  show X κ NC 0 [some (.ref 0), some (.int n), some (.int what), none, none, none, none] [] (hv σ)
  obtain ⟨hR, hL, hI, hJ, h9⟩ := hO
  have hn8 := hI.n
  refine x_iload1 G d_N_nobodys_0 ?_
  refine x_iconst (v := nI 1) G d_N_nobodys_1 rfl ?_
  refine x_icmp_lt G d_N_nobodys_2 (fun c2 => ?_) (fun c2 => ?_)
  · have cin : inB n (nI 1) (nI 60) = false := by simp only [inB, c2, decide_true, decide_false, Bool.not_false, Bool.not_true, Bool.and_true, Bool.and_false, Bool.false_and]
    refine x_ldc G d_N_nobodys_19 kc_N_102 ?_
    exact m_iret E G d_N_nobodys_21 hx rfl rfl ⟨_, rfl, RC.same hR (by simp only [fNobodys, cin, Bool.and_true, Bool.true_and, Bool.and_false, Bool.false_and, Bool.or_true, Bool.true_or, Bool.or_false, Bool.false_or, Bool.not_true, Bool.not_false, Bool.false_eq_true, decide_true, decide_false, if_true, if_false])⟩
  · refine x_iload1 G d_N_nobodys_5 ?_
    refine x_bipush (v := nI 60) G d_N_nobodys_6 rfl ?_
    refine x_icmp_gt G d_N_nobodys_8 (fun c8 => ?_) (fun c8 => ?_)
    · have cin : inB n (nI 1) (nI 60) = false := by simp only [inB, c2, c8, decide_true, decide_false, Bool.not_false, Bool.not_true, Bool.and_true, Bool.and_false, Bool.false_and]
      refine x_ldc G d_N_nobodys_19 kc_N_102 ?_
      exact m_iret E G d_N_nobodys_21 hx rfl rfl ⟨_, rfl, RC.same hR (by simp only [fNobodys, cin, Bool.and_true, Bool.true_and, Bool.and_false, Bool.false_and, Bool.or_true, Bool.true_or, Bool.or_false, Bool.false_or, Bool.not_true, Bool.not_false, Bool.false_eq_true, decide_true, decide_false, if_true, if_false])⟩
    · have cin : inB n (nI 1) (nI 60) = true := by simp only [inB, c2, c8, decide_true, decide_false, Bool.not_false, Bool.not_true, Bool.and_true, Bool.and_false, Bool.false_and]
      obtain ⟨j, hj1, hj2, tj, rfl⟩ := inB_1 (by decide) cin
      refine x_iload2 G d_N_nobodys_11 ?_
      refine x_iconst (v := nI 1) G d_N_nobodys_12 rfl ?_
      refine m_callS_pi (p_N_isUpTo (kg κ) (d - 1) (Nat.zero_le _) _ _ _) G d_N_nobodys_13 lk_N_98 (by omega) rfl (Nat.le_of_ble_eq_true rfl) hx ?_
      refine x_if_ne G d_N_nobodys_16 (fun c16 => ?_) (fun c16 => ?_)
      · replace c16 := bI_n0.mp c16
        refine x_iconst (v := nI 0) G d_N_nobodys_22 rfl ?_
        refine x_istore3 G d_N_nobodys_23 rfl hk ?_
        refine x_iconst (v := nI 0) G d_N_nobodys_24 rfl ?_
        refine x_istore4 G d_N_nobodys_25 rfl hk ?_
        refine x_iconst (v := nI 0) G d_N_nobodys_27 rfl ?_
        refine x_istore5 G d_N_nobodys_28 rfl hk ?_
        have hloop : ∀ (m f : Nat) (σ1 : Sg) (fl le : Int32) (o6 : Option Value), f ≤ 9 → 9 < f + m → nbSt S j f fl le → OutW 58 σ σ1 → X κ NC 30 [some (.ref 0), some (.int (nI j)), some (.int what), some (.int fl), some (.int le), some (.int (nI f)), o6] [] (hv σ1) := by
          intro m
          induction m with
          | zero => intro f σ1 fl le o6 h1 h2; omega
          | succ m ih =>
            intro f σ1 fl le o6 hf1 hf2 hst hO1
            have hO1' : CO S σ1 := ⟨OutC.w58 hR hO1, lrel_of hw58 hI hL AgT.refl hO1, hI, hJ, h9⟩
            refine x_iload5 G d_N_nobodys_30 ?_
            refine x_bipush (v := nI 9) G d_N_nobodys_32 rfl ?_
            refine x_icmp_ge G d_N_nobodys_34 (fun c34 => ?_) (fun c34 => ?_)
            · replace c34 := Int32.not_lt.mpr c34
              have hf9 : f = 9 := by rw [nlt (by omega) (by decide)] at c34; omega
              have hst9 := hst.resolve_left (by omega)
              refine x_iload2 G d_N_nobodys_91 ?_
              refine x_if_ne G d_N_nobodys_92 (fun c92 => ?_) (fun c92 => ?_)
              · refine x_iload4 G d_N_nobodys_99 ?_
                exact m_iret E G d_N_nobodys_101 hx rfl rfl ⟨_, rfl, RC.mk' (S1 := S) (v1 := (nbN S j 9).2) (by simp only [fNobodys, cin, tj, c16, c92, Bool.and_true, Bool.true_and, Bool.and_false, Bool.false_and, Bool.or_true, Bool.true_or, Bool.or_false, Bool.false_or, Bool.not_true, Bool.not_false, Bool.false_eq_true, decide_true, decide_false, if_true, if_false]) (by rw [← hf9]; exact hst9.2.2) (OutC.w58 hR hO1) (OutC.of (Or.inr rfl) hO1)⟩
              · refine x_iload3 G d_N_nobodys_95 ?_
                refine x_goto G d_N_nobodys_96 ?_
                exact m_iret E G d_N_nobodys_101 hx rfl rfl ⟨_, rfl, RC.mk' (S1 := S) (v1 := (nbN S j 9).1) (by simp only [fNobodys, cin, tj, c16, eq_true c92, Bool.and_true, Bool.true_and, Bool.and_false, Bool.false_and, Bool.or_true, Bool.true_or, Bool.or_false, Bool.false_or, Bool.not_true, Bool.not_false, Bool.false_eq_true, decide_true, decide_false, if_true, if_false]) (by rw [← hf9]; exact hst9.2.1) (OutC.w58 hR hO1) (OutC.of (Or.inr rfl) hO1)⟩
            · replace c34 := Int32.not_le.mp c34
              have hf9 : f < 9 := by rw [nlt (by omega) (by decide)] at c34; omega
              refine x_aload0 G d_N_nobodys_37 ?_
              refine x_iload5 G d_N_nobodys_38 ?_
              refine x_bipush (v := nI 8) G d_N_nobodys_40 rfl ?_
              refine x_iload1 G d_N_nobodys_42 ?_
              refine m_callV_pv (p_N_thinkOwned (kg κ) (d - 1) (by omega) σ1 S hO1' f hf9 (nI 8) (In.mk' (by decide) (by decide)) j (by omega)) G d_N_nobodys_43 lk_N_216 rfl ⟨by decide, rfl⟩ (by decide) (by omega) rfl (Nat.le_of_ble_eq_true rfl) hx (fun σ2 ⟨g4, g5⟩ => ?_)
              refine x_aload0 G d_N_nobodys_46 ?_
              refine m_getr G d_N_nobodys_47 fl_N_50 rfl (by decide) rfl ?_
              refine m_geti G d_N_nobodys_50 fl_N_178 rfl (by decide) rfl ?_
              refine x_bipush (v := nI 100) G d_N_nobodys_53 rfl ?_
              refine x_aload0 G d_N_nobodys_55 ?_
              refine m_getr G d_N_nobodys_56 fl_N_50 rfl (by decide) rfl ?_
              refine m_geti G d_N_nobodys_59 fl_N_168 rfl (by decide) rfl ?_
              refine x_imul G d_N_nobodys_62 ?_
              refine x_iadd G d_N_nobodys_63 ?_
              rw [show σ2 58 10 = _ from g4.steps, show σ2 58 11 = _ from g4.left, show passN (own S f (nI 8)) (-1) j 3 + nI 100 * passN (own S f (nI 8)) (-1) j 4 = nbV S j f from rfl]
              refine x_istore6 G d_N_nobodys_64 rfl hk ?_
              refine x_iload5 G d_N_nobodys_66 ?_
              refine x_if_eq G d_N_nobodys_68 (fun c68 => ?_) (fun c68 => ?_)
              · refine x_iload5 G d_N_nobodys_78 ?_
                refine x_istore3 G d_N_nobodys_80 rfl hk ?_
                refine x_iload6 G d_N_nobodys_81 ?_
                refine x_istore4 G d_N_nobodys_83 rfl hk ?_
                refine x_iinc5 (v := nI (f + 1)) G d_N_nobodys_85 rfl hk (nI_1 _) ?_
                refine x_goto G d_N_nobodys_88 ?_
                exact ih (f + 1) σ2 _ _ _ (by omega) (by omega) (nb_new hst (Or.inl ((n0e (by omega)).mp c68))) (hO1.trans g5)
              · refine x_iload6 G d_N_nobodys_71 ?_
                refine x_iload4 G d_N_nobodys_73 ?_
                refine x_icmp_ge G d_N_nobodys_75 (fun c75 => ?_) (fun c75 => ?_)
                · replace c75 := Int32.not_lt.mpr c75
                  refine x_iinc5 (v := nI (f + 1)) G d_N_nobodys_85 rfl hk (nI_1 _) ?_
                  refine x_goto G d_N_nobodys_88 ?_
                  exact ih (f + 1) σ2 _ _ _ (by omega) (by omega) (nb_old hf9 hst (fun z => c68 (by rw [z]; rfl)) c75) (hO1.trans g5)
                · replace c75 := Int32.not_le.mp c75
                  refine x_iload5 G d_N_nobodys_78 ?_
                  refine x_istore3 G d_N_nobodys_80 rfl hk ?_
                  refine x_iload6 G d_N_nobodys_81 ?_
                  refine x_istore4 G d_N_nobodys_83 rfl hk ?_
                  refine x_iinc5 (v := nI (f + 1)) G d_N_nobodys_85 rfl hk (nI_1 _) ?_
                  refine x_goto G d_N_nobodys_88 ?_
                  exact ih (f + 1) σ2 _ _ _ (by omega) (by omega) (nb_new hst (Or.inr c75)) (hO1.trans g5)
        exact hloop 10 0 σ (nI 0) (nI 0) none (Nat.zero_le _) (by decide) (Or.inl ⟨rfl, rfl, rfl⟩) OutW.refl
      · replace c16 := bI_0.mp c16
        refine x_ldc G d_N_nobodys_19 kc_N_102 ?_
        exact m_iret E G d_N_nobodys_21 hx rfl rfl ⟨_, rfl, RC.same hR (by simp only [fNobodys, cin, tj, c16, Bool.and_true, Bool.true_and, Bool.and_false, Bool.false_and, Bool.or_true, Bool.true_or, Bool.or_false, Bool.false_or, Bool.not_true, Bool.not_false, Bool.false_eq_true, decide_true, decide_false, if_true, if_false])⟩
