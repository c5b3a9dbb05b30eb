/-! a noon: the spec, World's stands, draw, arrive, catchNearHome, setOut, pass -/
section XN
variable {κ : KX} {own : String} {b : ByteArray} {d : Nat} {pc q : Nat} {L : List (Option Value)} {st : List Value} {σ : Sg}
theorem m_iast_n {k len : Nat} {i x : Int32} (j : Nat) (G : Gc κ own b d) (hd : dc b pc q .iastore 1) (hs : shp k = .inr (0, len)) (hi : i = nI j) (hj : j < len ∧ len < 2 ^ 31) (kk : ∀ σ', σ' = updS σ k j x → X κ NC q L st (hv σ')) : X κ NC pc L (.int x :: .int i :: .ref k :: st) (hv σ) := m_iast j G hd hs hi hj (kk _ rfl)
theorem m_zast_n {k len : Nat} {i x : Int32} (j : Nat) (G : Gc κ own b d) (hd : dc b pc q .bastore 1) (hs : shp k = .inr (1, len)) (hi : i = nI j) (hj : j < len ∧ len < 2 ^ 31) (hx : x = 0 ∨ x = 1) (kk : ∀ σ', σ' = updS σ k j x → X κ NC q L st (hv σ')) : X κ NC pc L (.int x :: .int i :: .ref k :: st) (hv σ) := m_zast j G hd hs hi hj hx (kk _ rfl)
theorem m_puti_n {idx ci j k : Nat} {x : Int32} (G : Gc κ own b d) (hd : dc b pc q (.putfield idx) 3) (fl : FL own idx ci j) (hs : shp k = .inl ci) (hk : k < 135) (hi : ivk k j = true) (hf : ((gcl ci).2.1 j).2.2.2 = false) (ht : clty ci j = .int) (kk : ∀ σ', σ' = updS σ k j x → X κ NC q L st (hv σ')) : X κ NC pc L (.int x :: .ref k :: st) (hv σ) := m_puti G hd fl hs hk hi hf ht (kk _ rfl)
end XN
def StT (w : Nat) (T : Nat → Int32) (σ : Sg) : Prop := ∀ i, i < 8 → σ (w + 13) i = T i
def OutW (w : Nat) (σ σ' : Sg) : Prop := ∀ k, (k < w ∨ w + 15 ≤ k) → k ≠ 27 → σ' k = σ k
theorem OutW.refl {w : Nat} {σ : Sg} : OutW w σ σ := fun _ _ _ => rfl
theorem OutW.trans {w : Nat} {σ σ' σ'' : Sg} (h : OutW w σ σ') (h2 : OutW w σ' σ'') : OutW w σ σ'' := fun k h3 h4 => (h2 k h3 h4).trans (h k h3 h4)
theorem OutW.upd {w k j : Nat} {x : Int32} {σ σ' : Sg} (h : OutW w σ σ') (hk : w ≤ k ∧ k < w + 15) : OutW w σ (updS σ' k j x) := fun a h3 h4 => by
  rw [updS_nk (by omega)]; exact h a h3 h4
/-- rows that agree on the texts -/
def AgT (S S' : Rw) : Prop := S' 1 = S 1 ∧ ∀ i, 90 ≤ i → S' i = S i
theorem AgT.refl {S : Rw} : AgT S S := ⟨rfl, fun _ _ => rfl⟩
theorem AgT.trans {S S' S'' : Rw} (h : AgT S S') (h2 : AgT S' S'') : AgT S S'' := ⟨h2.1.trans h.1, fun i hi => (h2.2 i hi).trans (h.2 i hi)⟩
theorem AgT.upd {S S' : Rw} {i : Nat} {x : Int32} (h : AgT S S') (hi : i < 90) (h1 : i ≠ 1) : AgT S (upd S' i x) := ⟨by rw [pk_un (Ne.symm h1)]; exact h.1, fun k hk => by rw [pk_un (by omega)]; exact h.2 k hk⟩
theorem cntN_agT {S S' : Rw} (h : AgT S S') (key : Int32) : ∀ n, cntN S' key n = cntN S key n
  | 0 => rfl
  | n + 1 => by rw [cntN, cntN, h.2 (ixT n 0) (by unfold ixT; omega), cntN_agT h key n]
theorem cnt_agT {S S' : Rw} (h : AgT S S') (key : Nat) : cnt S' key = cnt S key := by unfold cnt; rw [h.1]; exact cntN_agT h _ _
theorem wT_agT {S S' : Rw} (h : AgT S S') (t k : Nat) : wT S' t k = wT S t k := h.2 _ (by unfold ixT; omega)
theorem vT_agT {S S' : Rw} (h : AgT S S') (t k : Nat) : vT S' t k = vT S t k := h.2 _ (by unfold ixT; omega)
theorem mT_agT {S S' : Rw} (h : AgT S S') (t : Nat) : mT S' t = mT S t := by unfold mT; rw [h.2 _ (by unfold ixT; omega)]
theorem dN_agT {S S' : Rw} (h : AgT S S') (t : Nat) : ∀ k, dN S' t k = dN S t k
  | 0 => rfl
  | k + 1 => by rw [dN, dN, wT_agT h, vT_agT h, dN_agT h t k]
theorem evV_agT {S S' : Rw} (h : AgT S S') (t : Nat) (nm : Nat → Int32) : ∀ k, evV S' t nm k = evV S t nm k
  | 0 => rfl
  | k + 1 => by rw [evV, evV, wT_agT h, vT_agT h, dN_agT h, evV_agT h t nm k]
theorem ev_agT {S S' : Rw} (h : AgT S S') (t : Nat) (nm : Nat → Int32) : ev S' t nm = ev S t nm := by unfold ev; rw [evV_agT h, mT_agT h]
theorem TV_agT {S S' : Rw} (h : AgT S S') {t : Nat} (ht : TV S t) : TV S' t := by
  unfold TV okS
  simp only [mT_agT h, wT_agT h, vT_agT h, dN_agT h, h.2 (ixT t 2) (by unfold ixT; omega), h.2 (ixT t 0) (by unfold ixT; omega)]
  exact ht
theorem LRel_agT {S S' : Rw} {σ σ' : Sg} (h : AgT S S') (hσ : ∀ k, 10 ≤ k → k < 27 → σ' k = σ k) (hL : LRel S σ) (h14 : tn (S 1) ≤ 14) : LRel S' σ' := by
  intro t ht
  rw [h.1] at ht
  obtain ⟨h1, h2, h3, h4⟩ := hL t ht
  rw [h.2 (ixT t 2) (by unfold ixT; omega), h.2 (ixT t 1) (by unfold ixT; omega), h.2 (ixT t 0) (by unfold ixT; omega), hσ 24 (by decide) (by decide), hσ 25 (by decide) (by decide), hσ 26 (by decide) (by decide)]
  refine ⟨h1, h2, h3, fun k hk => ?_⟩
  rw [mT_agT h] at hk
  rw [wT_agT h, vT_agT h, hσ (10 + t) (by omega) (by omega)]
  exact h4 k hk
section WU
variable {w : Nat} {S : Rw} {σ : Sg}
theorem WRel.st (h : WRel w S σ) {j : Nat} {x : Int32} : WRel w S (updS σ (w + 13) j x) := h.frame (fun k _ _ h3 => updS_nk h3)
theorem WRel.setp (h : WRel w S σ) {i k : Nat} (hk : k < 6) (hi : i < 8) (x : Int32) : WRel w (upd S (ixP i k) x) (updS σ (w + 2 + k) i x) := by
  have ha : AgT S (upd S (ixP i k) x) := AgT.refl.upd (by unfold ixP; omega) (by unfold ixP; omega)
  refine ⟨fun k' i' hk' hi' => ?_, fun k' f' hk' hf' => ?_, fun i' hi' => ?_, fun k' hk' => ?_, ?_⟩
  · by_cases q : k' = k ∧ i' = i
    · obtain ⟨rfl, rfl⟩ := q
      rw [updS_at, pk_us]
    · rw [updS_ne (by omega), pk_un (by unfold ixP; omega)]
      exact h.p k' hk' hi'
  · rw [updS_ne (by omega), pk_un (by unfold ixP ixF; omega)]
    exact h.f k' hk' hf'
  · rw [updS_ne (by omega), pk_un (by unfold ixP; omega)]
    exact h.t hi'
  · rw [updS_ne (by omega), cnt_agT ha]
    exact h.c hk'
  · have e : ∀ j, j < 7 → upd S (ixP i k) x j = S j := fun j hj => pk_un (by unfold ixP; omega)
    rw [updS_nk (by omega), e 0 (by decide), e 1 (by decide), e 2 (by decide), e 3 (by decide), e 4 (by decide), e 5 (by decide), e 6 (by decide)]
    exact h.2.2.2.2
theorem WRel.setf (h : WRel w S σ) {f k : Nat} (hk : k < 3) (hf : f < 9) (x : Int32) : WRel w (upd S (ixF f k) x) (updS σ (w + 9 + k) f x) := by
  have ha : AgT S (upd S (ixF f k) x) := AgT.refl.upd (by unfold ixF; omega) (by unfold ixF; omega)
  refine ⟨fun k' i' hk' hi' => ?_, fun k' f' hk' hf' => ?_, fun i' hi' => ?_, fun k' hk' => ?_, ?_⟩
  · rw [updS_ne (by omega), pk_un (by unfold ixP ixF; omega)]
    exact h.p k' hk' hi'
  · by_cases q : k' = k ∧ f' = f
    · obtain ⟨rfl, rfl⟩ := q
      rw [updS_at, pk_us]
    · rw [updS_ne (by omega), pk_un (by unfold ixF; omega)]
      exact h.f k' hk' hf'
  · rw [updS_ne (by omega), pk_un (by unfold ixP ixF; omega)]
    exact h.t hi'
  · rw [updS_ne (by omega), cnt_agT ha]
    exact h.c hk'
  · have e : ∀ j, j < 7 → upd S (ixF f k) x j = S j := fun j hj => pk_un (by unfold ixF; omega)
    rw [updS_nk (by omega), e 0 (by decide), e 1 (by decide), e 2 (by decide), e 3 (by decide), e 4 (by decide), e 5 (by decide), e 6 (by decide)]
    exact h.2.2.2.2
/-- a number of the World itself: its field j, the row's place i -/
def scal (j i : Nat) : Prop := (j = 7 ∧ i = 0) ∨ (j = 8 ∧ i = 2) ∨ (j = 9 ∧ i = 5) ∨ (j = 10 ∧ i = 3) ∨ (j = 11 ∧ i = 4) ∨ (j = 12 ∧ i = 6)
theorem WRel.sets (h : WRel w S σ) {j i : Nat} (hji : scal j i) (x : Int32) : WRel w (upd S i x) (updS σ w j x) := by
  have hi7 : i < 7 ∧ i ≠ 1 := by unfold scal at hji; omega
  have ha : AgT S (upd S i x) := AgT.refl.upd (by omega) hi7.2
  refine ⟨fun k' i' hk' hi' => ?_, fun k' f' hk' hf' => ?_, fun i' hi' => ?_, fun k' hk' => ?_, ?_⟩
  · rw [updS_ne (by omega), pk_un (by unfold ixP; omega)]
    exact h.p k' hk' hi'
  · rw [updS_ne (by omega), pk_un (by unfold ixF; omega)]
    exact h.f k' hk' hf'
  · rw [updS_ne (by omega), pk_un (by unfold ixP; omega)]
    exact h.t hi'
  · rw [updS_ne (by omega), cnt_agT ha]
    exact h.c hk'
  · rcases hji with ⟨rfl, rfl⟩ | ⟨rfl, rfl⟩ | ⟨rfl, rfl⟩ | ⟨rfl, rfl⟩ | ⟨rfl, rfl⟩ | ⟨rfl, rfl⟩ <;>
      simp [updS, upd, h.n, h.noon, h.late, h.steps, h.left, h.z, h.texts]
end WU
/-! the spec -/
def zn (z : Int32) : Int32 := z * 1103515245 + nI 12345
def dval (z : Int32) : Int32 := (z.toUInt32 >>> ((nI 8).toUInt32 &&& Int32.toUInt32 31)).toInt32
def sArr (S : Rw) (p f : Nat) : Rw :=
  let S2 := upd S (ixF f 1) (if nI 0 < S (ixF f 1) - nI 1 then S (ixF f 1) - nI 1 else nI 0)
  let S3 := upd S2 (ixP p 3) (S2 (ixP p 3) ||| nI 1 <<< (nI f &&& 31))
  if S (ixF f 0) ≠ nI p ∧ isO (S 0) (S (ixF f 0)) = true then upd S3 (ixP (tn (S (ixF f 0))) 4) (S3 (ixP (tn (S (ixF f 0))) 4) + nI 1) else S3
def gst (S : Rw) (T : Nat → Int32) (p : Nat) : Nat → Int32 × Int32
  | 0 => (-1, nI 0)
  | f + 1 => if sMay S p f && sFree S T p f && (decide ((gst S T p f).1 = -1) || decide (sWalk S p f < (gst S T p f).2)) then (nI f, sWalk S p f) else gst S T p f
def sGo (S : Rw) (T : Nat → Int32) (p : Nat) : Rw × (Nat → Int32) :=
  if (gst S T p 9).1 = -1 then (upd S 4 (S 4 + nI 1), T) else (sArr (upd S 3 (S 3 + (gst S T p 9).2)) p (tn (gst S T p 9).1), upd T p (gst S T p 9).1)
def sCat (S : Rw) (T : Nat → Int32) : Nat → Rw
  | 0 => S
  | p + 1 => let q := sCat S T p
    if T p ≠ -1 ∧ farN (tn (S (ixP p 1))) (tn (T p)) ≤ 1 then upd q (ixP p 5) (q (ixP p 5) + nI 1) else q
def sGos (S : Rw) (ab : Int32) : Nat → Rw × (Nat → Int32)
  | 0 => (S, fun _ => -1)
  | i + 1 => let q := sGos S ab i
    if nI ((tn (S 2) + i) % tn (S 0)) = ab then q else sGo q.1 q.2 ((tn (S 2) + i) % tn (S 0))
def irm (x y : Int32) : Int32 := x - x / y * y
def sNoonT (S : Rw) (ab : Int32) : Nat → Int32 := (sGos S ab (tn (S 0))).2
def sNoon (S : Rw) (ab : Int32) : Rw :=
  let S1 := upd (sGos S ab (tn (S 0))).1 6 (zn ((sGos S ab (tn (S 0))).1 6))
  let S2 := if irm (dval (S1 6)) (nI 100) < S 5 then sCat S1 (sNoonT S ab) (tn (S 0)) else S1
  upd S2 2 (S2 2 + nI 1)
def sumN (f : Nat → Int32) : Nat → Int32
  | 0 => nI 0
  | n + 1 => sumN f n + f n
theorem p_Wo_standNowhere (g : CX) (d : Nat) (hd : 0 ≤ d) (σ : Sg) (w : Nat) (hw : isW w) : RunM g d Wo_standNowhere [.ref w] σ (PV (fun σ1 => StT w (fun _ => -1) σ1 ∧ ∀ k, k ≠ w + 13 → σ1 k = σ k)) := by
  refine RunM.of 1 (by decide +kernel) rfl ?_
  intro κ hg hx hk0 G E
  subst hg
  have hk : 2 ≤ kn κ := Nat.le_of_eq hk0.symm
  show X κ NC 0 [some (.ref w), none] [] (hv σ)
  refine x_iconst (v := nI 0) G d_Wo_standNowhere_0 rfl ?_
  refine x_istore1 G d_Wo_standNowhere_1 rfl hk ?_
  have hloop : ∀ (m i : Nat) (σ1 : Sg), i ≤ 8 → 8 < i + m → (∀ j, j < i → σ1 (w + 13) j = -1) → (∀ k, k ≠ w + 13 → σ1 k = σ k) → X κ NC 2 [some (.ref w), some (.int (nI i))] [] (hv σ1) := by
    intro m
    induction m with
    | zero => intro i σ1 h1 h2; omega
    | succ m ih =>
      intro i σ1 hi1 hi2 hJ hF
      refine x_iload1 G d_Wo_standNowhere_2 ?_
      refine x_bipush (v := nI 8) G d_Wo_standNowhere_3 rfl ?_
      refine x_icmp_ge G d_Wo_standNowhere_5 (fun c5 => ?_) (fun c5 => ?_)
      · have hi8 : i = 8 := by rw [nle (by omega) (by omega)] at c5; omega
        exact m_vret E G d_Wo_standNowhere_21 hx rfl ⟨rfl, (fun j hj => hJ j (by omega)), hF⟩
      · have hi8 : i < 8 := by rw [nle (by omega) (by omega)] at c5; omega
        refine x_aload0 G d_Wo_standNowhere_8 ?_
        refine m_getr G d_Wo_standNowhere_9 fl_Wo_23 (W_o hw) (W_l hw) (W_r5 hw) ?_
        refine x_iload1 G d_Wo_standNowhere_12 ?_
        refine x_iconst (v := (-1)) G d_Wo_standNowhere_13 rfl ?_
        refine m_iast i G d_Wo_standNowhere_14 (W_s13 hw) rfl ⟨by omega, by first | decide | omega⟩ ?_
        refine x_iinc1 (v := nI (i + 1)) G d_Wo_standNowhere_15 rfl hk (nI_1 _) ?_
        refine x_goto G d_Wo_standNowhere_18 ?_
        exact ih (i + 1) _ (by omega) (by omega) (fun j hj => by
          rw [updS_row]
          unfold upd
          by_cases q : j = i
          · rw [if_pos q]
          · rw [if_neg q]; exact hJ j (by omega)) (fun k hk => by rw [updS_nk hk]; exact hF k hk)
  exact hloop 9 0 σ (Nat.zero_le _) (by omega) (fun j hj => absurd hj (Nat.not_lt_zero _)) (fun _ _ => rfl)
theorem p_Wo_draw (g : CX) (d : Nat) (hd : 0 ≤ d) (σ : Sg) (w : Nat) (hw : isW w) : RunM g d Wo_draw [.ref w] σ (PI (dval (zn (σ w 12))) (updS σ w 12 (zn (σ w 12)))) := by
  refine RunM.of 0 (by decide +kernel) rfl ?_
  intro κ hg hx hk0 G E
  subst hg
  have hk : 1 ≤ kn κ := Nat.le_of_eq hk0.symm
  show X κ NC 0 [some (.ref w)] [] (hv σ)
  refine x_aload0 G d_Wo_draw_0 ?_
  refine x_aload0 G d_Wo_draw_1 ?_
  refine m_geti G d_Wo_draw_2 fl_Wo_45 (W_o hw) (W_l hw) (W_ij hw 12 (by decide) (by decide)) ?_
  refine x_ldc G d_Wo_draw_5 kc_Wo_113 ?_
  refine x_imul G d_Wo_draw_7 ?_
  refine x_sipush (v := nI 12345) G d_Wo_draw_8 rfl ?_
  refine x_iadd G d_Wo_draw_11 ?_
  refine m_puti G d_Wo_draw_12 fl_Wo_45 (W_o hw) (W_l hw) (W_ij hw 12 (by decide) (by decide)) rfl rfl ?_
  refine x_aload0 G d_Wo_draw_15 ?_
  refine m_geti G d_Wo_draw_16 fl_Wo_45 (W_o hw) (W_l hw) (W_ij hw 12 (by decide) (by decide)) ?_
  refine x_bipush (v := nI 8) G d_Wo_draw_19 rfl ?_
  refine x_iushr G d_Wo_draw_21 ?_
  exact m_iret E G d_Wo_draw_22 hx rfl rfl ⟨by rw [updS_at]; rfl, rfl⟩
theorem p_Wo_sum (g : CX) (d : Nat) (hd : 0 ≤ d) (σ : Sg) (r len : Nat) (hs : shp r = .inr (0, len)) (hl0 : 0 < len) (hl9 : len < 2 ^ 30) : RunM g d Wo_sum [.ref r] σ (PI (sumN (σ r) len) σ) := by
  refine RunM.of 2 (by decide +kernel) rfl ?_
  intro κ hg hx hk0 G E
  subst hg
  have hk : 3 ≤ kn κ := Nat.le_of_eq hk0.symm
  show X κ NC 0 [some (.ref r), none, none] [] (hv σ)
  refine x_iconst (v := nI 0) G d_Wo_sum_0 rfl ?_
  refine x_istore1 G d_Wo_sum_1 rfl hk ?_
  refine x_iconst (v := nI 0) G d_Wo_sum_2 rfl ?_
  refine x_istore2 G d_Wo_sum_3 rfl hk ?_
  have hloop : ∀ (m i : Nat), i ≤ len → len < i + m → X κ NC 4 [some (.ref r), some (.int (sumN (σ r) i)), some (.int (nI i))] [] (hv σ) := by
    intro m
    induction m with
    | zero => intro i h1 h2; omega
    | succ m ih =>
      intro i hi1 hi2
      refine x_iload2 G d_Wo_sum_4 ?_
      refine x_aload0 G d_Wo_sum_5 ?_
      refine m_alen G d_Wo_sum_6 hs (by decide) (shp_lt hs hl0) rfl ?_
      refine x_icmp_ge G d_Wo_sum_7 (fun c7 => ?_) (fun c7 => ?_)
      · have hil : i = len := by have q := (nle (a := len) (b := i) (by omega) (by omega)).mp c7; omega
        refine x_iload1 G d_Wo_sum_22 ?_
        exact m_iret E G d_Wo_sum_23 hx rfl rfl (pi_of (by rw [hil]))
      · have hil : i < len := by
          rcases Nat.lt_or_ge i len with q | q
          · exact q
          · exact absurd ((nle (a := len) (b := i) (by omega) (by omega)).mpr q) c7
        refine x_iload1 G d_Wo_sum_10 ?_
        refine x_aload0 G d_Wo_sum_11 ?_
        refine x_iload2 G d_Wo_sum_12 ?_
        refine m_iald i G d_Wo_sum_13 hs rfl ⟨by omega, by first | decide | omega⟩ ?_
        refine x_iadd G d_Wo_sum_14 ?_
        refine x_istore1 G d_Wo_sum_15 rfl hk ?_
        refine x_iinc2 (v := nI (i + 1)) G d_Wo_sum_16 rfl hk (nI_1 _) ?_
        refine x_goto G d_Wo_sum_19 ?_
        exact ih (i + 1) (by omega) (by omega)
  exact hloop (len + 1) 0 (Nat.zero_le _) (by omega)
