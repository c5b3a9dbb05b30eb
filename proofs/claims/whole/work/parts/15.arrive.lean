/-! World's arrive, catchNearHome, setOut, pass -/
/-- what a noon leaves as it is -/
def Keep (S S' : Rw) : Prop := S' 0 = S 0 ∧ S' 1 = S 1 ∧ S' 2 = S 2 ∧ S' 5 = S 5 ∧ (∀ p k, p < 8 → k < 3 → S' (ixP p k) = S (ixP p k)) ∧ (∀ f, f < 9 → S' (ixF f 0) = S (ixF f 0) ∧ S' (ixF f 2) = S (ixF f 2) ∧ (In (S (ixF f 1)) 99 → In (S' (ixF f 1)) 99)) ∧ (∀ p, S' (ixP p 6) = S (ixP p 6)) ∧ AgT S S'
theorem Keep.refl {S : Rw} : Keep S S := ⟨rfl, rfl, rfl, rfl, fun _ _ _ _ => rfl, fun _ _ => ⟨rfl, rfl, id⟩, fun _ => rfl, AgT.refl⟩
theorem Keep.trans {S S' S'' : Rw} (h : Keep S S') (g : Keep S' S'') : Keep S S'' := by
  obtain ⟨a0, a1, a2, a3, a4, a5, a6, a7⟩ := h
  obtain ⟨b0, b1, b2, b3, b4, b5, b6, b7⟩ := g
  exact ⟨b0.trans a0, b1.trans a1, b2.trans a2, b3.trans a3, fun p k hp hk => (b4 p k hp hk).trans (a4 p k hp hk), fun f hf => ⟨(b5 f hf).1.trans (a5 f hf).1, (b5 f hf).2.1.trans (a5 f hf).2.1, fun q => (b5 f hf).2.2 ((a5 f hf).2.2 q)⟩, fun p => (b6 p).trans (a6 p), a7.trans b7⟩
theorem Keep.inv {S S' : Rw} (h : Keep S S') (hI : Inv S) : Inv S' := by
  obtain ⟨a0, a1, a2, a3, a4, a5, -, a7⟩ := h
  obtain ⟨b0, b1, b2, b3, b4, b5, b6⟩ := hI
  refine ⟨a0 ▸ b0, a1 ▸ b1, a2 ▸ b2, a3 ▸ b3, fun f hf => ?_, fun p hp => ?_, fun t ht => ?_⟩
  · obtain ⟨c1, c2, c3⟩ := a5 f hf
    obtain ⟨d1, d2, d3⟩ := b4 f hf
    exact ⟨c1 ▸ d1, c3 d2, c2 ▸ d3⟩
  · obtain ⟨d1, d2, d3⟩ := b5 p hp
    exact ⟨(a4 p 0 hp (by decide)) ▸ d1, (a4 p 1 hp (by decide)) ▸ d2, (a4 p 2 hp (by decide)) ▸ d3⟩
  · rw [a1] at ht
    exact TV_agT a7 (b6 t ht)
/-- a place of the row that a noon may change: STEPS, LEFT, z, HAD, HOURS, CAUGHT -/
theorem Keep.put {S S' : Rw} (h : Keep S S') {i : Nat} {x : Int32} (hi : (i = 3 ∨ i = 4 ∨ i = 6) ∨ ∃ p k, p < 8 ∧ 3 ≤ k ∧ k < 6 ∧ i = ixP p k) : Keep S (upd S' i x) := by
  have hne : (∀ j, j < 3 ∨ j = 5 → j ≠ i) ∧ (∀ p k, k < 3 → ixP p k ≠ i) ∧ (∀ f k, f < 9 → k < 3 → ixF f k ≠ i) ∧ (∀ p, ixP p 6 ≠ i) ∧ i < 90 ∧ i ≠ 1 := by
    rcases hi with hi | ⟨p, k, hp, hk1, hk2, rfl⟩
    · refine ⟨fun j hj => by omega, fun p k hk => by unfold ixP; omega, fun f k hf hk => by unfold ixF; omega, fun p => by unfold ixP; omega, by omega, by omega⟩
    · refine ⟨fun j hj => by unfold ixP; omega, fun p' k' hk => by unfold ixP; omega, fun f k' hf hk => by unfold ixF ixP; omega, fun p' => by unfold ixP; omega, by unfold ixP; omega, by unfold ixP; omega⟩
  obtain ⟨n1, n2, n3, n4, n5, n6⟩ := hne
  obtain ⟨a0, a1, a2, a3, a4, a5, a6, a7⟩ := h
  refine ⟨(pk_un (n1 0 (by omega))).trans a0, (pk_un (n1 1 (by omega))).trans a1, (pk_un (n1 2 (by omega))).trans a2, (pk_un (n1 5 (by omega))).trans a3, fun p k hp hk => (pk_un (n2 p k hk)).trans (a4 p k hp hk), fun f hf => ?_, fun p => (pk_un (n4 p)).trans (a6 p), a7.upd n5 n6⟩
  rw [pk_un (n3 f 0 hf (by decide)), pk_un (n3 f 1 hf (by decide)), pk_un (n3 f 2 hf (by decide))]
  exact a5 f hf
theorem Keep.corn {S S' : Rw} (h : Keep S S') {f : Nat} {x : Int32} (hf9 : f < 9) (hx : In x 99) : Keep S (upd S' (ixF f 1) x) := by
  obtain ⟨a0, a1, a2, a3, a4, a5, a6, a7⟩ := h
  refine ⟨(pk_un (by unfold ixF; omega)).trans a0, (pk_un (by unfold ixF; omega)).trans a1, (pk_un (by unfold ixF; omega)).trans a2, (pk_un (by unfold ixF; omega)).trans a3, fun p k hp hk => (pk_un (by unfold ixF ixP; omega)).trans (a4 p k hp hk), fun f' hf => ?_, fun p => (pk_un (by unfold ixF ixP; omega)).trans (a6 p), a7.upd (by unfold ixF; omega) (by unfold ixF; omega)⟩
  obtain ⟨c1, c2, c3⟩ := a5 f' hf
  refine ⟨(pk_un (by unfold ixF; omega)).trans c1, (pk_un (by unfold ixF; omega)).trans c2, fun q => ?_⟩
  by_cases e : f' = f
  · subst e; rw [pk_us]; exact hx
  · rw [pk_un (by unfold ixF; omega)]; exact c3 q
theorem corn_less {x : Int32} (h : In x 99) : In (if nI 0 < x - nI 1 then x - nI 1 else nI 0) 99 := by
  obtain ⟨h1, h2⟩ := h
  generalize hn : tn x = n at h1 h2
  subst h1
  rcases n with _ | n
  · exact ⟨by decide +kernel, by decide +kernel⟩
  · rw [pk_sub (by omega), Nat.add_sub_cancel]
    split
    · exact In.mk' (by omega) (by decide)
    · exact In.mk' (by omega) (by decide)
theorem sArr_keep {S : Rw} (hI : Inv S) {p f : Nat} (hp : p < 8) (hf : f < 9) : Keep S (sArr S p f) := by
  have k1 : Keep S (upd S (ixF f 1) (if nI 0 < S (ixF f 1) - nI 1 then S (ixF f 1) - nI 1 else nI 0)) := Keep.refl.corn hf (corn_less (hI.corn hf))
  have k2 := k1.put (i := ixP p 3) (x := (upd S (ixF f 1) (if nI 0 < S (ixF f 1) - nI 1 then S (ixF f 1) - nI 1 else nI 0)) (ixP p 3) ||| nI 1 <<< (nI f &&& 31)) (Or.inr ⟨p, 3, hp, by decide, by decide, rfl⟩)
  unfold sArr
  simp only
  split
  · rename_i hc
    refine k2.put (Or.inr ⟨_, 4, ?_, by decide, by decide, rfl⟩)
    obtain ⟨o1, o2⟩ := hI.owner hf
    have hc2 := hc.2
    rw [o1, hI.n.1] at hc2
    simp only [isO, Bool.and_eq_true, Bool.not_eq_true', decide_eq_false_iff_not] at hc2
    have := hI.n.2
    rcases Nat.lt_or_ge (tn (S (ixF f 0))) (tn (S 0)) with q | q
    · omega
    · exact absurd (nI_le q (by omega)) hc2.2
  · exact k2
theorem gst_range {S : Rw} {T : Nat → Int32} {p : Nat} : ∀ n, n ≤ 9 → (gst S T p n).1 = -1 ∨ ∃ f, f < n ∧ (gst S T p n).1 = nI f
  | 0, _ => Or.inl rfl
  | n + 1, hn => by
    unfold gst
    split
    · exact Or.inr ⟨n, Nat.lt_succ_self n, rfl⟩
    · rcases gst_range (S := S) (T := T) (p := p) n (by omega) with h | ⟨f, h1, h2⟩
      · exact Or.inl h
      · exact Or.inr ⟨f, by omega, h2⟩
def TOk (T : Nat → Int32) : Prop := ∀ p, p < 8 → T p = -1 ∨ ∃ f, f < 9 ∧ T p = nI f
theorem sGo_keep {S : Rw} (hI : Inv S) {T : Nat → Int32} (hT : TOk T) {p : Nat} (hp : p < 8) : Keep S (sGo S T p).1 ∧ TOk (sGo S T p).2 := by
  unfold sGo
  split
  · exact ⟨Keep.refl.put (Or.inl (by omega)), hT⟩
  · rename_i hg
    rcases gst_range (S := S) (T := T) (p := p) 9 (Nat.le_refl _) with h | ⟨f, h1, h2⟩
    · exact absurd h hg
    · have k1 : Keep S (upd S 3 (S 3 + (gst S T p 9).2)) := Keep.refl.put (Or.inl (by omega))
      rw [h2, tn_nI (by omega)]
      refine ⟨k1.trans (sArr_keep (k1.inv hI) hp h1), fun q hq => ?_⟩
      by_cases e : q = p
      · subst e; simp only [pk_us]; exact Or.inr ⟨f, h1, rfl⟩
      · simp only [pk_un e]; exact hT q hq
theorem sGos_keep {S : Rw} (hI : Inv S) (ab : Int32) (hn : 0 < tn (S 0)) : ∀ i, Keep S (sGos S ab i).1 ∧ TOk (sGos S ab i).2
  | 0 => ⟨Keep.refl, fun _ _ => Or.inl rfl⟩
  | i + 1 => by
    obtain ⟨h1, h2⟩ := sGos_keep hI ab hn i
    unfold sGos
    simp only
    split
    · exact ⟨h1, h2⟩
    · have hp : (tn (S 2) + i) % tn (S 0) < 8 := Nat.lt_of_lt_of_le (Nat.mod_lt _ hn) hI.n.2
      obtain ⟨g1, g2⟩ := sGo_keep (h1.inv hI) h2 hp
      exact ⟨h1.trans g1, g2⟩
theorem sCat_keep {S : Rw} {T : Nat → Int32} : ∀ n, n ≤ 8 → Keep S (sCat S T n)
  | 0, _ => Keep.refl
  | n + 1, hn => by
    have h1 := sCat_keep (S := S) (T := T) n (by omega)
    unfold sCat
    simp only
    split
    · exact h1.put (Or.inr ⟨n, 5, by omega, by decide, by decide, rfl⟩)
    · exact h1
/-- the people gone, whether there are any or not -/
theorem sGosN_keep {S : Rw} (hI : Inv S) (ab : Int32) : Keep S (sGos S ab (tn (S 0))).1 ∧ TOk (sGos S ab (tn (S 0))).2 := by
  rcases Nat.eq_zero_or_pos (tn (S 0)) with h | h
  · rw [h]; exact ⟨Keep.refl, fun _ _ => Or.inl rfl⟩
  · exact sGos_keep hI ab h _
theorem StT.set {w : Nat} {T : Nat → Int32} {σ : Sg} (h : StT w T σ) {p : Nat} {x : Int32} : StT w (upd T p x) (updS σ (w + 13) p x) := fun i hi => by
  rw [updS_row]
  unfold upd
  split
  · rfl
  · exact h i hi
theorem StT.ne {w : Nat} {T : Nat → Int32} {σ σ' : Sg} (h : StT w T σ) (e : σ' (w + 13) = σ (w + 13)) : StT w T σ' := fun i hi => by rw [e]; exact h i hi
theorem p_Wo_arrive (g : CX) (d : Nat) (hd : 1 ≤ d) (σ : Sg) (w : Nat) (hw : isW w) (S : Rw) (hR : WRel w S σ) (hI : Inv S) (T : Nat → Int32) (hT : StT w T σ) (p f : Nat) (hp : p < 8) (hf : f < 9) : RunM g d Wo_arrive [.ref w, .int (nI p), .int (nI f)] σ (PV (fun σ1 => WRel w (sArr S p f) σ1 ∧ StT w (upd T p (nI f)) σ1 ∧ OutW w σ σ1)) := by
  refine RunM.of 1 (by decide +kernel) rfl ?_
  intro κ hg hx hk0 G E
  subst hg
  have hk : 4 ≤ kn κ := Nat.le_of_eq hk0.symm
  show X κ NC 0 [some (.ref w), some (.int (nI p)), some (.int (nI f)), none] [] (hv σ)
  refine x_aload0 G d_Wo_arrive_0 ?_
  refine m_getr G d_Wo_arrive_1 fl_Wo_23 (W_o hw) (W_l hw) (W_r5 hw) ?_
  refine x_iload1 G d_Wo_arrive_4 ?_
  refine x_iload2 G d_Wo_arrive_5 ?_
  refine m_iast_n p G d_Wo_arrive_6 (W_s13 hw) rfl ⟨by omega, by first | decide | omega⟩ (fun σ1 e1 => ?_)
  have hR1 : WRel w S σ1 := by rw [e1]; exact hR.st
  have hT1 : StT w (upd T p (nI f)) σ1 := by rw [e1]; exact hT.set
  have hO1 : OutW w σ σ1 := by rw [e1]; exact OutW.refl.upd (by omega)
  refine x_aload0 G d_Wo_arrive_7 ?_
  refine m_getr G d_Wo_arrive_8 fl_Wo_16 (W_o hw) (W_l hw) (W_r3 hw) ?_
  refine x_iconst (v := nI 1) G d_Wo_arrive_11 rfl ?_
  refine m_aald _ G d_Wo_arrive_12 (W_s8 hw) (by decide) rfl ⟨by omega, by first | decide | omega⟩ (W_f hw (by decide)) ?_
  refine x_iload2 G d_Wo_arrive_13 ?_
  refine x_iconst (v := nI 0) G d_Wo_arrive_14 rfl ?_
  refine x_aload0 G d_Wo_arrive_15 ?_
  refine m_getr G d_Wo_arrive_16 fl_Wo_16 (W_o hw) (W_l hw) (W_r3 hw) ?_
  refine x_iconst (v := nI 1) G d_Wo_arrive_19 rfl ?_
  refine m_aald _ G d_Wo_arrive_20 (W_s8 hw) (by decide) rfl ⟨by omega, by first | decide | omega⟩ (W_f hw (by decide)) ?_
  refine x_iload2 G d_Wo_arrive_21 ?_
  refine m_iald _ G d_Wo_arrive_22 (W_sf hw (by decide)) rfl ⟨by omega, by first | decide | omega⟩ ?_
  rw [show σ1 (w + 9 + 1) f = S (ixF f 1) from hR1.f 1 (by decide) hf]
  refine x_iconst (v := nI 1) G d_Wo_arrive_23 rfl ?_
  refine x_isub G d_Wo_arrive_24 ?_
  refine x_max lm_Wo_99 G d_Wo_arrive_25 (by omega) (Nat.le_of_ble_eq_true rfl) (Nat.le_of_eq hx.symm) ?_
  refine m_iast_n f G d_Wo_arrive_28 (W_sf hw (by decide)) rfl ⟨by omega, by first | decide | omega⟩ (fun σ2 e2 => ?_)
  have hR2 : WRel w (upd S (ixF f 1) (if nI 0 < S (ixF f 1) - nI 1 then S (ixF f 1) - nI 1 else nI 0)) σ2 := by rw [e2]; exact hR1.setf (by decide) hf _
  have hT2 : StT w (upd T p (nI f)) σ2 := hT1.ne (by rw [e2]; exact updS_nk (by omega))
  have hO2 : OutW w σ σ2 := by rw [e2]; exact hO1.upd (by omega)
  refine x_aload0 G d_Wo_arrive_29 ?_
  refine m_getr G d_Wo_arrive_30 fl_Wo_11 (W_o hw) (W_l hw) (W_r2 hw) ?_
  refine x_iconst (v := nI 3) G d_Wo_arrive_33 rfl ?_
  refine m_aald _ G d_Wo_arrive_34 (W_s1 hw) (by decide) rfl ⟨by omega, by first | decide | omega⟩ (W_p hw (by decide)) ?_
  refine x_iload1 G d_Wo_arrive_35 ?_
  refine x_dup2 G d_Wo_arrive_36 rfl rfl ?_
  refine m_iald p G d_Wo_arrive_37 (W_sp hw (by decide)) rfl ⟨by omega, by first | decide | omega⟩ ?_
  rw [show σ2 (w + 2 + 3) p = (upd S (ixF f 1) (if nI 0 < S (ixF f 1) - nI 1 then S (ixF f 1) - nI 1 else nI 0)) (ixP p 3) from hR2.p 3 (by decide) hp]
  refine x_iconst (v := nI 1) G d_Wo_arrive_38 rfl ?_
  refine x_iload2 G d_Wo_arrive_39 ?_
  refine x_ishl G d_Wo_arrive_40 ?_
  refine x_ior G d_Wo_arrive_41 ?_
  refine m_iast_n p G d_Wo_arrive_42 (W_sp hw (by decide)) rfl ⟨by omega, by first | decide | omega⟩ (fun σ3 e3 => ?_)
  have hR3 : WRel w (upd (upd S (ixF f 1) (if nI 0 < S (ixF f 1) - nI 1 then S (ixF f 1) - nI 1 else nI 0)) (ixP p 3) ((upd S (ixF f 1) (if nI 0 < S (ixF f 1) - nI 1 then S (ixF f 1) - nI 1 else nI 0)) (ixP p 3) ||| nI 1 <<< (nI f &&& 31))) σ3 := by rw [e3]; exact hR2.setp (by decide) hp _
  have hT3 : StT w (upd T p (nI f)) σ3 := hT2.ne (by rw [e3]; exact updS_nk (by omega))
  have hO3 : OutW w σ σ3 := by rw [e3]; exact hO2.upd (by omega)
  have hos : σ3 (w + 9 + 0) f = S (ixF f 0) := by rw [hR3.f 0 (by decide) hf, pk_un (by unfold ixF ixP; omega), pk_un (by unfold ixF; omega)]
  have h0s : σ3 w 7 = S 0 := by rw [hR3.n, pk_un (by unfold ixP; omega), pk_un (by unfold ixF; omega)]
  obtain ⟨ho1, ho2⟩ := hI.owner hf
  have hn8 := hI.n
  refine x_aload0 G d_Wo_arrive_43 ?_
  refine m_getr G d_Wo_arrive_44 fl_Wo_16 (W_o hw) (W_l hw) (W_r3 hw) ?_
  refine x_iconst (v := nI 0) G d_Wo_arrive_47 rfl ?_
  refine m_aald _ G d_Wo_arrive_48 (W_s8 hw) (by decide) rfl ⟨by omega, by first | decide | omega⟩ (W_f hw (by decide)) ?_
  refine x_iload2 G d_Wo_arrive_49 ?_
  refine m_iald f G d_Wo_arrive_50 (W_sf hw (by decide)) rfl ⟨by omega, by first | decide | omega⟩ ?_
  rw [hos, ho1]
  refine x_istore3 G d_Wo_arrive_51 rfl hk ?_
  refine x_iload3 G d_Wo_arrive_52 ?_
  refine x_iload1 G d_Wo_arrive_53 ?_
  refine x_icmp_eq G d_Wo_arrive_54 (fun c54 => ?_) (fun c54 => ?_)
  · have hc : ¬ (S (ixF f 0) ≠ nI p ∧ isO (S 0) (S (ixF f 0)) = true) := fun q => q.1 (ho1.trans c54)
    exact m_vret E G d_Wo_arrive_77 hx rfl ⟨rfl, (by unfold sArr; rw [if_neg hc]; exact hR3), hT3, hO3⟩
  · have hc1 : S (ixF f 0) ≠ nI p := fun q => c54 (ho1.symm.trans q)
    refine x_aload0 G d_Wo_arrive_57 ?_
    refine x_iload3 G d_Wo_arrive_58 ?_
    refine m_callV_pi (p_Wo_isOne (kg κ) (d - 1) (by omega) σ3 w hw (nI (tn (S (ixF f 0))))) G d_Wo_arrive_59 lk_Wo_141 (W_o hw) ⟨by decide, rfl⟩ (W_l hw) (by omega) rfl (Nat.le_of_ble_eq_true rfl) hx ?_
    refine x_if_eq G d_Wo_arrive_62 (fun c62 => ?_) (fun c62 => ?_)
    · have hc : ¬ (S (ixF f 0) ≠ nI p ∧ isO (S 0) (S (ixF f 0)) = true) := fun q => by
        have q2 := bI_0.mp c62
        rw [h0s, ← ho1, q.2] at q2
        cases q2
      exact m_vret E G d_Wo_arrive_77 hx rfl ⟨rfl, (by unfold sArr; rw [if_neg hc]; exact hR3), hT3, hO3⟩
    · have hc2 : isO (S 0) (S (ixF f 0)) = true := by
        have q2 := bI_n0.mp c62
        rw [h0s, ← ho1] at q2
        exact q2
      have hc : (S (ixF f 0) ≠ nI p ∧ isO (S 0) (S (ixF f 0)) = true) := ⟨hc1, hc2⟩
      have how : tn (S (ixF f 0)) < 8 := by
        rw [ho1, hn8.1] at hc2
        simp only [isO, Bool.and_eq_true, Bool.not_eq_true', decide_eq_false_iff_not] at hc2
        rcases Nat.lt_or_ge (tn (S (ixF f 0))) (tn (S 0)) with q | q
        · omega
        · exact absurd (nI_le q (by omega)) hc2.2
      refine x_aload0 G d_Wo_arrive_65 ?_
      refine m_getr G d_Wo_arrive_66 fl_Wo_11 (W_o hw) (W_l hw) (W_r2 hw) ?_
      refine x_iconst (v := nI 4) G d_Wo_arrive_69 rfl ?_
      refine m_aald _ G d_Wo_arrive_70 (W_s1 hw) (by decide) rfl ⟨by omega, by first | decide | omega⟩ (W_p hw (by decide)) ?_
      refine x_iload3 G d_Wo_arrive_71 ?_
      refine x_dup2 G d_Wo_arrive_72 rfl rfl ?_
      refine m_iald (tn (S (ixF f 0))) G d_Wo_arrive_73 (W_sp hw (by decide)) rfl ⟨by omega, by first | decide | omega⟩ ?_
      rw [show σ3 (w + 2 + 4) (tn (S (ixF f 0))) = (upd (upd S (ixF f 1) (if nI 0 < S (ixF f 1) - nI 1 then S (ixF f 1) - nI 1 else nI 0)) (ixP p 3) ((upd S (ixF f 1) (if nI 0 < S (ixF f 1) - nI 1 then S (ixF f 1) - nI 1 else nI 0)) (ixP p 3) ||| nI 1 <<< (nI f &&& 31))) (ixP (tn (S (ixF f 0))) 4) from hR3.p 4 (by decide) how]
      refine x_iconst (v := nI 1) G d_Wo_arrive_74 rfl ?_
      refine x_iadd G d_Wo_arrive_75 ?_
      refine m_iast_n (tn (S (ixF f 0))) G d_Wo_arrive_76 (W_sp hw (by decide)) rfl ⟨by omega, by first | decide | omega⟩ (fun σ4 e4 => ?_)
      exact m_vret E G d_Wo_arrive_77 hx rfl ⟨rfl, (by unfold sArr; rw [if_pos hc, e4]; exact hR3.setp (by decide) how _), hT3.ne (by rw [e4]; exact updS_nk (by omega)), (by rw [e4]; exact hO3.upd (by omega))⟩
theorem p_Wo_catchNearHome (g : CX) (d : Nat) (hd : 2 ≤ d) (σ : Sg) (w : Nat) (hw : isW w) (S : Rw) (hR : WRel w S σ) (hI : Inv S) (T : Nat → Int32) (hT : StT w T σ) (hTO : TOk T) : RunM g d Wo_catchNearHome [.ref w] σ (PV (fun σ1 => WRel w (sCat S T (tn (S 0))) σ1 ∧ StT w T σ1 ∧ OutW w σ σ1)) := by
  refine RunM.of 1 (by decide +kernel) rfl ?_
  intro κ hg hx hk0 G E
  subst hg
  have hk : 2 ≤ kn κ := Nat.le_of_eq hk0.symm
  show X κ NC 0 [some (.ref w), none] [] (hv σ)
  refine x_iconst (v := nI 0) G d_Wo_catchNearHome_0 rfl ?_
  refine x_istore1 G d_Wo_catchNearHome_1 rfl hk ?_
  have hloop : ∀ (m i : Nat) (σ1 : Sg), i ≤ tn (S 0) → tn (S 0) < i + m → WRel w (sCat S T i) σ1 → StT w T σ1 → OutW w σ σ1 → X κ NC 2 [some (.ref w), some (.int (nI i))] [] (hv σ1) := by
    intro m
    induction m with
    | zero => intro i σ1 h1 h2; omega
    | succ m ih =>
      intro i σ1 hi1 hi2 hR1 hT1 hO1
      have hn8 := hI.n
      have hke := sCat_keep (S := S) (T := T) i (by omega)
      refine x_iload1 G d_Wo_catchNearHome_2 ?_
      refine x_aload0 G d_Wo_catchNearHome_3 ?_
      refine m_geti G d_Wo_catchNearHome_4 fl_Wo_29 (W_o hw) (W_l hw) (W_ij hw 7 (by decide) (by decide)) ?_
      rw [show σ1 w 7 = nI (tn (S 0)) by rw [hR1.n, hke.1]; exact hn8.1]
      refine x_icmp_ge G d_Wo_catchNearHome_7 (fun c7 => ?_) (fun c7 => ?_)
      · have hin : i = tn (S 0) := by rw [nle (by omega) (by omega)] at c7; omega
        exact m_vret E G d_Wo_catchNearHome_59 hx rfl ⟨rfl, (by rw [← hin]; exact hR1), hT1, hO1⟩
      · have hin : i < tn (S 0) := by rw [nle (by omega) (by omega)] at c7; omega
        have hi8 : i < 8 := by omega
        have hh := hI.home hi8
        refine x_aload0 G d_Wo_catchNearHome_10 ?_
        refine m_getr G d_Wo_catchNearHome_11 fl_Wo_23 (W_o hw) (W_l hw) (W_r5 hw) ?_
        refine x_iload1 G d_Wo_catchNearHome_14 ?_
        refine m_iald i G d_Wo_catchNearHome_15 (W_s13 hw) rfl ⟨by omega, by first | decide | omega⟩ ?_
        rw [hT1 i hi8]
        refine x_iconst (v := (-1)) G d_Wo_catchNearHome_16 rfl ?_
        refine x_icmp_eq G d_Wo_catchNearHome_17 (fun c17 => ?_) (fun c17 => ?_)
        · have hns : sCat S T (i + 1) = sCat S T i := by rw [sCat]; rw [if_neg (fun q => q.1 c17)]
          refine x_iinc1 (v := nI (i + 1)) G d_Wo_catchNearHome_53 rfl hk (nI_1 _) ?_
          refine x_goto G d_Wo_catchNearHome_56 ?_
          exact ih (i + 1) _ (by omega) (by omega) (by rw [hns]; exact hR1) hT1 hO1
        · obtain ⟨f, hf, hTf⟩ : ∃ f, f < 9 ∧ T i = nI f := (hTO i hi8).resolve_left c17
          refine x_aload0 G d_Wo_catchNearHome_20 ?_
          refine m_getr G d_Wo_catchNearHome_21 fl_Wo_11 (W_o hw) (W_l hw) (W_r2 hw) ?_
          refine x_iconst (v := nI 1) G d_Wo_catchNearHome_24 rfl ?_
          refine m_aald _ G d_Wo_catchNearHome_25 (W_s1 hw) (by decide) rfl ⟨by omega, by first | decide | omega⟩ (W_p hw (by decide)) ?_
          refine x_iload1 G d_Wo_catchNearHome_26 ?_
          refine m_iald i G d_Wo_catchNearHome_27 (W_sp hw (by decide)) rfl ⟨by omega, by first | decide | omega⟩ ?_
          rw [show σ1 (w + 2 + 1) i = nI (tn (S (ixP i 1))) by rw [hR1.p 1 (by decide) hi8, hke.2.2.2.2.1 i 1 hi8 (by decide)]; exact hh.1]
          refine x_aload0 G d_Wo_catchNearHome_28 ?_
          refine m_getr G d_Wo_catchNearHome_29 fl_Wo_23 (W_o hw) (W_l hw) (W_r5 hw) ?_
          refine x_iload1 G d_Wo_catchNearHome_32 ?_
          refine m_iald i G d_Wo_catchNearHome_33 (W_s13 hw) rfl ⟨by omega, by first | decide | omega⟩ ?_
          rw [hT1 i hi8, hTf]
          refine m_callS_pi (p_Wo_apart (kg κ) (d - 1) (by omega) σ1 (tn (S (ixP i 1))) f (by omega) hf) G d_Wo_catchNearHome_34 lk_Wo_86 (by omega) rfl (Nat.le_of_ble_eq_true rfl) hx ?_
          refine x_iconst (v := nI 1) G d_Wo_catchNearHome_37 rfl ?_
          refine x_icmp_gt G d_Wo_catchNearHome_38 (fun c38 => ?_) (fun c38 => ?_)
          · have hns : sCat S T (i + 1) = sCat S T i := by
              have hle := far_le (tn (S (ixP i 1))) (by omega) f hf
              rw [nlt (by omega) (by omega)] at c38
              rw [sCat]; rw [if_neg (fun q => by have := q.2; rw [hTf, tn_nI (by omega)] at this; omega)]
            refine x_iinc1 (v := nI (i + 1)) G d_Wo_catchNearHome_53 rfl hk (nI_1 _) ?_
            refine x_goto G d_Wo_catchNearHome_56 ?_
            exact ih (i + 1) _ (by omega) (by omega) (by rw [hns]; exact hR1) hT1 hO1
          · have hns : sCat S T (i + 1) = upd (sCat S T i) (ixP i 5) (sCat S T i (ixP i 5) + nI 1) := by
              have hle := far_le (tn (S (ixP i 1))) (by omega) f hf
              rw [nlt (by omega) (by omega)] at c38
              rw [sCat]; rw [if_pos ⟨c17, by rw [hTf, tn_nI (by omega)]; omega⟩]
            refine x_aload0 G d_Wo_catchNearHome_41 ?_
            refine m_getr G d_Wo_catchNearHome_42 fl_Wo_11 (W_o hw) (W_l hw) (W_r2 hw) ?_
            refine x_iconst (v := nI 5) G d_Wo_catchNearHome_45 rfl ?_
            refine m_aald _ G d_Wo_catchNearHome_46 (W_s1 hw) (by decide) rfl ⟨by omega, by first | decide | omega⟩ (W_p hw (by decide)) ?_
            refine x_iload1 G d_Wo_catchNearHome_47 ?_
            refine x_dup2 G d_Wo_catchNearHome_48 rfl rfl ?_
            refine m_iald i G d_Wo_catchNearHome_49 (W_sp hw (by decide)) rfl ⟨by omega, by first | decide | omega⟩ ?_
            rw [show σ1 (w + 2 + 5) i = sCat S T i (ixP i 5) from hR1.p 5 (by decide) hi8]
            refine x_iconst (v := nI 1) G d_Wo_catchNearHome_50 rfl ?_
            refine x_iadd G d_Wo_catchNearHome_51 ?_
            refine m_iast_n i G d_Wo_catchNearHome_52 (W_sp hw (by decide)) rfl ⟨by omega, by first | decide | omega⟩ (fun σ2 e2 => ?_)
            refine x_iinc1 (v := nI (i + 1)) G d_Wo_catchNearHome_53 rfl hk (nI_1 _) ?_
            refine x_goto G d_Wo_catchNearHome_56 ?_
            exact ih (i + 1) _ (by omega) (by omega) (by rw [hns, e2]; exact hR1.setp (by decide) hi8 _) (hT1.ne (by rw [e2]; exact updS_nk (by omega))) (by rw [e2]; exact hO1.upd (by omega))
  exact hloop (tn (S 0) + 1) 0 σ (Nat.zero_le _) (by omega) hR hT OutW.refl
