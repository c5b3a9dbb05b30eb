/-! what every call leaves a good row -/
def Good (S : Rw) : Prop := Inv S ∧ Inv2 S ∧ In (S 2) 9999 ∧ Inv3 S
theorem Inv3.of {S S' : Rw} (h : Inv3 S) (hp : ∀ p, p < 8 → S' (ixP p 6) = S (ixP p 6)) : Inv3 S' := fun a ha => by
  unfold sTalk
  rw [hp a ha]
  exact h a ha
def GA (S S' : Rw) : Prop := Good S' ∧ AgT S S'
theorem GA.rf {S : Rw} (h : Good S) : GA S S := ⟨h, AgT.refl⟩
theorem Good.keep {S S' : Rw} (h : Good S) (k : Keep S S') (h2 : Inv2 S') : GA S S' := ⟨⟨k.inv h.1, h2, by rw [k.2.2.1]; exact h.2.2.1, h.2.2.2.of (fun p _ => k.2.2.2.2.2.2.1 p)⟩, k.2.2.2.2.2.2.2⟩
theorem In.le {x : Int32} {a b : Nat} (h : In x a) (hab : a ≤ b) : In x b := ⟨h.1, Nat.le_trans h.2 hab⟩
theorem Good.p {S : Rw} (h : Good S) {p c : Nat} {x : Int32} (hp : p < 8) (hc : c < 3) (hx : In x (if c = 0 then 5 else if c = 1 then 8 else 99)) : GA S (upd S (ixP p c) x) := by
  have hA : AgT S (upd S (ixP p c) x) := AgT.refl.upd (by unfold ixP; omega) (by unfold ixP; omega)
  refine ⟨⟨?_, ?_, ?_, ?_⟩, hA⟩
  · refine ⟨?_, ?_, ?_, ?_, fun f hf => ?_, fun q hq => ?_, fun t ht => ?_⟩
    · rw [pk_un (by unfold ixP; omega)]; exact h.1.1
    · rw [pk_un (by unfold ixP; omega)]; exact h.1.2.1
    · rw [pk_un (by unfold ixP; omega)]; exact h.1.2.2.1
    · rw [pk_un (by unfold ixP; omega)]; exact h.1.2.2.2.1
    · rw [pk_un (by unfold ixP ixF; omega), pk_un (by unfold ixP ixF; omega), pk_un (by unfold ixP ixF; omega)]
      exact h.1.2.2.2.2.1 f hf
    · have h0 := h.1.2.2.2.2.2.1 q hq
      by_cases e : q = p
      · subst e
        rcases (show c = 0 ∨ c = 1 ∨ c = 2 by omega) with rfl | rfl | rfl
        · rw [pk_us, pk_un (by unfold ixP; omega), pk_un (by unfold ixP; omega)]
          exact ⟨hx, h0.2⟩
        · rw [pk_us, pk_un (by unfold ixP; omega), pk_un (by unfold ixP; omega)]
          exact ⟨h0.1, hx, h0.2.2⟩
        · rw [pk_us, pk_un (by unfold ixP; omega), pk_un (by unfold ixP; omega)]
          exact ⟨h0.1, h0.2.1, hx⟩
      · rw [pk_un (by unfold ixP; omega), pk_un (by unfold ixP; omega), pk_un (by unfold ixP; omega)]
        exact h0
    · rw [hA.1] at ht
      exact TV_agT hA (h.1.2.2.2.2.2.2 t ht)
  · exact h.2.1.of (pk_un (by unfold ixP; omega)) (fun q k _ _ _ => pk_un (by unfold ixP; omega))
  · rw [pk_un (by unfold ixP; omega)]; exact h.2.2.1
  · exact h.2.2.2.of (fun q _ => pk_un (by unfold ixP; omega))
theorem Good.f {S : Rw} (h : Good S) {f c : Nat} {x : Int32} (hf9 : f < 9) (hc : c < 3) (hx : In x (if c = 0 then 8 else if c = 1 then 99 else 4)) : GA S (upd S (ixF f c) x) := by
  have hA : AgT S (upd S (ixF f c) x) := AgT.refl.upd (by unfold ixF; omega) (by unfold ixF; omega)
  refine ⟨⟨?_, ?_, ?_, ?_⟩, hA⟩
  · refine ⟨?_, ?_, ?_, ?_, fun q hq => ?_, fun p hp => ?_, fun t ht => ?_⟩
    · rw [pk_un (by unfold ixF; omega)]; exact h.1.1
    · rw [pk_un (by unfold ixF; omega)]; exact h.1.2.1
    · rw [pk_un (by unfold ixF; omega)]; exact h.1.2.2.1
    · rw [pk_un (by unfold ixF; omega)]; exact h.1.2.2.2.1
    · have h0 := h.1.2.2.2.2.1 q hq
      by_cases e : q = f
      · subst e
        rcases (show c = 0 ∨ c = 1 ∨ c = 2 by omega) with rfl | rfl | rfl
        · rw [pk_us, pk_un (by unfold ixF; omega), pk_un (by unfold ixF; omega)]
          exact ⟨hx, h0.2⟩
        · rw [pk_us, pk_un (by unfold ixF; omega), pk_un (by unfold ixF; omega)]
          exact ⟨h0.1, hx, h0.2.2⟩
        · rw [pk_us, pk_un (by unfold ixF; omega), pk_un (by unfold ixF; omega)]
          exact ⟨h0.1, h0.2.1, hx⟩
      · rw [pk_un (by unfold ixF; omega), pk_un (by unfold ixF; omega), pk_un (by unfold ixF; omega)]
        exact h0
    · rw [pk_un (by unfold ixP ixF; omega), pk_un (by unfold ixP ixF; omega), pk_un (by unfold ixP ixF; omega)]
      exact h.1.2.2.2.2.2.1 p hp
    · rw [hA.1] at ht
      exact TV_agT hA (h.1.2.2.2.2.2.2 t ht)
  · exact h.2.1.putx (by unfold ixF; omega) (by unfold ixF; omega)
  · rw [pk_un (by unfold ixF; omega)]; exact h.2.2.1
  · exact h.2.2.2.of (fun q _ => pk_un (by unfold ixF ixP; omega))
theorem g_late {S : Rw} (h : Good S) (v : Int32) : GA S (fLate S v).2 := by
  unfold fLate
  split
  · rename_i c
    have hx := (upB_In (by decide)).mp c
    show GA S (upd S 5 v)
    have hA : AgT S (upd S 5 v) := AgT.refl.upd (by decide) (by decide)
    refine ⟨⟨?_, h.2.1.putx (by decide) (by decide), ?_, h.2.2.2.of (fun q _ => (pk_un (by unfold ixP; omega) : upd S 5 v (ixP q 6) = S (ixP q 6)))⟩, hA⟩
    · refine ⟨?_, ?_, ?_, ?_, fun q hq => ?_, fun p hp => ?_, fun t ht => ?_⟩
      · rw [pk_un (by decide)]; exact h.1.1
      · rw [pk_un (by decide)]; exact h.1.2.1
      · rw [pk_un (by decide)]; exact h.1.2.2.1
      · rw [pk_us]; exact hx
      · rw [pk_un (by unfold ixF; omega), pk_un (by unfold ixF; omega), pk_un (by unfold ixF; omega)]
        exact h.1.2.2.2.2.1 q hq
      · rw [pk_un (by unfold ixP; omega), pk_un (by unfold ixP; omega), pk_un (by unfold ixP; omega)]
        exact h.1.2.2.2.2.2.1 p hp
      · rw [hA.1] at ht
        exact TV_agT hA (h.1.2.2.2.2.2.2 t ht)
    · show In (upd S 5 v 2) 9999
      rw [pk_un (by decide)]
      exact h.2.2.1
  · exact GA.rf h
theorem g_seed {S : Rw} (h : Good S) (v : Int32) : GA S (fSeed S v).2 := h.keep (Keep.refl.put (Or.inl (by omega))) (h.2.1.z6 v)
theorem g_turns {S : Rw} (h : Good S) (one k : Int32) : GA S (fTurns S one k).2 := by
  unfold fTurns
  split
  · rename_i c
    simp only [Bool.and_eq_true] at c
    obtain ⟨p, hp, -, tp, rfl⟩ := one_ex h.1 c.1
    rw [tp]
    exact h.p hp (by decide) ((upB_In (by decide)).mp c.2)
  · exact GA.rf h
theorem g_set {S : Rw} (h : Good S) (one what v : Int32) : GA S (fSet S one what v).2 := by
  unfold fSet
  split
  · rename_i c
    simp only [Bool.and_eq_true, Bool.or_eq_true, decide_eq_true_eq] at c
    obtain ⟨c1, c2⟩ := c
    obtain ⟨p, hp, -, tp, rfl⟩ := one_ex h.1 c1
    rw [tp]
    rcases c2 with ⟨rfl, c2⟩ | ⟨rfl, c2⟩
    · rw [show tn (nI 1) = 1 from rfl]
      exact h.p hp (by decide) ((upB_In (by decide)).mp c2)
    · rw [show tn (nI 2) = 2 from rfl]
      exact h.p hp (by decide) ((upB_In (by decide)).mp c2)
  · exact GA.rf h
theorem g_lays {S : Rw} (h : Good S) (f what v : Int32) : GA S (fLays S f what v).2 := by
  unfold fLays
  by_cases c : (upB f (nI 8) && upB what (nI 2) && upB v (if what = 0 then nI 8 else if what = nI 1 then nI 99 else nI 4)) = true
  · rw [if_pos c]
    simp only [Bool.and_eq_true] at c
    obtain ⟨⟨c1, c2⟩, c3⟩ := c
    obtain ⟨p, hp, tp, rfl⟩ := upB_ex (by decide) c1
    obtain ⟨w, hw, tw, rfl⟩ := upB_ex (by decide) c2
    rw [tp, tw]
    rcases (show w = 0 ∨ w = 1 ∨ w = 2 by omega) with rfl | rfl | rfl
    · exact h.f (by omega) (by decide) ((upB_In (by decide)).mp c3)
    · exact h.f (by omega) (by decide) ((upB_In (by decide)).mp c3)
    · exact h.f (by omega) (by decide) ((upB_In (by decide)).mp c3)
  · rw [if_neg c]
    exact GA.rf h
theorem g_come {S : Rw} (h : Good S) {k hm i : Int32} (hk : In k 5) (hh : In hm 8) (hi : In i 99) : GA S (fCome S k hm i).2 := by
  obtain ⟨a, b, c⟩ := fCome_keep h.1 hk hh hi
  refine ⟨⟨a, fCome_keep2 h.1 h.2.1 k hm i, by rw [c]; exact h.2.2.1, h.2.2.2.of (fun p hp => ?_)⟩, b⟩
  unfold fCome
  split
  · dsimp only
    rw [pk_un (by unfold ixP; omega), pk_un (by unfold ixP; omega), pk_un (by unfold ixP; omega), pk_un (by unfold ixP; omega)]
  · rfl
theorem g_person {S : Rw} (h : Good S) (k hm i : Int32) : GA S (fPerson S k hm i).2 := by
  unfold fPerson
  split
  · rename_i c
    simp only [Bool.and_eq_true] at c
    exact g_come h ((upB_In (by decide)).mp c.1.1) ((upB_In (by decide)).mp c.1.2) ((upB_In (by decide)).mp c.2)
  · exact GA.rf h
theorem GA.trans {S S' S'' : Rw} (h : GA S S') (g : GA S' S'') : GA S S'' := ⟨g.1, h.2.trans g.2⟩
theorem g_dealN {S : Rw} (h : Good S) : ∀ n, n + tn (S 0) ≤ 8 → GA S (dealN S n)
  | 0, _ => GA.rf h
  | n + 1, hn => by
    have h1 := g_dealN h n (by omega)
    obtain ⟨a, b, c⟩ := dealN_keep h.1 (n + 1)
    refine ⟨⟨a, dealN_keep2 h.1 h.2.1 (n + 1) hn, by rw [c]; exact h.2.2.1, h1.1.2.2.2.of (fun p hp => ?_)⟩, b⟩
    rw [dealN]
    unfold fCome
    split
    · dsimp only
      rw [pk_un (by unfold ixP; omega), pk_un (by unfold ixP; omega), pk_un (by unfold ixP; omega), pk_un (by unfold ixP; omega), pk_un (by unfold ixP; omega)]
    · exact pk_un (by unfold ixP; omega)
theorem g_deal {S : Rw} (h : Good S) (n : Int32) : GA S (fDeal S n).2 := by
  unfold fDeal
  split
  · exact g_dealN h _ (by have := h.1.n.2; omega)
  · exact GA.rf h
theorem sNoon6 {S : Rw} (hI : Inv S) (ab : Int32) {p : Nat} : sNoon S ab (ixP p 6) = S (ixP p 6) := by
  obtain ⟨h1, h2⟩ := sGosN_keep hI ab
  have h3 : Keep S (upd (sGos S ab (tn (S 0))).1 6 (zn ((sGos S ab (tn (S 0))).1 6))) := h1.put (Or.inl (by omega))
  have e : ∃ S2, Keep S S2 ∧ sNoon S ab = upd S2 2 (S2 2 + nI 1) := by
    refine ⟨_, ?_, rfl⟩
    split
    · exact h3.trans (sCat_keep _ hI.n.2)
    · exact h3
  obtain ⟨S2, hk, he⟩ := e
  rw [he, pk_un (by unfold ixP; omega)]
  exact hk.2.2.2.2.2.2.1 p
theorem g_passN {S : Rw} (h : Good S) (ab : Int32) : ∀ n, tn (S 2) + n ≤ 9999 → GA S (passN S ab n)
  | 0, _ => GA.rf h
  | n + 1, hn => by
    obtain ⟨a, a0, a1, a2, a3, -⟩ := passN_keep h.1 ab (n + 1) (by omega)
    have h1 := g_passN h ab n (by omega)
    exact ⟨⟨a, passN_keep2 h.1 h.2.1 ab (n + 1) (by omega), by rw [a2]; exact In.mk' hn (by decide), h1.1.2.2.2.of (fun p hp => sNoon6 h1.1.1 ab)⟩, a3⟩
theorem g_noons {S : Rw} (h : Good S) (n : Int32) : GA S (fNoons S n).2 := by
  unfold fNoons
  split
  · exact g_passN h _ _ (by have := h.2.2.1.2; omega)
  · exact GA.rf h
theorem clI_In (x : Int32) : In (clI x) 99 := by
  rw [In_iff (by decide)]
  unfold clI
  by_cases c1 : x < nI 99
  · rw [if_pos c1]
    by_cases c2 : nI 0 < x
    · rw [if_pos c2]
      exact ⟨Int32.le_of_lt c2, Int32.le_of_lt c1⟩
    · rw [if_neg c2]
      exact ⟨Int32.le_refl _, by decide +kernel⟩
  · rw [if_neg c1]
    exact ⟨by decide +kernel, by decide +kernel⟩
theorem g_pourN {S : Rw} (h : Good S) (m : Nat) (v : Nat → Int32) : ∀ f, f ≤ 9 → GA S (pourN S m v f).2
  | 0, _ => GA.rf h
  | f + 1, hf => by
    have h1 := g_pourN h m v f (by omega)
    unfold pourN
    split
    · exact h1.trans (h1.1.f (by omega) (by decide) (clI_In _))
    · exact h1
theorem g_pour {S : Rw} (h : Good S) (tS tZ tN : Nat → Int32) (k : Int32) : GA S (fPour S tS tZ tN k).2 := by
  unfold fPour
  split
  · split
    · exact GA.rf h
    · exact g_pourN h _ _ 9 (Nat.le_refl _)
  · exact GA.rf h
set_option maxRecDepth 100000 in
theorem tkV_bits : ∀ t, t < 256 → ∀ b, b < 8 → ∀ v, v < 2 → tkV (nI t) (nI v) b = nI (tn (tkV (nI t) (nI v) b)) ∧ tn (tkV (nI t) (nI v) b) ≤ 255 ∧ ∀ a, a < 8 → decide (tkV (nI t) (nI v) b >>> (nI a &&& 31) &&& nI 1 = nI 1) = if a = b then decide (v = 1) else decide (nI t >>> (nI a &&& 31) &&& nI 1 = nI 1) := by decide +kernel
theorem talk_row {S : Rw} (h : Good S) {a b v : Nat} (ha : a < 8) (hb : b < 8) (hv : v < 2) : In (tkV (S (ixP a 6)) (nI v) b) 255 ∧ ∀ c, c < 8 → decide (tkV (S (ixP a 6)) (nI v) b >>> (nI c &&& 31) &&& nI 1 = nI 1) = if c = b then decide (v = 1) else sTalk S a c := by
  have h1 := h.2.1.talk ha
  obtain ⟨e1, e2, e3⟩ := tkV_bits (tn (S (ixP a 6))) (by omega) b hb v hv
  rw [← h1.1] at e1 e2 e3
  exact ⟨⟨e1, e2⟩, e3⟩
theorem g_talk {S : Rw} (h : Good S) (one other v : Int32) : GA S (fTalk S one other v).2 := by
  unfold fTalk
  by_cases c : (isO (S 0) one && isO (S 0) other && !(decide (one = other)) && upB v (nI 1)) = true
  · rw [if_pos c]
    simp only [Bool.and_eq_true, Bool.not_eq_true', decide_eq_false_iff_not] at c
    obtain ⟨⟨⟨c1, c2⟩, c3⟩, c4⟩ := c
    obtain ⟨p, hp, hpn, tp, rfl⟩ := one_ex h.1 c1
    obtain ⟨o, ho, hon, to, rfl⟩ := one_ex h.1 c2
    obtain ⟨w, hw, tw, rfl⟩ := upB_ex (by decide) c4
    rw [tp, to]
    have hpo : p ≠ o := fun q => c3 (by rw [q])
    obtain ⟨a1, a2⟩ := talk_row h hp ho (show w < 2 by omega)
    obtain ⟨b1, b2⟩ := talk_row h ho hp (show w < 2 by omega)
    generalize tkV (S (ixP p 6)) (nI w) o = x at a1 a2
    generalize tkV (S (ixP o 6)) (nI w) p = y at b1 b2
    have hk : ∀ q k, k < 6 → upd (upd S (ixP p 6) x) (ixP o 6) y (ixP q k) = S (ixP q k) := fun q k hk => by
      rw [pk_un (by unfold ixP; omega), pk_un (by unfold ixP; omega)]
    have h6 : ∀ q, upd (upd S (ixP p 6) x) (ixP o 6) y (ixP q 6) = if q = o then y else if q = p then x else S (ixP q 6) := fun q => by
      by_cases q1 : q = o
      · rw [if_pos q1, q1, pk_us]
      · rw [if_neg q1, pk_un (by unfold ixP; omega)]
        by_cases q2 : q = p
        · rw [if_pos q2, q2, pk_us]
        · rw [if_neg q2, pk_un (by unfold ixP; omega)]
    have hf : ∀ f k, f < 9 → k < 3 → upd (upd S (ixP p 6) x) (ixP o 6) y (ixF f k) = S (ixF f k) := fun f k hf hk => by
      rw [pk_un (by unfold ixP ixF; omega), pk_un (by unfold ixP ixF; omega)]
    have hs : ∀ i, i < 7 → upd (upd S (ixP p 6) x) (ixP o 6) y i = S i := fun i hi => by
      rw [pk_un (by unfold ixP; omega), pk_un (by unfold ixP; omega)]
    have hA : AgT S (upd (upd S (ixP p 6) x) (ixP o 6) y) := (AgT.refl.upd (by unfold ixP; omega) (by unfold ixP; omega)).upd (by unfold ixP; omega) (by unfold ixP; omega)
    have ht : ∀ a b, a < 8 → b < 8 → sTalk (upd (upd S (ixP p 6) x) (ixP o 6) y) a b = if (a = o ∧ b = p) ∨ (a = p ∧ b = o) then decide (w = 1) else sTalk S a b := fun a b ha hb => by
      unfold sTalk
      rw [h6 a]
      by_cases q1 : a = o
      · rw [if_pos q1, b2 b hb, q1]
        by_cases q2 : b = p
        · rw [if_pos q2, if_pos (Or.inl ⟨rfl, q2⟩)]
        · rw [if_neg q2, if_neg (by omega)]
          rfl
      · rw [if_neg q1]
        by_cases q2 : a = p
        · rw [if_pos q2, a2 b hb, q2]
          by_cases q3 : b = o
          · rw [if_pos q3, if_pos (Or.inr ⟨rfl, q3⟩)]
          · rw [if_neg q3, if_neg (by omega)]
            rfl
        · rw [if_neg q2, if_neg (by omega)]
    refine ⟨⟨?_, ⟨fun q hq => ?_, fun a b ha hb => ?_, fun q q1 q2 => ?_⟩, by show In (upd (upd S (ixP p 6) x) (ixP o 6) y 2) 9999; rw [hs 2 (by decide)]; exact h.2.2.1, fun a ha => ?_⟩, hA⟩
    · refine ⟨by show In (upd (upd S (ixP p 6) x) (ixP o 6) y 0) 8; rw [hs 0 (by decide)]; exact h.1.1, by show In (upd (upd S (ixP p 6) x) (ixP o 6) y 1) 14; rw [hs 1 (by decide)]; exact h.1.2.1, by show In (upd (upd S (ixP p 6) x) (ixP o 6) y 2) 11000; rw [hs 2 (by decide)]; exact h.1.2.2.1, by show In (upd (upd S (ixP p 6) x) (ixP o 6) y 5) 100; rw [hs 5 (by decide)]; exact h.1.2.2.2.1, fun f hf9 => ?_, fun q hq => ?_, fun t ht => ?_⟩
      · show In (upd (upd S (ixP p 6) x) (ixP o 6) y (ixF f 0)) 8 ∧ In (upd (upd S (ixP p 6) x) (ixP o 6) y (ixF f 1)) 99 ∧ In (upd (upd S (ixP p 6) x) (ixP o 6) y (ixF f 2)) 4
        rw [hf f 0 hf9 (by decide), hf f 1 hf9 (by decide), hf f 2 hf9 (by decide)]
        exact h.1.2.2.2.2.1 f hf9
      · show In (upd (upd S (ixP p 6) x) (ixP o 6) y (ixP q 0)) 5 ∧ In (upd (upd S (ixP p 6) x) (ixP o 6) y (ixP q 1)) 8 ∧ In (upd (upd S (ixP p 6) x) (ixP o 6) y (ixP q 2)) 99
        rw [hk q 0 (by decide), hk q 1 (by decide), hk q 2 (by decide)]
        exact h.1.2.2.2.2.2.1 q hq
      · have ht' : t < tn (upd (upd S (ixP p 6) x) (ixP o 6) y 1) := ht
        rw [hA.1] at ht'
        exact TV_agT hA (h.1.2.2.2.2.2.2 t ht')
    · show In (upd (upd S (ixP p 6) x) (ixP o 6) y (ixP q 3)) 511 ∧ In (upd (upd S (ixP p 6) x) (ixP o 6) y (ixP q 6)) 255
      rw [hk q 3 (by decide), h6 q]
      refine ⟨(h.2.1.1 q hq).1, ?_⟩
      split
      · exact b1
      · split
        · exact a1
        · exact (h.2.1.1 q hq).2
    · show sTalk (upd (upd S (ixP p 6) x) (ixP o 6) y) a b = sTalk (upd (upd S (ixP p 6) x) (ixP o 6) y) b a
      rw [ht a b ha hb, ht b a hb ha, h.2.1.2.1 a b ha hb]
      by_cases q : (a = o ∧ b = p) ∨ (a = p ∧ b = o)
      · rw [if_pos q, if_pos (by omega)]
      · rw [if_neg q, if_neg (by omega)]
    · have q1' : tn (upd (upd S (ixP p 6) x) (ixP o 6) y 0) ≤ q := q1
      rw [hs 0 (by decide)] at q1'
      show upd (upd S (ixP p 6) x) (ixP o 6) y (ixP q 3) = 0 ∧ upd (upd S (ixP p 6) x) (ixP o 6) y (ixP q 4) = 0 ∧ upd (upd S (ixP p 6) x) (ixP o 6) y (ixP q 5) = 0 ∧ upd (upd S (ixP p 6) x) (ixP o 6) y (ixP q 6) = 0
      rw [hk q 3 (by decide), hk q 4 (by decide), hk q 5 (by decide), h6 q, if_neg (by omega), if_neg (by omega)]
      exact h.2.1.2.2 q q1' q2
    · show sTalk (upd (upd S (ixP p 6) x) (ixP o 6) y) a a = false
      rw [ht a a ha ha, if_neg (by omega)]
      exact h.2.2.2 a ha
  · rw [if_neg c]
    exact GA.rf h
theorem Good.mix {I S : Rw} (h : Good I) : Good (mixR I S) := ⟨h.1.mix, h.2.1.mix, by rw [mix_lt (by decide)]; exact h.2.2.1, h.2.2.2.of (fun p hp => mix_lt (by unfold ixP; omega))⟩
theorem Good.tx {S : Rw} {B : Nat → Nat} {n : Nat} (h : Good S) (hn96 : n ≤ 96) (hB : ∀ i, i < n → B i < 256) : Good (txR S B n) := by
  obtain ⟨a, b, c⟩ := tx_inv hn96 hB h.1 h.2.1
  exact ⟨a, b, by rw [c 2 (by decide) (by decide)]; exact h.2.2.1, h.2.2.2.of (fun p hp => c _ (by unfold ixP; omega) (by unfold ixP; omega))⟩
