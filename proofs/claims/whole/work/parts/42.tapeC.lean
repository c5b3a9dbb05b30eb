/-! WHAT A TEXT TOLD DOES: the spec; rows that agree ahead of the texts' end -/
def prT (B : Nat → Nat) (n : Nat) : Tk := lexT B n 0 false
def prK (B : Nat → Nat) (n : Nat) : Nat := keyN B (prT B n).st (prT B n).en
def prR (B : Nat → Nat) (n : Nat) : Bool × PS := pP B n (prK B n) 2400 0 0 0 0 (adv B n (prT B n), [], 0)
def prOk (B : Nat → Nat) (n : Nat) : Bool := decide (prK B n < 3) && ((prR B n).1 && decide ((prR B n).2.tk.sg = 258))
def prSt (B : Nat → Nat) (n : Nat) : Nat := if prK B n < 3 then (prR B n).2.tk.st else (prT B n).st
def prOut (B : Nat → Nat) (n : Nat) : List (Nat × Nat) := if prK B n < 3 then (prR B n).2.out else []
def laT (S : Rw) : Nat := if tn (S 1) < 14 then ixT (tn (S 1)) 4 else 2890
def putT (S : Rw) (la : Nat) (out : List (Nat × Nat)) : Rw := fun i => if la ≤ i ∧ i < la + 2 * out.length then (if (i - la) % 2 = 0 then nI (out.getD ((i - la) / 2) (0, 0)).1 else nI (out.getD ((i - la) / 2) (0, 0)).2) else S i
def hdT (S : Rw) (t key ops len : Nat) : Rw := upd (upd (upd (upd S (ixT t 0) (nI key)) (ixT t 1) (nI ops)) (ixT t 2) (nI len)) 1 (nI (t + 1))
def txR (S : Rw) (B : Nat → Nat) (n : Nat) : Rw := if prOk B n = true ∧ tn (S 1) < 14 then hdT (putT S (laT S) (prOut B n)) (tn (S 1)) (prK B n) (prR B n).2.ops (prR B n).2.out.length else putT S (laT S) (prOut B n)
def txV (S : Rw) (B : Nat → Nat) (n : Nat) : Int32 := if prOk B n = true then (if tn (S 1) < 14 then S 1 else -1000000003) else -100 - nI (prSt B n)
/-- rows that agree ahead of text t, of t texts at most -/
def AgB (t : Nat) (S S' : Rw) : Prop := ∀ i, i < ixT t 0 → i ≠ 1 → S' i = S i
theorem agb_put {S : Rw} {la t : Nat} {out : List (Nat × Nat)} (h : ixT t 0 ≤ la) : AgB t S (putT S la out) ∧ putT S la out 1 = S 1 := by
  have q : ∀ i, i < ixT t 0 → putT S la out i = S i := fun i hi => by
    unfold putT
    rw [if_neg (by omega)]
  exact ⟨fun i hi _ => q i hi, q 1 (by unfold ixT; omega)⟩
section AB
variable {S S' : Rw} {t : Nat}
theorem agb_lo (h : AgB t S S') {i : Nat} (hi : i < 90) (h1 : i ≠ 1) : S' i = S i := h i (by unfold ixT; omega) h1
theorem agb_tx (h : AgB t S S') {t' k : Nat} (ht : t' < t) (hk : k < 200) : S' (ixT t' k) = S (ixT t' k) := h _ (by unfold ixT; omega) (by unfold ixT; omega)
theorem agb_cntN (h : AgB t S S') (key : Int32) : ∀ m, m ≤ t → cntN S' key m = cntN S key m
  | 0, _ => rfl
  | m + 1, hm => by rw [cntN, cntN, agb_tx h (show m < t by omega) (by decide), agb_cntN h key m (by omega)]
theorem agb_wT (h : AgB t S S') {t' k : Nat} (ht : t' < t) (hk : k < 98) : wT S' t' k = wT S t' k := agb_tx h ht (by omega)
theorem agb_vT (h : AgB t S S') {t' k : Nat} (ht : t' < t) (hk : k < 97) : vT S' t' k = vT S t' k := agb_tx h ht (by omega)
theorem agb_mT (h : AgB t S S') {t' : Nat} (ht : t' < t) : mT S' t' = mT S t' := by unfold mT; rw [agb_tx h ht (by decide)]
theorem agb_dN (h : AgB t S S') {t' : Nat} (ht : t' < t) : ∀ k, k ≤ 97 → dN S' t' k = dN S t' k
  | 0, _ => rfl
  | k + 1, hk => by rw [dN, dN, agb_wT h ht (by omega), agb_vT h ht (by omega), agb_dN h ht k (by omega)]
theorem agb_TV (h : AgB t S S') {t' : Nat} (ht : t' < t) (hT : TV S t') : TV S' t' := by
  have hm : mT S t' ≤ 96 := hT.1.2
  unfold TV
  rw [agb_tx h ht (by decide), agb_tx h ht (by decide), agb_mT h ht, agb_dN h ht _ (by omega)]
  refine ⟨hT.1, hT.2.1, fun k hk => ?_, hT.2.2.2⟩
  have := hT.2.2.1 k hk
  unfold okS at this ⊢
  rw [agb_wT h ht (by omega), agb_vT h ht (by omega), agb_dN h ht k (by omega), agb_tx h ht (by decide)]
  exact this
theorem agb_WRel (h : AgB t S S') (h1 : S' 1 = S 1) {w : Nat} {σ : Sg} (hR : WRel w S σ) (ht : tn (S 1) ≤ t) : WRel w S' σ := by
  refine ⟨fun k i hk hi => ?_, fun k f hk hf => ?_, fun i hi => ?_, fun k hk => ?_, ?_⟩
  · rw [agb_lo h (by unfold ixP; omega) (by unfold ixP; omega)]; exact hR.p k hk hi
  · rw [agb_lo h (by unfold ixF; omega) (by unfold ixF; omega)]; exact hR.f k hk hf
  · rw [agb_lo h (by unfold ixP; omega) (by unfold ixP; omega)]; exact hR.t hi
  · have e : cnt S' k = cnt S k := by unfold cnt; rw [h1, agb_cntN h _ _ ht]
    rw [e]; exact hR.c hk
  · rw [agb_lo h (i := 0) (by decide) (by decide), agb_lo h (i := 2) (by decide) (by decide), agb_lo h (i := 5) (by decide) (by decide), agb_lo h (i := 3) (by decide) (by decide), agb_lo h (i := 4) (by decide) (by decide), agb_lo h (i := 6) (by decide) (by decide), h1]
    exact hR.2.2.2.2
theorem agb_LRel (h : AgB t S S') (h1 : S' 1 = S 1) {σ : Sg} (hL : LRel S σ) (ht : tn (S 1) ≤ t) (hT : ∀ t', t' < tn (S 1) → TV S t') : LRel S' σ := by
  intro t' ht'
  rw [h1] at ht'
  have hlt : t' < t := by omega
  have hm : mT S t' ≤ 96 := (hT t' ht').1.2
  obtain ⟨a, b, c, e⟩ := hL t' ht'
  rw [agb_tx h hlt (by decide), agb_tx h hlt (by decide), agb_tx h hlt (by decide)]
  refine ⟨a, b, c, fun k hk => ?_⟩
  rw [agb_mT h hlt] at hk
  rw [agb_wT h hlt (by omega), agb_vT h hlt (by omega)]
  exact e k hk
theorem agb_Inv (h : AgB t S S') (h1 : S' 1 = S 1) (hI : Inv S) (ht : tn (S 1) ≤ t) : Inv S' := by
  refine ⟨?_, ?_, ?_, ?_, fun f hf => ?_, fun p hp => ?_, fun t' ht' => ?_⟩
  · rw [agb_lo h (i := 0) (by decide) (by decide)]; exact hI.1
  · rw [h1]; exact hI.2.1
  · rw [agb_lo h (i := 2) (by decide) (by decide)]; exact hI.2.2.1
  · rw [agb_lo h (i := 5) (by decide) (by decide)]; exact hI.2.2.2.1
  · rw [agb_lo h (by unfold ixF; omega) (by unfold ixF; omega), agb_lo h (by unfold ixF; omega) (by unfold ixF; omega), agb_lo h (by unfold ixF; omega) (by unfold ixF; omega)]; exact hI.2.2.2.2.1 f hf
  · rw [agb_lo h (by unfold ixP; omega) (by unfold ixP; omega), agb_lo h (by unfold ixP; omega) (by unfold ixP; omega), agb_lo h (by unfold ixP; omega) (by unfold ixP; omega)]; exact hI.2.2.2.2.2.1 p hp
  · rw [h1] at ht'
    exact agb_TV h (by omega) (hI.txt ht').1
theorem agb_Inv2 (h : AgB t S S') (hJ : Inv2 S) : Inv2 S' := hJ.of (agb_lo h (i := 0) (by decide) (by decide)) (fun p k _ _ _ => agb_lo h (by unfold ixP; omega) (by unfold ixP; omega))
end AB
theorem laT_ge {S : Rw} (hI : Inv S) : ixT (tn (S 1)) 0 ≤ laT S := by
  have := hI.2.1.2
  unfold laT ixT
  split <;> omega
/-- a text that was read, in its row -/
theorem new_text {S : Rw} {t key ops d : Nat} {out : List (Nat × Nat)} (ht : t < 14) (hk3 : key < 3) (hl : out.length ≤ 96) (hg : goL key out = some d) (hd : 1 ≤ d) : ∀ S', S' = hdT (putT S (ixT t 4) out) t key ops out.length → TV S' t ∧ S' (ixT t 0) = nI key ∧ S' (ixT t 1) = nI ops ∧ S' (ixT t 2) = nI out.length ∧ (∀ k x, out[k]? = some x → wT S' t k = nI x.1 ∧ vT S' t k = nI x.2) ∧ AgB t S S' ∧ S' 1 = nI (t + 1) := by
  intro S' e
  have h0 : S' (ixT t 0) = nI key := by rw [e]; unfold hdT; rw [pk_un (by unfold ixT; omega), pk_un (by unfold ixT; omega), pk_un (by unfold ixT; omega), pk_us]
  have h1 : S' (ixT t 1) = nI ops := by rw [e]; unfold hdT; rw [pk_un (by unfold ixT; omega), pk_un (by unfold ixT; omega), pk_us]
  have h2 : S' (ixT t 2) = nI out.length := by rw [e]; unfold hdT; rw [pk_un (by unfold ixT; omega), pk_us]
  have hw : ∀ k x, out[k]? = some x → wT S' t k = nI x.1 ∧ vT S' t k = nI x.2 := by
    intro k x hx
    have hkl := (List.getElem?_eq_some_iff.mp hx).1
    have hgd : out.getD k (0, 0) = x := by rw [List.getD_eq_getElem?_getD, hx]; rfl
    unfold wT vT
    rw [e]
    unfold hdT
    constructor
    · rw [pk_un (by unfold ixT; omega), pk_un (by unfold ixT; omega), pk_un (by unfold ixT; omega), pk_un (by unfold ixT; omega)]
      unfold putT
      rw [if_pos (by unfold ixT; omega), if_pos (by unfold ixT; omega), show (ixT t (4 + 2 * k) - ixT t 4) / 2 = k by unfold ixT; omega, hgd]
    · rw [pk_un (by unfold ixT; omega), pk_un (by unfold ixT; omega), pk_un (by unfold ixT; omega), pk_un (by unfold ixT; omega)]
      unfold putT
      rw [if_pos (by unfold ixT; omega), if_neg (by unfold ixT; omega), show (ixT t (5 + 2 * k) - ixT t 4) / 2 = k by unfold ixT; omega, hgd]
  have hmt : mT S' t = out.length := by unfold mT; rw [h2, tn_nI (by omega)]
  obtain ⟨i1, i2⟩ := go_ok (S := S') (t := t) (key := key) (by rw [h0, tn_nI (by omega)]) out.length out rfl hw d hg
  refine ⟨⟨by rw [h2]; exact In.mk' hl (by decide), by rw [h0]; exact In.mk' (by omega) (by decide), fun k hk => i2 k (by rw [hmt] at hk; exact hk), by rw [hmt, i1]; exact hd⟩, h0, h1, h2, hw, fun i hi q => ?_, by rw [e]; unfold hdT; rw [pk_us]⟩
  rw [e]
  unfold hdT
  · rw [pk_un q, pk_un (by unfold ixT at hi ⊢; omega), pk_un (by unfold ixT at hi ⊢; omega), pk_un (by unfold ixT at hi ⊢; omega)]
    unfold putT
    rw [if_neg (by unfold ixT at hi ⊢; omega)]
/-- what is known of a text that reads well -/
theorem pr_facts {B : Nat → Nat} {n : Nat} (hn96 : n ≤ 96) (hB : ∀ i, i < n → B i < 256) : TkOk B n (prT B n) ∧ TkOk B n (adv B n (prT B n)) ∧ TkOk B n (prR B n).2.tk ∧ (prR B n).2.out.length ≤ (prR B n).2.tk.st ∧ (prR B n).2.ops ≤ (prR B n).2.tk.st ∧ ((prR B n).1 = true → goL (prK B n) (prR B n).2.out = some 1) ∧ need n 0 0 ((adv B n (prT B n), [], 0) : PS) ≤ 2400 := by
  have h1 : TkOk B n (prT B n) := (lexT_ok hB (Nat.zero_le n) false).1
  have h2 : TkOk B n (adv B n (prT B n)) := (adv_ok hB h1).1
  obtain ⟨g1, g2, g3, g4, g5, g6⟩ := pP_fair hB (prK B n) 2400 0 (by decide) 0 0 0 ((adv B n (prT B n), [], 0) : PS) h2
  refine ⟨h1, h2, g1, ?_, ?_, fun hr => ?_, ?_⟩
  · have : (prR B n).2.out.length + (adv B n (prT B n)).st ≤ 0 + (prR B n).2.tk.st := g4
    omega
  · have : (prR B n).2.ops + (adv B n (prT B n)).st ≤ 0 + (prR B n).2.tk.st := g5
    omega
  · have := pP_go hB (prK B n) 2400 0 (by decide) 0 0 0 ((adv B n (prT B n), [], 0) : PS) 0 h2 rfl (fun z => absurd z (by decide)) hr
    rw [if_neg (by decide)] at this
    exact this
  · rw [need_ex]
    omega
/-- the new row is a row -/
theorem tx_inv {S : Rw} {B : Nat → Nat} {n : Nat} (hn96 : n ≤ 96) (hB : ∀ i, i < n → B i < 256) (hI : Inv S) (hJ : Inv2 S) : Inv (txR S B n) ∧ Inv2 (txR S B n) ∧ (∀ i, i < 90 → i ≠ 1 → txR S B n i = S i) := by
  have h14 := hI.2.1.2
  by_cases c : prOk B n = true ∧ tn (S 1) < 14
  · have e : txR S B n = hdT (putT S (ixT (tn (S 1)) 4) (prR B n).2.out) (tn (S 1)) (prK B n) (prR B n).2.ops (prR B n).2.out.length := by
      have hk : prK B n < 3 := by
        have := c.1
        unfold prOk at this
        simp only [Bool.and_eq_true, decide_eq_true_eq] at this
        exact this.1
      unfold txR
      rw [if_pos c]
      unfold prOut laT
      rw [if_pos hk, if_pos c.2]
    obtain ⟨f1, f2, f3, f4, f5, f6, f7⟩ := pr_facts hn96 hB
    have hok := c.1
    unfold prOk at hok
    simp only [Bool.and_eq_true, decide_eq_true_eq] at hok
    have hst := f3.1
    obtain ⟨g1, g2, g3, g4, g5, g6, h1'⟩ := new_text (S := S) c.2 hok.1 (by omega) (f6 hok.2.1) (by decide) (txR S B n) e
    have hlo : ∀ i, i < 90 → i ≠ 1 → txR S B n i = S i := fun i hi hi1 => agb_lo g6 hi hi1
    refine ⟨⟨?_, ?_, ?_, ?_, fun f hf => ?_, fun p hp => ?_, fun t' ht' => ?_⟩, hJ.of (hlo 0 (by decide) (by decide)) (fun p k _ _ _ => hlo _ (by unfold ixP; omega) (by unfold ixP; omega)), hlo⟩
    · rw [hlo 0 (by decide) (by decide)]; exact hI.1
    · rw [h1']; exact In.mk' (by omega) (by decide)
    · rw [hlo 2 (by decide) (by decide)]; exact hI.2.2.1
    · rw [hlo 5 (by decide) (by decide)]; exact hI.2.2.2.1
    · rw [hlo _ (by unfold ixF; omega) (by unfold ixF; omega), hlo _ (by unfold ixF; omega) (by unfold ixF; omega), hlo _ (by unfold ixF; omega) (by unfold ixF; omega)]; exact hI.2.2.2.2.1 f hf
    · rw [hlo _ (by unfold ixP; omega) (by unfold ixP; omega), hlo _ (by unfold ixP; omega) (by unfold ixP; omega), hlo _ (by unfold ixP; omega) (by unfold ixP; omega)]; exact hI.2.2.2.2.2.1 p hp
    · rw [h1', tn_nI (by omega)] at ht'
      rcases Nat.lt_succ_iff_lt_or_eq.mp ht' with q | q
      · exact agb_TV g6 q (hI.txt q).1
      · rw [q]; exact g1
  · have e : txR S B n = putT S (laT S) (prOut B n) := by unfold txR; rw [if_neg c]
    have hA : AgB (tn (S 1)) S (txR S B n) ∧ txR S B n 1 = S 1 := by rw [e]; exact agb_put (laT_ge hI)
    exact ⟨agb_Inv hA.1 hA.2 hI (Nat.le_refl _), agb_Inv2 hA.1 hJ, fun i hi q => agb_lo hA.1 hi q⟩
theorem tx_W {S S' : Rw} {t key : Nat} {σ σ' : Sg} (hR : WRel 28 S σ) (ht : tn (S 1) = t) (ht14 : t < 14) (hA : AgB t S S') (h1 : S' 1 = nI (t + 1)) (h0 : S' (ixT t 0) = nI key) (hk3 : key < 3)
    (e42 : σ' 42 = upd (σ 42) key (nI t)) (e13 : σ' 28 13 = nI (t + 1)) (e28 : ∀ j, j ≠ 13 → σ' 28 j = σ 28 j) (eo : ∀ q, 28 < q → q < 42 → σ' q = σ q) : WRel 28 S' σ' := by
  refine ⟨fun k i hk hi => ?_, fun k f hk hf => ?_, fun i hi => ?_, fun k hk => ?_, ?_, ?_, ?_, ?_, ?_, ?_, ?_⟩
  · rw [agb_lo hA (by unfold ixP; omega) (by unfold ixP; omega), eo _ (by omega) (by omega)]; exact hR.p k hk hi
  · rw [agb_lo hA (by unfold ixF; omega) (by unfold ixF; omega), eo _ (by omega) (by omega)]; exact hR.f k hk hf
  · rw [agb_lo hA (by unfold ixP; omega) (by unfold ixP; omega), eo _ (by omega) (by omega)]; exact hR.t hi
  · have e : cnt S' k = if key = k then nI t else cnt S k := by
      unfold cnt
      rw [h1, tn_nI (by omega), cntN, h0, agb_cntN hA _ _ (Nat.le_refl _), ht]
      by_cases q : key = k
      · rw [if_pos (by rw [q]), if_pos q]
      · rw [if_neg (fun z => q ((neq (by omega) (by omega)).mp z)), if_neg q]
    rw [e]
    show σ' 42 k = _
    rw [e42]
    by_cases q : key = k
    · rw [if_pos q, q, pk_us]
    · rw [if_neg q, pk_un (Ne.symm q)]
      exact hR.c hk
  · rw [e28 7 (by decide), agb_lo hA (i := 0) (by decide) (by decide)]; exact hR.n
  · rw [e28 8 (by decide), agb_lo hA (i := 2) (by decide) (by decide)]; exact hR.noon
  · rw [e28 9 (by decide), agb_lo hA (i := 5) (by decide) (by decide)]; exact hR.late
  · rw [e28 10 (by decide), agb_lo hA (i := 3) (by decide) (by decide)]; exact hR.steps
  · rw [e28 11 (by decide), agb_lo hA (i := 4) (by decide) (by decide)]; exact hR.left
  · rw [e28 12 (by decide), agb_lo hA (i := 6) (by decide) (by decide)]; exact hR.z
  · rw [e13, h1]
theorem tx_L {S S' : Rw} {t key ops : Nat} {out : List (Nat × Nat)} {σ σ' : Sg} (hL : LRel S σ) (hT : ∀ t', t' < tn (S 1) → TV S t') (ht : tn (S 1) = t) (ht14 : t < 14) (hA : AgB t S S') (h1 : S' 1 = nI (t + 1)) (h0 : S' (ixT t 0) = nI key) (h01 : S' (ixT t 1) = nI ops) (h02 : S' (ixT t 2) = nI out.length) (hk3 : key < 3) (hl : out.length ≤ 96)
    (hw : ∀ k x, out[k]? = some x → wT S' t k = nI x.1 ∧ vT S' t k = nI x.2)
    (e24 : σ' 24 = upd (σ 24) t (nI out.length)) (e25 : σ' 25 = upd (σ 25) t (nI key)) (e26 : σ' 26 = upd (σ 26) t (nI ops)) (ec : ∀ k x, out[k]? = some x → σ' (10 + t) k = encO key (nI x.1) (nI x.2)) (eo : ∀ t', t' < t → σ' (10 + t') = σ (10 + t')) : LRel S' σ' := by
  intro t' ht'
  rw [h1, tn_nI (by omega)] at ht'
  rcases Nat.lt_succ_iff_lt_or_eq.mp ht' with q | q
  · obtain ⟨a, b, c, e⟩ := hL t' (by omega)
    have hm : mT S t' ≤ 96 := (hT t' (by omega)).1.2
    rw [e24, e25, e26, pk_un (by omega), pk_un (by omega), pk_un (by omega), agb_tx hA q (by decide), agb_tx hA q (by decide), agb_tx hA q (by decide), eo t' q]
    refine ⟨a, b, c, fun k hk => ?_⟩
    rw [agb_mT hA q] at hk
    rw [agb_wT hA q (by omega), agb_vT hA q (by omega)]
    exact e k hk
  · rw [q, e24, e25, e26, pk_us, pk_us, pk_us, h0, h01, h02]
    refine ⟨rfl, rfl, rfl, fun k hk => ?_⟩
    have hmt : mT S' t = out.length := by unfold mT; rw [h02, tn_nI (by omega)]
    rw [hmt] at hk
    have hx : out[k]? = some out[k] := List.getElem?_eq_getElem hk
    rw [ec k _ hx, (hw k _ hx).1, (hw k _ hx).2, tn_nI (by omega)]
theorem isWd_258 : isWd 258 = false := by decide
def OutX (t : Nat) (σ σ1 : Sg) : Prop := (∀ q, q ≠ 28 → q ≠ 42 → q ≠ 73 → q ≠ 75 → (q < 10 ∨ 27 ≤ q) → σ1 q = σ q) ∧ (∀ q, 10 ≤ q → q < 24 → q ≠ 10 + t → σ1 q = σ q) ∧ (∀ q j, 24 ≤ q → q < 27 → j ≠ t → σ1 q j = σ q j)
theorem keyI_ge {k : Nat} : 0 ≤ keyI k ↔ k < 3 := by
  unfold keyI
  by_cases h : k < 3
  · rw [if_pos h]
    exact ⟨fun _ => h, fun _ => nI_pos' (by omega)⟩
  · rw [if_neg h]
    exact ⟨fun q => absurd q (by decide), fun q => absurd q h⟩
theorem p_Ta_parse (g : CX) (d : Nat) (hd : 96 ≤ d) (σ : Sg) (B : Nat → Nat) (n : Nat) (hn96 : n ≤ 96) (hB : ∀ i, i < n → B i < 256) (hby : ByC B n σ) : RunM g d Ta_parse [.ref 73] σ (PN (bI (prOk B n)) (fun σ' => σ' 73 6 = nI (prSt B n) ∧ (prOk B n = true → TapC B n (prK B n) (prR B n).2 σ') ∧ OutT σ σ' ∧ σ' 73 2 = σ 73 2)) := by
  refine RunM.of 0 (by decide +kernel) rfl ?_
  intro κ hg hx hk0 G E
  subst hg
  have hk : 1 ≤ kn κ := Nat.le_of_eq hk0.symm
  show X κ NC 0 [some (.ref 73)] [] (hv σ)
  refine x_aload0 G d_Ta_parse_0 ?_
  refine x_iconst (v := nI 0) G d_Ta_parse_1 rfl ?_
  refine m_puti_n G d_Ta_parse_2 fl_Ta_22 rfl (by decide) rfl rfl rfl (fun σ1 e1 => ?_)
  refine x_aload0 G d_Ta_parse_5 ?_
  refine x_iconst (v := nI 0) G d_Ta_parse_6 rfl ?_
  refine m_puti_n G d_Ta_parse_7 fl_Ta_28 rfl (by decide) rfl rfl rfl (fun σ2 e2 => ?_)
  refine x_aload0 G d_Ta_parse_10 ?_
  refine x_iconst (v := nI 0) G d_Ta_parse_11 rfl ?_
  refine m_puti_n G d_Ta_parse_12 fl_Ta_34 rfl (by decide) rfl rfl rfl (fun σ3 e3 => ?_)
  refine x_aload0 G d_Ta_parse_15 ?_
  refine x_sipush (v := nI 258) G d_Ta_parse_16 rfl ?_
  refine m_puti_n G d_Ta_parse_19 fl_Ta_37 rfl (by decide) rfl rfl rfl (fun σ4 e4 => ?_)
  have g4 : ∀ j, j ≠ 3 → j ≠ 5 → j ≠ 7 → j ≠ 8 → σ4 73 j = σ 73 j := fun j a b c d => by rw [e4, updS_ne (by omega), e3, updS_ne (by omega), e2, updS_ne (by omega), e1, updS_ne (by omega)]
  have G4 : ∀ q, q ≠ 73 → σ4 q = σ q := fun q a => by rw [e4, updS_nk a, e3, updS_nk a, e2, updS_nk a, e1, updS_nk a]
  have hby4 : ByC B n σ4 := hby.frame (g4 2 (by decide) (by decide) (by decide) (by decide)) (G4 74 (by decide))
  refine x_aload0 G d_Ta_parse_22 ?_
  refine m_callV_pv (p_Ta_advance (kg κ) (d - 1) (by omega) σ4 B n hn96 hB hby4 0 258 (Nat.zero_le _) (by rw [e4, updS_ne (by decide), e3, updS_at]) (by rw [e4, updS_at]) (by decide)) G d_Ta_parse_23 lk_Ta_44 rfl ⟨by decide, rfl⟩ (by decide) (by omega) rfl (Nat.le_of_ble_eq_true rfl) hx (fun σ5 ⟨f1, f2, f3⟩ => ?_)
  rw [isWd_258] at f1
  obtain ⟨q1, q2, q3, q4, q5, q6, q7⟩ := pr_facts hn96 hB
  have hby5 : ByC B n σ5 := hby4.frame (f2 2 (by decide) (by decide) (by decide) (by decide)) (f3 74 (by decide))
  have h53 : σ5 73 3 = nI 0 := by rw [f2 3 (by decide) (by decide) (by decide) (by decide), e4, updS_ne (by decide), e3, updS_ne (by decide), e2, updS_ne (by decide), e1, updS_at]
  have h55 : σ5 73 5 = nI 0 := by rw [f2 5 (by decide) (by decide) (by decide) (by decide), e4, updS_ne (by decide), e3, updS_ne (by decide), e2, updS_at]
  have G5 : ∀ q, q ≠ 73 → σ5 q = σ q := fun q a => by rw [f3 q a, G4 q a]
  refine x_aload0 G d_Ta_parse_26 ?_
  refine x_aload0 G d_Ta_parse_27 ?_
  refine m_callV_pi (p_Ta_keyAhead (kg κ) (d - 1) (by omega) σ5 B n hn96 hB (prT B n) hby5 f1 q1) G d_Ta_parse_28 lk_Ta_47 rfl ⟨by decide, rfl⟩ (by decide) (by omega) rfl (Nat.le_of_ble_eq_true rfl) hx ?_
  refine m_puti_n G d_Ta_parse_31 fl_Ta_25 rfl (by decide) rfl rfl rfl (fun σ6 e6 => ?_)
  have g6 : ∀ j, j ≠ 4 → σ6 73 j = σ5 73 j := fun j a => by rw [e6, updS_ne (by omega)]
  have G6 : ∀ q, q ≠ 73 → σ6 q = σ q := fun q a => by rw [e6, updS_nk a, G5 q a]
  have f6 : TkC (prT B n) σ6 := ⟨by rw [g6 6 (by decide)]; exact f1.1, by rw [g6 7 (by decide)]; exact f1.2.1, by rw [g6 8 (by decide)]; exact f1.2.2.1, by rw [g6 9 (by decide)]; exact f1.2.2.2⟩
  have hby6 : ByC B n σ6 := hby.frame (by rw [g6 2 (by decide), f2 2 (by decide) (by decide) (by decide) (by decide), g4 2 (by decide) (by decide) (by decide) (by decide)]) (G6 74 (by decide))
  refine x_aload0 G d_Ta_parse_34 ?_
  refine m_geti G d_Ta_parse_35 fl_Ta_25 rfl (by decide) rfl ?_
  rw [show σ6 73 4 = keyI (prK B n) by rw [e6, updS_at]; rfl]
  refine x_if_ge G d_Ta_parse_38 (fun c38 => ?_) (fun c38 => ?_)
  · have hK : prK B n < 3 := keyI_ge.mp c38
    refine x_aload0 G d_Ta_parse_48 ?_
    refine m_callV_pv (p_Ta_advance (kg κ) (d - 1) (by omega) σ6 B n hn96 hB hby6 (prT B n).en (prT B n).sg q1.2.1 f6.2.1 f6.2.2.1 q1.sl) G d_Ta_parse_49 lk_Ta_44 rfl ⟨by decide, rfl⟩ (by decide) (by omega) rfl (Nat.le_of_ble_eq_true rfl) hx (fun σ8 ⟨f81, f82, f83⟩ => ?_)
    have G8 : ∀ q, q ≠ 73 → σ8 q = σ q := fun q a => by rw [f83 q a, G6 q a]
    have t8 : TapC B n (prK B n) ((adv B n (prT B n), [], 0) : PS) σ8 := ⟨hby6.frame (f82 2 (by decide) (by decide) (by decide) (by decide)) (f83 74 (by decide)), f81, by rw [f82 3 (by decide) (by decide) (by decide) (by decide), g6 3 (by decide)]; exact h53, by rw [f82 4 (by decide) (by decide) (by decide) (by decide), e6, updS_at]; exact if_pos hK, by rw [f82 5 (by decide) (by decide) (by decide) (by decide), g6 5 (by decide)]; exact h55, fun k x hx' => by cases hx'⟩
    refine x_aload0 G d_Ta_parse_52 ?_
    refine x_iconst (v := nI 0) G d_Ta_parse_53 rfl ?_
    refine x_iconst (v := nI 0) G d_Ta_parse_54 rfl ?_
    refine x_iconst (v := nI 0) G d_Ta_parse_55 rfl ?_
    refine m_callV_pn ((C_all hn96 hB hK 2400).1 (kg κ) (d - 1) σ8 0 0 0 ((adv B n (prT B n), [], 0) : PS) (by unfold dep; omega) (by decide) (by decide) (by decide) q7 t8 q2 (Nat.zero_le _)) G d_Ta_parse_56 lk_Ta_51 rfl ⟨by decide, rfl⟩ (by decide) (by omega) rfl (Nat.le_of_ble_eq_true rfl) hx (fun σ9 h9 => ?_)
    have h9 : TapC B n (prK B n) (prR B n).2 σ9 ∧ OutT σ8 σ9 := h9
    obtain ⟨t9, o9⟩ := h9
    have o19 : OutT σ σ9 := fun q a b => by rw [o9 q a b, G8 q a]
    show X κ NC 59 _ (.int (bI (prR B n).1) :: _) _
    refine x_if_eq G d_Ta_parse_59 (fun c59 => ?_) (fun c59 => ?_)
    · replace c59 := bI_0.mp c59
      refine x_iconst (v := nI 0) G d_Ta_parse_76 rfl ?_
      exact m_iret E G d_Ta_parse_77 hx rfl rfl ⟨by rw [show prOk B n = false by unfold prOk; rw [decide_eq_true hK, c59]; rfl]; rfl, by rw [t9.2.1.1, prSt, if_pos hK], (fun _ => t9), o19, t9.1.1.trans hby.1.symm⟩
    · replace c59 := bI_n0.mp c59
      refine x_aload0 G d_Ta_parse_62 ?_
      refine m_geti G d_Ta_parse_63 fl_Ta_37 rfl (by decide) rfl ?_
      rw [t9.2.1.2.2.1]
      refine x_sipush (v := nI 258) G d_Ta_parse_66 rfl ?_
      refine x_icmp_ne G d_Ta_parse_69 (fun c69 => ?_) (fun c69 => ?_)
      · have h58 : ¬ (prR B n).2.tk.sg = 258 := fun e => c69 (by rw [e])
        refine x_iconst (v := nI 0) G d_Ta_parse_76 rfl ?_
        exact m_iret E G d_Ta_parse_77 hx rfl rfl ⟨by rw [show prOk B n = false by unfold prOk; rw [decide_eq_true hK, c59, decide_eq_false h58]; rfl]; rfl, by rw [t9.2.1.1, prSt, if_pos hK], (fun _ => t9), o19, t9.1.1.trans hby.1.symm⟩
      · have h58 : (prR B n).2.tk.sg = 258 := by
          have q := c69
          rw [neq (by have := q3.sl; omega) (by decide)] at q
          exact q
        refine x_iconst (v := nI 1) G d_Ta_parse_72 rfl ?_
        refine x_goto G d_Ta_parse_73 ?_
        exact m_iret E G d_Ta_parse_77 hx rfl rfl ⟨by rw [show prOk B n = true by unfold prOk; rw [decide_eq_true hK, c59, decide_eq_true h58]; rfl]; rfl, by rw [t9.2.1.1, prSt, if_pos hK], (fun _ => t9), o19, t9.1.1.trans hby.1.symm⟩
  · have hK : ¬ prK B n < 3 := fun z => c38 (keyI_ge.mpr z)
    refine x_aload0 G d_Ta_parse_41 ?_
    refine x_iconst (v := nI 0) G d_Ta_parse_42 rfl ?_
    refine m_puti_n G d_Ta_parse_43 fl_Ta_25 rfl (by decide) rfl rfl rfl (fun σ7 e7 => ?_)
    refine x_iconst (v := nI 0) G d_Ta_parse_46 rfl ?_
    exact m_iret E G d_Ta_parse_47 hx rfl rfl ⟨by rw [show prOk B n = false by unfold prOk; rw [decide_eq_false hK]; rfl]; rfl, by rw [e7, updS_ne (by decide), f6.1, prSt, if_neg hK], fun z => absurd z (by unfold prOk; rw [decide_eq_false hK, Bool.false_and]; decide), (fun q a b => by rw [e7, updS_nk a, G6 q a]), by rw [e7, updS_ne (by decide)]; exact hby6.1.trans hby.1.symm⟩
theorem p_Lw_enact (g : CX) (d : Nat) (hd : 1 ≤ d) (σ : Sg) (B : Nat → Nat) (n key : Nat) (s : PS) (hC : TapC B n key s σ) (hl96 : s.out.length ≤ 96) (t : Nat) (ht : t < 14) : RunM g d Lw_enact [.ref 8, .int (nI t), .ref 73] σ (PV (fun σ1 => (∀ k x, s.out[k]? = some x → σ1 (10 + t) k = encO key (nI x.1) (nI x.2)) ∧ σ1 24 = upd (σ 24) t (nI s.out.length) ∧ σ1 25 = upd (σ 25) t (nI key) ∧ σ1 26 = upd (σ 26) t (nI s.ops) ∧ ∀ q, q ≠ 10 + t → q ≠ 24 → q ≠ 25 → q ≠ 26 → σ1 q = σ q)) := by
  refine RunM.of 0 (by decide +kernel) rfl ?_
  intro κ hg hx hk0 G E
  subst hg
  have hk : 3 ≤ kn κ := Nat.le_of_eq hk0.symm
  show X κ NC 0 [some (.ref 8), some (.int (nI t)), some (.ref 73)] [] (hv σ)
  refine x_aload2 G d_Lw_enact_0 ?_
  refine m_getr G d_Lw_enact_1 fl_Lw_29 rfl (by decide) rfl ?_
  refine x_iconst (v := nI 0) G d_Lw_enact_4 rfl ?_
  refine x_aload0 G d_Lw_enact_5 ?_
  refine m_getr G d_Lw_enact_6 fl_Lw_11 rfl (by decide) rfl ?_
  refine x_iload1 G d_Lw_enact_9 ?_
  refine m_aald t G d_Lw_enact_10 rfl (by decide) rfl ⟨ht, by first | decide | omega⟩ (rt9 ht) ?_
  refine x_iconst (v := nI 0) G d_Lw_enact_11 rfl ?_
  refine x_bipush (v := nI 96) G d_Lw_enact_12 rfl ?_
  refine m_cpy 0 0 96 lm_Lw_34 G d_Lw_enact_14 (by decide) rfl (sh10 ht) (by decide) (by omega) rfl rfl rfl (by decide) (by decide) (fun h => absurd h (by decide)) (by omega) (Nat.le_of_ble_eq_true rfl) ?_
  generalize e1 : updR σ (10 + t) (va_cpy (σ 75) (σ (10 + t)) 0 0 96) = σ1
  have G1 : ∀ q, q ≠ 10 + t → σ1 q = σ q := fun q a => by rw [← e1, updR_nk a]
  refine x_aload0 G d_Lw_enact_17 ?_
  refine m_getr G d_Lw_enact_18 fl_Lw_16 rfl (by decide) rfl ?_
  refine x_iload1 G d_Lw_enact_21 ?_
  refine x_aload2 G d_Lw_enact_22 ?_
  refine m_geti G d_Lw_enact_23 fl_Lw_40 rfl (by decide) rfl ?_
  rw [show σ1 73 3 = nI s.out.length by rw [G1 73 (by omega)]; exact hC.2.2.1]
  refine m_iast_n t G d_Lw_enact_26 rfl rfl ⟨ht, by first | decide | omega⟩ (fun σ2 e2 => ?_)
  refine x_aload0 G d_Lw_enact_27 ?_
  refine m_getr G d_Lw_enact_28 fl_Lw_20 rfl (by decide) rfl ?_
  refine x_iload1 G d_Lw_enact_31 ?_
  refine x_aload2 G d_Lw_enact_32 ?_
  refine m_geti G d_Lw_enact_33 fl_Lw_44 rfl (by decide) rfl ?_
  rw [show σ2 73 4 = nI key by rw [e2, updS_nk (by decide), G1 73 (by omega)]; exact hC.2.2.2.1]
  refine m_iast_n t G d_Lw_enact_36 rfl rfl ⟨ht, by first | decide | omega⟩ (fun σ3 e3 => ?_)
  refine x_aload0 G d_Lw_enact_37 ?_
  refine m_getr G d_Lw_enact_38 fl_Lw_23 rfl (by decide) rfl ?_
  refine x_iload1 G d_Lw_enact_41 ?_
  refine x_aload2 G d_Lw_enact_42 ?_
  refine m_geti G d_Lw_enact_43 fl_Lw_47 rfl (by decide) rfl ?_
  rw [show σ3 73 5 = nI s.ops by rw [e3, updS_nk (by decide), e2, updS_nk (by decide), G1 73 (by omega)]; exact hC.2.2.2.2.1]
  refine m_iast_n t G d_Lw_enact_46 rfl rfl ⟨ht, by first | decide | omega⟩ (fun σ4 e4 => ?_)
  exact m_vret E G d_Lw_enact_47 hx rfl ⟨rfl, (fun k x hx' => by rw [e4, updS_nk (by omega), e3, updS_nk (by omega), e2, updS_nk (by omega), ← e1, updR_at, pk_cpy_in (Nat.zero_le _) (by have := (List.getElem?_eq_some_iff.mp hx').1; omega), show 0 + (k - 0) = k by omega]; exact hC.2.2.2.2.2 k x hx'), by rw [e4, updS_nk (by decide), e3, updS_nk (by decide), e2, updS_row, G1 24 (by omega)], by rw [e4, updS_nk (by decide), e3, updS_row, e2, updS_nk (by decide), G1 25 (by omega)], by rw [e4, updS_row, e3, updS_nk (by decide), e2, updS_nk (by decide), G1 26 (by omega)], fun q a b c dd => by rw [e4, updS_nk dd, e3, updS_nk c, e2, updS_nk b, G1 q a]⟩
theorem p_N_text (g : CX) (d : Nat) (hd : 97 ≤ d) (σ : Sg) (S : Rw) (hO : CO S σ) (B : Nat → Nat) (n : Nat) (hn96 : n ≤ 96) (hB : ∀ i, i < n → B i < 256) (hby : ByC B n σ) : RunM g d N_text [.ref 0] σ (PR (fun v σ1 => v = txV S B n ∧ WRel 28 (txR S B n) σ1 ∧ LRel (txR S B n) σ1 ∧ σ1 73 2 = 0 ∧ OutX (tn (S 1)) σ σ1)) := by
  refine RunM.of 2 (by decide +kernel) rfl ?_
  intro κ hg hx hk0 G E
  subst hg
  have hk : 3 ≤ kn κ := Nat.le_of_eq hk0.symm
  show X κ NC 0 [some (.ref 0), none, none] [] (hv σ)
  obtain ⟨hR, hL, hI, hJ, h9⟩ := hO
  have h14b : tn (S 1) ≤ 14 := hI.2.1.2
  refine x_aload0 G d_N_text_0 ?_
  refine m_getr G d_N_text_1 fl_N_56 rfl (by decide) rfl ?_
  refine m_callV_pn (p_Ta_parse (kg κ) (d - 1) (by omega) σ B n hn96 hB hby) G d_N_text_4 lk_N_247 rfl ⟨by decide, rfl⟩ (by decide) (by omega) rfl (Nat.le_of_ble_eq_true rfl) hx (fun σ1 ⟨a1, a2, a3, a4⟩ => ?_)
  refine x_istore1 G d_N_text_7 rfl hk ?_
  refine x_aload0 G d_N_text_8 ?_
  refine m_getr G d_N_text_9 fl_N_56 rfl (by decide) rfl ?_
  refine x_iconst (v := nI 0) G d_N_text_12 rfl ?_
  refine m_puti_n G d_N_text_13 fl_N_240 rfl (by decide) rfl rfl rfl (fun σ2 e2 => ?_)
  refine x_iload1 G d_N_text_16 ?_
  refine x_if_ne G d_N_text_17 (fun c17 => ?_) (fun c17 => ?_)
  · have hok := bI_n0.mp c17
    refine x_aload0 G d_N_text_31 ?_
    refine m_getr G d_N_text_32 fl_N_43 rfl (by decide) rfl ?_
    refine m_geti G d_N_text_35 fl_N_253 rfl (by decide) rfl ?_
    rw [show σ2 28 13 = nI (tn (S 1)) by rw [e2, updS_nk (by decide), a3 28 (by decide) (by decide), hR.texts]; exact hI.2.1.1]
    refine x_bipush (v := nI 14) G d_N_text_38 rfl ?_
    refine x_icmp_lt G d_N_text_40 (fun c40 => ?_) (fun c40 => ?_)
    · have h14 : tn (S 1) < 14 := (nlt (by have := hI.2.1.2; omega) (by decide)).mp c40
      refine x_aload0 G d_N_text_46 ?_
      refine m_getr G d_N_text_47 fl_N_43 rfl (by decide) rfl ?_
      refine m_geti G d_N_text_50 fl_N_253 rfl (by decide) rfl ?_
      rw [show σ2 28 13 = nI (tn (S 1)) by rw [e2, updS_nk (by decide), a3 28 (by decide) (by decide), hR.texts]; exact hI.2.1.1]
      obtain ⟨q1, q2, q3, q4, q5, q6, q7⟩ := pr_facts hn96 hB
      have hok2 := hok
      unfold prOk at hok2
      simp only [Bool.and_eq_true, decide_eq_true_eq] at hok2
      have t1 := a2 hok
      have hq3 := q3.1
      have t2 : (fun σ2 : Sg => σ2 73 3 = nI (prR B n).2.out.length ∧ σ2 73 4 = nI (prK B n) ∧ σ2 73 5 = nI (prR B n).2.ops ∧ ∀ k x, (prR B n).2.out[k]? = some x → σ2 75 k = encO (prK B n) (nI x.1) (nI x.2)) σ2 := ⟨by rw [e2, updS_ne (by decide)]; exact t1.2.2.1, by rw [e2, updS_ne (by decide)]; exact t1.2.2.2.1, by rw [e2, updS_ne (by decide)]; exact t1.2.2.2.2.1, fun k x hx' => by rw [e2, updS_nk (by decide)]; exact t1.2.2.2.2.2 k x hx'⟩
      refine x_istore2 G d_N_text_53 rfl hk ?_
      refine x_aload0 G d_N_text_54 ?_
      refine m_getr G d_N_text_55 fl_N_34 rfl (by decide) rfl ?_
      refine x_iload2 G d_N_text_58 ?_
      refine x_aload0 G d_N_text_59 ?_
      refine m_getr G d_N_text_60 fl_N_56 rfl (by decide) rfl ?_
      refine m_callV_pv (p_Lw_enact (kg κ) (d - 1) (by omega) σ2 B 0 (prK B n) (prR B n).2 ⟨⟨by rw [e2, updS_at], fun i hi => absurd hi (Nat.not_lt_zero i)⟩, ⟨by rw [e2, updS_ne (by decide)]; exact t1.2.1.1, by rw [e2, updS_ne (by decide)]; exact t1.2.1.2.1, by rw [e2, updS_ne (by decide)]; exact t1.2.1.2.2.1, by rw [e2, updS_ne (by decide)]; exact t1.2.1.2.2.2⟩, t2⟩ (by omega) (tn (S 1)) h14) G d_N_text_63 lk_N_256 rfl ⟨by decide, rfl⟩ (by decide) (by omega) rfl (Nat.le_of_ble_eq_true rfl) hx (fun σ3 ⟨b1, b2, b3, b4, b5⟩ => ?_)
      refine x_aload0 G d_N_text_66 ?_
      refine m_getr G d_N_text_67 fl_N_43 rfl (by decide) rfl ?_
      refine m_getr G d_N_text_70 fl_N_233 rfl (by decide) rfl ?_
      refine x_aload0 G d_N_text_73 ?_
      refine m_getr G d_N_text_74 fl_N_56 rfl (by decide) rfl ?_
      refine m_geti G d_N_text_77 fl_N_260 rfl (by decide) rfl ?_
      rw [show σ3 73 4 = nI (prK B n) by rw [b5 73 (by omega) (by decide) (by decide) (by decide)]; exact t2.2.1]
      refine x_iload2 G d_N_text_80 ?_
      refine m_iast_n (prK B n) G d_N_text_81 rfl rfl ⟨hok2.1, by first | decide | omega⟩ (fun σ4 e4 => ?_)
      refine x_aload0 G d_N_text_82 ?_
      refine m_getr G d_N_text_83 fl_N_43 rfl (by decide) rfl ?_
      refine x_dup G d_N_text_86 rfl ?_
      refine m_geti G d_N_text_87 fl_N_253 rfl (by decide) rfl ?_
      rw [show σ4 28 13 = nI (tn (S 1)) by rw [e4, updS_nk (by decide), b5 28 (by omega) (by decide) (by decide) (by decide), e2, updS_nk (by decide), a3 28 (by decide) (by decide), hR.texts]; exact hI.2.1.1]
      refine x_iconst (v := nI 1) G d_N_text_90 rfl ?_
      refine x_iadd G d_N_text_91 ?_
      rw [show nI (tn (S 1)) + nI 1 = nI (tn (S 1) + 1) from nI_1 _]
      refine m_puti_n G d_N_text_92 fl_N_253 rfl (by decide) rfl rfl rfl (fun σ5 e5 => ?_)
      have eS : txR S B n = hdT (putT S (ixT (tn (S 1)) 4) (prR B n).2.out) (tn (S 1)) (prK B n) (prR B n).2.ops (prR B n).2.out.length := by
        unfold txR
        rw [if_pos ⟨hok, h14⟩]
        unfold prOut laT
        rw [if_pos hok2.1, if_pos h14]
      obtain ⟨g1, g2, g3, g4, g5, g6, g7⟩ := new_text (S := S) h14 hok2.1 (by omega) (q6 hok2.2.1) (by decide) (txR S B n) eS
      have G5 : ∀ q, q ≠ 28 → q ≠ 42 → q ≠ 73 → q ≠ 75 → q ≠ 10 + tn (S 1) → q ≠ 24 → q ≠ 25 → q ≠ 26 → σ5 q = σ q := fun q a b c dd a5 a6 a7 a8 => by rw [e5, updS_nk a, e4, updS_nk b, b5 q a5 a6 a7 a8, e2, updS_nk c, a3 q c dd]
      have f24 : σ5 24 = upd (σ 24) (tn (S 1)) (nI (prR B n).2.out.length) := by rw [e5, updS_nk (by decide), e4, updS_nk (by decide), b2, e2, updS_nk (by decide), a3 24 (by decide) (by decide)]
      have f25 : σ5 25 = upd (σ 25) (tn (S 1)) (nI (prK B n)) := by rw [e5, updS_nk (by decide), e4, updS_nk (by decide), b3, e2, updS_nk (by decide), a3 25 (by decide) (by decide)]
      have f26 : σ5 26 = upd (σ 26) (tn (S 1)) (nI (prR B n).2.ops) := by rw [e5, updS_nk (by decide), e4, updS_nk (by decide), b4, e2, updS_nk (by decide), a3 26 (by decide) (by decide)]
      have hW := tx_W (σ' := σ5) hR rfl h14 g6 g7 g2 hok2.1 (by rw [e5, updS_nk (by decide), e4, updS_row, b5 42 (by omega) (by decide) (by decide) (by decide), e2, updS_nk (by decide), a3 42 (by decide) (by decide)]) (by rw [e5, updS_at]) (fun j hj => by rw [e5, updS_ne (by omega), e4, updS_nk (by decide), b5 28 (by omega) (by decide) (by decide) (by decide), e2, updS_nk (by decide), a3 28 (by decide) (by decide)]) (fun q a b => G5 q (by omega) (by omega) (by omega) (by omega) (by omega) (by omega) (by omega) (by omega))
      have hLL := tx_L (σ' := σ5) hL (fun t' ht' => (hI.txt ht').1) rfl h14 g6 g7 g2 g3 g4 hok2.1 (by omega) g5 f24 f25 f26 (fun k x hx' => by rw [e5, updS_nk (by omega), e4, updS_nk (by omega)]; exact b1 k x hx') (fun t' ht' => G5 (10 + t') (by omega) (by omega) (by omega) (by omega) (by omega) (by omega) (by omega) (by omega))
      refine x_iload2 G d_N_text_95 ?_
      exact m_iret E G d_N_text_96 hx rfl rfl ⟨_, rfl, by unfold txV; rw [if_pos hok, if_pos h14]; exact hI.2.1.1.symm, hW, hLL, by rw [e5, updS_nk (by decide), e4, updS_nk (by decide), b5 73 (by omega) (by decide) (by decide) (by decide), e2, updS_at]; rfl, ⟨fun q a b c dd z => G5 q a b c dd (by omega) (by omega) (by omega) (by omega), fun q a b c => G5 q (by omega) (by omega) (by omega) (by omega) c (by omega) (by omega) (by omega), fun q j a b c => by rcases (show q = 24 ∨ q = 25 ∨ q = 26 by omega) with z | z | z <;> rw [z] <;> first | rw [f24, pk_un c] | rw [f25, pk_un c] | rw [f26, pk_un c]⟩⟩
    · have h14 : ¬ tn (S 1) < 14 := fun z => c40 ((nlt (by omega) (by decide)).mpr z)
      have hS' : txR S B n = putT S (laT S) (prOut B n) := by unfold txR; rw [if_neg (fun z => absurd z.2 h14)]
      obtain ⟨hA, h1'⟩ := agb_put (out := prOut B n) (laT_ge hI)
      rw [← hS'] at hA h1'
      refine x_ldc G d_N_text_43 kc_N_243 ?_
      exact m_iret E G d_N_text_45 hx rfl rfl ⟨_, rfl, by unfold txV; rw [if_pos hok, if_neg h14], agb_WRel hA h1' (hR.frame (fun k a b _ => by rw [e2, updS_nk (by omega), a3 k (by omega) (by omega)])) (Nat.le_refl _), agb_LRel hA h1' (fun t' ht' => by rw [e2, updS_nk (by decide), updS_nk (by decide), updS_nk (by decide), updS_nk (by omega), a3 24 (by decide) (by decide), a3 25 (by decide) (by decide), a3 26 (by decide) (by decide), a3 (10 + t') (by have := hI.2.1.2; omega) (by have := hI.2.1.2; omega)]; exact hL t' ht') (Nat.le_refl _) (fun t' ht' => (hI.txt ht').1), by rw [e2, updS_at]; rfl, ⟨fun q a b c dd _ => by rw [e2, updS_nk c, a3 q c dd], fun q a b _ => by rw [e2, updS_nk (by omega), a3 q (by omega) (by omega)], fun q j a b _ => by rw [e2, updS_nk (by omega), a3 q (by omega) (by omega)]⟩⟩
  · have hok := bI_0.mp c17
    have hS' : txR S B n = putT S (laT S) (prOut B n) := by unfold txR; rw [if_neg (fun z => absurd (z.1.symm.trans hok) (by decide))]
    obtain ⟨hA, h1'⟩ := agb_put (out := prOut B n) (laT_ge hI)
    rw [← hS'] at hA h1'
    refine x_bipush (v := (-100)) G d_N_text_20 rfl ?_
    refine x_aload0 G d_N_text_22 ?_
    refine m_getr G d_N_text_23 fl_N_56 rfl (by decide) rfl ?_
    refine m_geti G d_N_text_26 fl_N_250 rfl (by decide) rfl ?_
    rw [show σ2 73 6 = nI (prSt B n) by rw [e2, updS_ne (by decide)]; exact a1]
    refine x_isub G d_N_text_29 ?_
    exact m_iret E G d_N_text_30 hx rfl rfl ⟨_, rfl, by unfold txV; rw [if_neg (by rw [hok]; decide)], agb_WRel hA h1' (hR.frame (fun k a b _ => by rw [e2, updS_nk (by omega), a3 k (by omega) (by omega)])) (Nat.le_refl _), agb_LRel hA h1' (fun t' ht' => by rw [e2, updS_nk (by decide), updS_nk (by decide), updS_nk (by decide), updS_nk (by omega), a3 24 (by decide) (by decide), a3 25 (by decide) (by decide), a3 26 (by decide) (by decide), a3 (10 + t') (by have := hI.2.1.2; omega) (by have := hI.2.1.2; omega)]; exact hL t' ht') (Nat.le_refl _) (fun t' ht' => (hI.txt ht').1), by rw [e2, updS_at]; rfl, ⟨fun q a b c dd _ => by rw [e2, updS_nk c, a3 q c dd], fun q a b _ => by rw [e2, updS_nk (by omega), a3 q (by omega) (by omega)], fun q j a b _ => by rw [e2, updS_nk (by omega), a3 q (by omega) (by omega)]⟩⟩
