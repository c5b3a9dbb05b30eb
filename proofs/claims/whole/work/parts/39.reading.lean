/-! TEXTS: words and signs, and how a text is read (for both sides) -/
/-- the first place from p on, below n, where the test fails (n: nowhere) -/
def runM (t : Nat → Bool) (n : Nat) : Nat → Nat
  | 0 => n
  | m + 1 => if t (n - (m + 1)) then runM t n m else n - (m + 1)
def run (t : Nat → Bool) (n p : Nat) : Nat := runM t n (n - p)
theorem run_n {t : Nat → Bool} {n : Nat} : run t n n = n := by unfold run; rw [Nat.sub_self]; rfl
theorem run_yes {t : Nat → Bool} {n p : Nat} (h : p < n) (ht : t p = true) : run t n p = run t n (p + 1) := by
  unfold run
  obtain ⟨m, hm⟩ : ∃ m, n - p = m + 1 := ⟨n - p - 1, by omega⟩
  rw [hm, runM, show n - (m + 1) = p by omega, ht, if_pos rfl, show n - (p + 1) = m by omega]
theorem run_no {t : Nat → Bool} {n p : Nat} (h : p < n) (ht : t p = false) : run t n p = p := by
  unfold run
  obtain ⟨m, hm⟩ : ∃ m, n - p = m + 1 := ⟨n - p - 1, by omega⟩
  rw [hm, runM, show n - (m + 1) = p by omega, ht, if_neg (by decide)]
theorem run_fact {t : Nat → Bool} {n : Nat} : ∀ (m p : Nat), n - p = m → p ≤ n → p ≤ run t n p ∧ run t n p ≤ n ∧ (∀ i, p ≤ i → i < run t n p → t i = true) ∧ (run t n p < n → t (run t n p) = false)
  | 0, p, hm, hp => by
    have : p = n := by omega
    subst this
    rw [run_n]
    exact ⟨Nat.le_refl _, Nat.le_refl _, fun i h1 h2 => absurd h2 (by omega), fun h => absurd h (Nat.lt_irrefl _)⟩
  | m + 1, p, hm, hp => by
    by_cases ht : t p = true
    · rw [run_yes (by omega) ht]
      obtain ⟨a, b, c, d⟩ := run_fact (t := t) (n := n) m (p + 1) (by omega) (by omega)
      refine ⟨by omega, b, fun i h1 h2 => ?_, d⟩
      by_cases e : i = p
      · rw [e]; exact ht
      · exact c i (by omega) h2
    · have ht' : t p = false := Bool.eq_false_iff.mpr ht
      rw [run_no (by omega) ht']
      exact ⟨Nat.le_refl _, hp, fun i h1 h2 => absurd h2 (by omega), fun _ => ht'⟩
theorem run_le {t : Nat → Bool} {n p : Nat} (h : p ≤ n) : p ≤ run t n p ∧ run t n p ≤ n := ⟨(run_fact _ p rfl h).1, (run_fact _ p rfl h).2.1⟩
def sgN (b : Nat) : Nat := if 97 ≤ b ∧ b ≤ 122 then 256 else if 48 ≤ b ∧ b ≤ 57 then 257 else b
theorem sgN_cases (b : Nat) : (97 ≤ b ∧ b ≤ 122 ∧ sgN b = 256) ∨ (48 ≤ b ∧ b ≤ 57 ∧ sgN b = 257) ∨ (¬ (97 ≤ b ∧ b ≤ 122) ∧ ¬ (48 ≤ b ∧ b ≤ 57) ∧ sgN b = b) := by
  unfold sgN
  by_cases h : 97 ≤ b ∧ b ≤ 122
  · rw [if_pos h]; exact Or.inl ⟨h.1, h.2, rfl⟩
  · rw [if_neg h]
    by_cases g : 48 ≤ b ∧ b ≤ 57
    · rw [if_pos g]; exact Or.inr (Or.inl ⟨g.1, g.2, rfl⟩)
    · rw [if_neg g]; exact Or.inr (Or.inr ⟨h, g, rfl⟩)
/-- a word or sign: which (256 letters, 257 digits, 258 the end), from where to where, whether it is glued to a word ahead -/
abbrev Tk : Type := Nat × Nat × Nat × Bool
abbrev Tk.sg (k : Tk) : Nat := k.1
abbrev Tk.st (k : Tk) : Nat := k.2.1
abbrev Tk.en (k : Tk) : Nat := k.2.2.1
abbrev Tk.gl (k : Tk) : Bool := k.2.2.2
def isWd (sg : Nat) : Bool := decide (sg = 256) || decide (sg = 257)
def lexT (B : Nat → Nat) (n p : Nat) (was : Bool) : Tk :=
  if run (fun i => decide (B i = 32)) n p = n then (258, n, n, false)
  else if isWd (sgN (B (run (fun i => decide (B i = 32)) n p))) then (sgN (B (run (fun i => decide (B i = 32)) n p)), run (fun i => decide (B i = 32)) n p, run (fun i => decide (sgN (B i) = sgN (B (run (fun i => decide (B i = 32)) n p)))) n (run (fun i => decide (B i = 32)) n p + 1), was && decide (run (fun i => decide (B i = 32)) n p = p))
  else (sgN (B (run (fun i => decide (B i = 32)) n p)), run (fun i => decide (B i = 32)) n p, run (fun i => decide (B i = 32)) n p + 1, false)
def adv (B : Nat → Nat) (n : Nat) (k : Tk) : Tk := lexT B n k.en (isWd k.sg)
def TkOk (B : Nat → Nat) (n : Nat) (k : Tk) : Prop := k.st ≤ n ∧ k.en ≤ n ∧ ((k.sg = 258 ∧ k.st = n ∧ k.en = n) ∨ (k.sg < 256 ∧ k.st < n ∧ k.en = k.st + 1 ∧ B k.st = k.sg) ∨ ((k.sg = 256 ∨ k.sg = 257) ∧ k.st < k.en ∧ ∀ i, k.st ≤ i → i < k.en → sgN (B i) = k.sg))
theorem lexT_ok {B : Nat → Nat} {n p : Nat} (hB : ∀ i, i < n → B i < 256) (hp : p ≤ n) (was : Bool) : TkOk B n (lexT B n p was) ∧ p ≤ (lexT B n p was).st := by
  obtain ⟨a, b, c, d⟩ := run_fact (t := fun i => decide (B i = 32)) _ p rfl hp
  unfold lexT
  generalize run (fun i => decide (B i = 32)) n p = s at a b c d ⊢
  by_cases h : s = n
  · rw [if_pos h]
    exact ⟨⟨Nat.le_refl _, Nat.le_refl _, Or.inl ⟨rfl, rfl, rfl⟩⟩, hp⟩
  · rw [if_neg h]
    have hs : s < n := by omega
    by_cases w : isWd (sgN (B s)) = true
    · rw [if_pos w]
      obtain ⟨a2, b2, c2, d2⟩ := run_fact (t := fun i => decide (sgN (B i) = sgN (B s))) (n := n) _ (s + 1) rfl (by omega)
      refine ⟨⟨b, b2, Or.inr (Or.inr ⟨?_, by show s < run (fun i => decide (sgN (B i) = sgN (B s))) n (s + 1); omega, fun i h1 h2 => ?_⟩)⟩, a⟩
      · show sgN (B s) = 256 ∨ sgN (B s) = 257
        unfold isWd at w
        simpa using w
      · show sgN (B i) = sgN (B s)
        by_cases e : i = s
        · rw [e]
        · exact of_decide_eq_true (c2 i (by have : s ≤ i := h1; omega) h2)
    · rw [if_neg w]
      refine ⟨⟨b, by show s + 1 ≤ n; omega, Or.inr (Or.inl ?_)⟩, a⟩
      have hb := hB s hs
      rcases sgN_cases (B s) with ⟨_, _, e⟩ | ⟨_, _, e⟩ | ⟨_, _, e⟩
      · rw [e] at w; exact absurd rfl w
      · rw [e] at w; exact absurd rfl w
      · exact ⟨by show sgN (B s) < 256; rw [e]; exact hb, hs, rfl, e.symm⟩
theorem adv_ok {B : Nat → Nat} {n : Nat} (hB : ∀ i, i < n → B i < 256) {k : Tk} (h : TkOk B n k) : TkOk B n (adv B n k) ∧ k.en ≤ (adv B n k).st := lexT_ok hB h.2.1 _
/-- where the reading is: the word or sign ahead, the steps so far (0 a number, 1 a name, 2 a sign), how many numbers and names -/
abbrev PS : Type := Tk × List (Nat × Nat) × Nat
abbrev PS.tk (s : PS) : Tk := s.1
abbrev PS.out (s : PS) : List (Nat × Nat) := s.2.1
abbrev PS.ops (s : PS) : Nat := s.2.2
def lvN (c : Nat) : Nat := if c = 124 then 0 else if c = 38 then 1 else if c = 60 ∨ c = 61 ∨ c = 62 then 2 else if c = 43 ∨ c = 45 then 3 else if c = 42 ∨ c = 47 then 4 else 9
def numN (B : Nat → Nat) (st : Nat) : Nat → Nat
  | 0 => 0
  | k + 1 => 10 * numN B st k + (B (st + k) - 48)
def leB (key c : Nat) : Bool := (decide (key = 0) && (decide (c = 100) || decide (c = 99) || decide (c = 104))) || (decide (key = 1) && (decide (c = 115) || decide (c = 108))) || (decide (key = 2) && (decide (c = 104) || decide (c = 99)))
theorem leB_iff {key c : Nat} : leB key c = true ↔ isLe key c := by
  unfold leB isLe
  simp [or_assoc]
def emP (s : PS) (a v : Nat) : PS := (s.tk, s.out ++ [(a, v)], s.ops)
def adP (B : Nat → Nat) (n : Nat) (s : PS) : PS := (adv B n s.tk, s.out, s.ops)
def opP (B : Nat → Nat) (n : Nat) (s : PS) (a v : Nat) : PS := (adv B n s.tk, s.out ++ [(a, v)], s.ops + 1)
theorem emP_len {s : PS} {a v : Nat} : (emP s a v).out.length = s.out.length + 1 := by
  show (s.out ++ [(a, v)]).length = _
  rw [List.length_append]
  rfl
theorem opP_len {B : Nat → Nat} {n : Nat} {s : PS} {a v : Nat} : (opP B n s a v).out.length = s.out.length + 1 := by
  show (s.out ++ [(a, v)]).length = _
  rw [List.length_append]
  rfl
/-- the reading of a text -/
def pP (B : Nat → Nat) (n key : Nat) : Nat → Nat → Nat → Nat → Nat → PS → Bool × PS
  | 0, _, _, _, _, s => (false, s)
  | f + 1, 0, lv, par, nots, s =>
    if 5 ≤ lv then pP B n key f 2 0 par nots s
    else if (pP B n key f 0 (lv + 1) par nots s).1 then pP B n key f 1 lv par nots (pP B n key f 0 (lv + 1) par nots s).2 else pP B n key f 0 (lv + 1) par nots s
  | f + 1, 1, lv, par, nots, s =>
    if lvN s.tk.sg = lv ∧ lv < 5 then
      if (pP B n key f 0 (lv + 1) par nots (adP B n s)).1 then
        if lv = 2 then (true, emP (pP B n key f 0 (lv + 1) par nots (adP B n s)).2 2 s.tk.sg) else pP B n key f 1 lv par nots (emP (pP B n key f 0 (lv + 1) par nots (adP B n s)).2 2 s.tk.sg)
      else pP B n key f 0 (lv + 1) par nots (adP B n s)
    else (true, s)
  | f + 1, _ + 2, _, par, nots, s =>
    if s.tk.sg = 257 then if s.tk.gl = false ∧ s.tk.en - s.tk.st ≤ 4 then (true, opP B n s 0 (numN B s.tk.st (s.tk.en - s.tk.st))) else (false, s)
    else if s.tk.sg = 256 then if s.tk.gl = false ∧ s.tk.en - s.tk.st = 1 ∧ leB key (B s.tk.st) = true then (true, opP B n s 1 (B s.tk.st)) else (false, s)
    else if s.tk.sg = 33 then if nots < 8 then if (pP B n key f 2 0 par (nots + 1) (adP B n s)).1 then (true, emP (pP B n key f 2 0 par (nots + 1) (adP B n s)).2 2 33) else pP B n key f 2 0 par (nots + 1) (adP B n s) else (false, s)
    else if s.tk.sg = 40 then if par < 8 then if (pP B n key f 0 0 (par + 1) nots (adP B n s)).1 then if (pP B n key f 0 0 (par + 1) nots (adP B n s)).2.tk.sg = 41 then (true, adP B n (pP B n key f 0 0 (par + 1) nots (adP B n s)).2) else (false, (pP B n key f 0 0 (par + 1) nots (adP B n s)).2) else pP B n key f 0 0 (par + 1) nots (adP B n s) else (false, s)
    else (false, s)
/-- how far the reading may nest -/
def need (n mo lv : Nat) (s : PS) : Nat := if mo = 0 then 24 * (n - s.tk.st) + 2 * (6 - lv) + 4 else if mo = 1 then 24 * (n - s.tk.st) + 22 else 24 * (n - s.tk.st) + 3
/-- what the reading keeps -/
def Fair (B : Nat → Nat) (n : Nat) (mo : Nat) (s : PS) (r : Bool × PS) : Prop := TkOk B n r.2.tk ∧ s.tk.st ≤ r.2.tk.st ∧ s.out.length ≤ r.2.out.length ∧ r.2.out.length + s.tk.st ≤ s.out.length + r.2.tk.st ∧ r.2.ops + s.tk.st ≤ s.ops + r.2.tk.st ∧ (r.1 = true → mo ≠ 1 → s.tk.st < r.2.tk.st)
theorem lvN_op {c : Nat} (h : lvN c < 9) : c = 124 ∨ c = 38 ∨ c = 60 ∨ c = 61 ∨ c = 62 ∨ c = 43 ∨ c = 45 ∨ c = 42 ∨ c = 47 := by
  unfold lvN at h
  repeat' split at h
  all_goals omega
theorem TkOk.sgn {B : Nat → Nat} {n : Nat} {k : Tk} (h : TkOk B n k) (hs : k.sg < 256) : k.st < n ∧ k.en = k.st + 1 ∧ B k.st = k.sg := by
  rcases h.2.2 with q | q | q
  · omega
  · exact q.2
  · omega
theorem TkOk.wrd {B : Nat → Nat} {n : Nat} {k : Tk} (h : TkOk B n k) (hs : k.sg = 256 ∨ k.sg = 257) : k.st < k.en ∧ k.en ≤ n ∧ ∀ i, k.st ≤ i → i < k.en → sgN (B i) = k.sg := by
  rcases h.2.2 with q | q | q
  · omega
  · omega
  · exact ⟨q.2.1, h.2.1, q.2.2⟩
theorem adv_lt {B : Nat → Nat} {n : Nat} (hB : ∀ i, i < n → B i < 256) {k : Tk} (h : TkOk B n k) (hs : k.sg ≠ 258) : k.st < (adv B n k).st := by
  have := (adv_ok hB h).2
  rcases h.2.2 with q | q | q
  · exact absurd q.1 hs
  · omega
  · omega
theorem Fair.rfl' {B : Nat → Nat} {n mo : Nat} {s : PS} {b : Bool} (h : TkOk B n s.tk) (hb : b = true → mo = 1) : Fair B n mo s (b, s) :=
  ⟨h, Nat.le_refl _, Nat.le_refl _, Nat.le_refl _, Nat.le_refl _, fun h1 h2 => absurd (hb h1) h2⟩
section PPE
variable {B : Nat → Nat} {n key f lv par nots : Nat} {s : PS}
theorem pP_0 {mo : Nat} : pP B n key 0 mo lv par nots s = (false, s) := by
  cases mo with
  | zero => rfl
  | succ m => cases m <;> rfl
theorem pP_ex : pP B n key (f + 1) 0 lv par nots s = if 5 ≤ lv then pP B n key f 2 0 par nots s else if (pP B n key f 0 (lv + 1) par nots s).1 then pP B n key f 1 lv par nots (pP B n key f 0 (lv + 1) par nots s).2 else pP B n key f 0 (lv + 1) par nots s := rfl
theorem pP_lo : pP B n key (f + 1) 1 lv par nots s = if lvN s.tk.sg = lv ∧ lv < 5 then
      if (pP B n key f 0 (lv + 1) par nots (adP B n s)).1 then
        if lv = 2 then (true, emP (pP B n key f 0 (lv + 1) par nots (adP B n s)).2 2 s.tk.sg) else pP B n key f 1 lv par nots (emP (pP B n key f 0 (lv + 1) par nots (adP B n s)).2 2 s.tk.sg)
      else pP B n key f 0 (lv + 1) par nots (adP B n s)
    else (true, s) := rfl
theorem pP_pc : pP B n key (f + 1) 2 lv par nots s =
    if s.tk.sg = 257 then if s.tk.gl = false ∧ s.tk.en - s.tk.st ≤ 4 then (true, opP B n s 0 (numN B s.tk.st (s.tk.en - s.tk.st))) else (false, s)
    else if s.tk.sg = 256 then if s.tk.gl = false ∧ s.tk.en - s.tk.st = 1 ∧ leB key (B s.tk.st) = true then (true, opP B n s 1 (B s.tk.st)) else (false, s)
    else if s.tk.sg = 33 then if nots < 8 then if (pP B n key f 2 0 par (nots + 1) (adP B n s)).1 then (true, emP (pP B n key f 2 0 par (nots + 1) (adP B n s)).2 2 33) else pP B n key f 2 0 par (nots + 1) (adP B n s) else (false, s)
    else if s.tk.sg = 40 then if par < 8 then if (pP B n key f 0 0 (par + 1) nots (adP B n s)).1 then if (pP B n key f 0 0 (par + 1) nots (adP B n s)).2.tk.sg = 41 then (true, adP B n (pP B n key f 0 0 (par + 1) nots (adP B n s)).2) else (false, (pP B n key f 0 0 (par + 1) nots (adP B n s)).2) else pP B n key f 0 0 (par + 1) nots (adP B n s) else (false, s)
    else (false, s) := rfl
end PPE
theorem pP_fair {B : Nat → Nat} {n : Nat} (hB : ∀ i, i < n → B i < 256) (key : Nat) : ∀ (f mo : Nat), mo < 3 → ∀ (lv par nots : Nat) (s : PS), TkOk B n s.tk → Fair B n mo s (pP B n key f mo lv par nots s)
  | 0, mo, _, lv, par, nots, s, h => by
    refine Fair.rfl' h (fun z => absurd z (by decide))
  | f + 1, 0, _, lv, par, nots, s, h => by
    rw [pP_ex]
    split
    · obtain ⟨a, b, c, d, e, g⟩ := pP_fair hB key f 2 (by decide) 0 par nots s h
      exact ⟨a, b, c, d, e, fun x _ => g x (by decide)⟩
    · have i1 := pP_fair hB key f 0 (by decide) (lv + 1) par nots s h
      generalize pP B n key f 0 (lv + 1) par nots s = r at i1 ⊢
      obtain ⟨a, b, c, d, e, g⟩ := i1
      split
      · rename_i hr
        obtain ⟨a2, b2, c2, d2, e2, g2⟩ := pP_fair hB key f 1 (by decide) lv par nots r.2 a
        have := g hr (by decide)
        exact ⟨a2, by omega, by omega, by omega, by omega, fun _ _ => by omega⟩
      · exact ⟨a, b, c, d, e, fun x _ => g x (by decide)⟩
  | f + 1, 1, _, lv, par, nots, s, h => by
    rw [pP_lo]
    split
    · rename_i hl
      have hop9 : lvN s.tk.sg < 9 := by omega
      have hsg : s.tk.sg < 256 := by rcases lvN_op hop9 with q | q | q | q | q | q | q | q | q <;> omega
      have ht : TkOk B n (adP B n s).tk := (adv_ok hB h).1
      have hge : s.tk.st < (adP B n s).tk.st := adv_lt hB h (by omega)
      have i1 := pP_fair hB key f 0 (by decide) (lv + 1) par nots (adP B n s) ht
      generalize pP B n key f 0 (lv + 1) par nots (adP B n s) = r at i1 ⊢
      obtain ⟨a, b, c, d, e, g⟩ := i1
      have hol : (adP B n s).out.length = s.out.length := rfl
      have hop : (adP B n s).ops = s.ops := rfl
      split
      · rename_i hr
        have gg := g hr (by decide)
        have h1 : (emP r.2 2 s.tk.sg).out.length = r.2.out.length + 1 := emP_len
        have h2 : (emP r.2 2 s.tk.sg).tk = r.2.tk := rfl
        have h3 : (emP r.2 2 s.tk.sg).ops = r.2.ops := rfl
        split
        · exact ⟨a, by show s.tk.st ≤ r.2.tk.st; omega, by show _ ≤ (emP r.2 2 s.tk.sg).out.length; omega, by show (emP r.2 2 s.tk.sg).out.length + _ ≤ _ + r.2.tk.st; omega, by show r.2.ops + _ ≤ _ + r.2.tk.st; omega, fun _ x => absurd rfl x⟩
        · obtain ⟨a2, b2, c2, d2, e2, g2⟩ := pP_fair hB key f 1 (by decide) lv par nots (emP r.2 2 s.tk.sg) a
          rw [h2] at b2 d2 e2; rw [h1] at c2 d2; rw [h3] at e2
          exact ⟨a2, by omega, by omega, by omega, by omega, fun _ x => absurd rfl x⟩
      · exact ⟨a, by omega, by omega, by omega, by omega, fun _ x => absurd rfl x⟩
    · exact Fair.rfl' h (fun _ => rfl)
  | f + 1, 2, _, lv, par, nots, s, h => by
    have ht : TkOk B n (adP B n s).tk := (adv_ok hB h).1
    have hno : ∀ b, b = false → Fair B n 2 s (b, s) := fun b hb => Fair.rfl' h (fun z => by rw [hb] at z; exact absurd z (by decide))
    have hol : (adP B n s).out.length = s.out.length := rfl
    have hop : (adP B n s).ops = s.ops := rfl
    rw [pP_pc]
    split
    · rename_i hs
      have hlt := adv_lt hB h (by omega)
      split
      · exact ⟨ht, by show s.tk.st ≤ (adv B n s.tk).st; omega, by rw [opP_len]; omega, by rw [opP_len]; show _ ≤ _ + (adv B n s.tk).st; omega, by show s.ops + 1 + _ ≤ _ + (adv B n s.tk).st; omega, fun _ _ => hlt⟩
      · exact hno _ rfl
    · split
      · rename_i hs
        have hlt := adv_lt hB h (by omega)
        split
        · exact ⟨ht, by show s.tk.st ≤ (adv B n s.tk).st; omega, by rw [opP_len]; omega, by rw [opP_len]; show _ ≤ _ + (adv B n s.tk).st; omega, by show s.ops + 1 + _ ≤ _ + (adv B n s.tk).st; omega, fun _ _ => hlt⟩
        · exact hno _ rfl
      · split
        · rename_i hs
          have hlt : s.tk.st < (adP B n s).tk.st := adv_lt hB h (by omega)
          split
          · have i1 := pP_fair hB key f 2 (by decide) 0 par (nots + 1) (adP B n s) ht
            generalize pP B n key f 2 0 par (nots + 1) (adP B n s) = r at i1 ⊢
            obtain ⟨a, b, c, d, e, g⟩ := i1
            split
            · have h1 : (emP r.2 2 33).out.length = r.2.out.length + 1 := emP_len
              exact ⟨a, by show s.tk.st ≤ r.2.tk.st; omega, by show _ ≤ (emP r.2 2 33).out.length; omega, by show (emP r.2 2 33).out.length + _ ≤ _ + r.2.tk.st; omega, by show r.2.ops + _ ≤ _ + r.2.tk.st; omega, fun _ _ => by show s.tk.st < r.2.tk.st; omega⟩
            · exact ⟨a, by omega, by omega, by omega, by omega, fun _ _ => by omega⟩
          · exact hno _ rfl
        · split
          · rename_i hs
            have hlt : s.tk.st < (adP B n s).tk.st := adv_lt hB h (by omega)
            split
            · have i1 := pP_fair hB key f 0 (by decide) 0 (par + 1) nots (adP B n s) ht
              generalize pP B n key f 0 0 (par + 1) nots (adP B n s) = r at i1 ⊢
              obtain ⟨a, b, c, d, e, g⟩ := i1
              split
              · split
                · have h2 := (adv_ok hB a).1
                  have h3 : r.2.tk.st < (adv B n r.2.tk).st := adv_lt hB a (by omega)
                  exact ⟨h2, by show s.tk.st ≤ (adv B n r.2.tk).st; omega, by show _ ≤ r.2.out.length; omega, by show r.2.out.length + _ ≤ _ + (adv B n r.2.tk).st; omega, by show r.2.ops + _ ≤ _ + (adv B n r.2.tk).st; omega, fun _ _ => by show s.tk.st < (adv B n r.2.tk).st; omega⟩
                · exact ⟨a, by show s.tk.st ≤ r.2.tk.st; omega, by show _ ≤ r.2.out.length; omega, by show r.2.out.length + _ ≤ _ + r.2.tk.st; omega, by show r.2.ops + _ ≤ _ + r.2.tk.st; omega, fun z _ => absurd z Bool.false_ne_true⟩
              · exact ⟨a, by omega, by omega, by omega, by omega, fun _ _ => by omega⟩
            · exact hno _ rfl
          · exact hno _ rfl
/-! the steps as a reckoning: how many values lie on the pile -/
def stp (key d : Nat) (x : Nat × Nat) : Option Nat := if x.1 = 0 then (if x.2 ≤ 9999 then some (d + 1) else none) else if x.1 = 1 then (if leB key x.2 = true then some (d + 1) else none) else if x.1 = 2 then (if x.2 = 33 then (if 1 ≤ d then some d else none) else if lvN x.2 < 9 ∧ 2 ≤ d then some (d - 1) else none) else none
def goL (key : Nat) (l : List (Nat × Nat)) : Option Nat := l.foldl (fun o x => o.bind fun d => stp key d x) (some 0)
theorem goL_snoc {key : Nat} {l : List (Nat × Nat)} {x : Nat × Nat} : goL key (l ++ [x]) = (goL key l).bind fun d => stp key d x := by simp [goL, List.foldl_append]
theorem numN_le {B : Nat → Nat} {st : Nat} : ∀ k, (∀ i, i < k → B (st + i) ≤ 57) → numN B st k + 1 ≤ 10 ^ k
  | 0, _ => by show 0 + 1 ≤ 1; omega
  | k + 1, h => by
    have i1 := numN_le (B := B) (st := st) k (fun i hi => h i (by omega))
    have h1 := h k (by omega)
    show 10 * numN B st k + (B (st + k) - 48) + 1 ≤ 10 ^ (k + 1)
    rw [Nat.pow_succ]
    omega
theorem digit_of {b : Nat} (h : sgN b = 257) (hb : b < 256) : 48 ≤ b ∧ b ≤ 57 := by
  rcases sgN_cases b with q | q | q <;> omega
theorem letter_of {b : Nat} (h : sgN b = 256) (hb : b < 256) : 97 ≤ b ∧ b ≤ 122 := by
  rcases sgN_cases b with q | q | q <;> omega
theorem num_small {B : Nat → Nat} {n : Nat} (hB : ∀ i, i < n → B i < 256) {k : Tk} (h : TkOk B n k) (hs : k.sg = 257) (hl : k.en - k.st ≤ 4) : numN B k.st (k.en - k.st) ≤ 9999 := by
  obtain ⟨a, b, c⟩ := h.wrd (Or.inr hs)
  have := numN_le (B := B) (st := k.st) (k.en - k.st) (fun i hi => (digit_of ((c (k.st + i) (by omega) (by omega)).trans hs) (hB _ (by omega))).2)
  have h2 : 10 ^ (k.en - k.st) ≤ 10 ^ 4 := Nat.pow_le_pow_right (by decide) hl
  have h3 : (10 : Nat) ^ 4 = 10000 := by decide
  omega
theorem pP_go {B : Nat → Nat} {n : Nat} (hB : ∀ i, i < n → B i < 256) (key : Nat) : ∀ (f mo : Nat), mo < 3 → ∀ (lv par nots : Nat) (s : PS) (d : Nat), TkOk B n s.tk → goL key s.out = some d → (mo = 1 → 1 ≤ d) → (pP B n key f mo lv par nots s).1 = true → goL key (pP B n key f mo lv par nots s).2.out = some (if mo = 1 then d else d + 1)
  | 0, mo, _, lv, par, nots, s, d, h, hg, h1, hr => absurd (by rw [pP_0] at hr; exact hr) Bool.false_ne_true
  | f + 1, 0, _, lv, par, nots, s, d, h, hg, h1, hr => by
    rw [pP_ex] at hr ⊢
    split at hr
    · rename_i c
      rw [if_pos c]
      exact pP_go hB key f 2 (by decide) 0 par nots s d h hg (fun z => absurd z (by decide)) hr
    · rename_i c
      rw [if_neg c]
      have hF := (pP_fair hB key f 0 (by decide) (lv + 1) par nots s h).1
      have i1 := pP_go hB key f 0 (by decide) (lv + 1) par nots s d h hg (fun z => absurd z (by decide))
      generalize pP B n key f 0 (lv + 1) par nots s = r at i1 hF hr ⊢
      split at hr
      · rename_i hr1
        rw [if_pos hr1]
        have i2 := i1 hr1
        rw [if_neg (by decide)] at i2 ⊢
        have i3 := pP_go hB key f 1 (by decide) lv par nots r.2 (d + 1) hF i2 (fun _ => by omega) hr
        rw [if_pos rfl] at i3
        exact i3
      · rename_i hr1
        exact absurd hr hr1
  | f + 1, 1, _, lv, par, nots, s, d, h, hg, h1, hr => by
    rw [pP_lo] at hr ⊢
    split at hr
    · rename_i c
      rw [if_pos c]
      have ht : TkOk B n (adP B n s).tk := (adv_ok hB h).1
      have hF := (pP_fair hB key f 0 (by decide) (lv + 1) par nots (adP B n s) ht).1
      have i1 := pP_go hB key f 0 (by decide) (lv + 1) par nots (adP B n s) d ht hg (fun z => absurd z (by decide))
      generalize pP B n key f 0 (lv + 1) par nots (adP B n s) = r at i1 hF hr ⊢
      split at hr
      · rename_i hr1
        rw [if_pos hr1]
        have i2 := i1 hr1
        rw [if_neg (by decide)] at i2
        have h33 : s.tk.sg ≠ 33 := by
          intro e
          have := c.1
          rw [e] at this
          have q : lvN 33 = 9 := by decide
          omega
        have i4 : goL key (emP r.2 2 s.tk.sg).out = some d := by
          show goL key (r.2.out ++ [(2, s.tk.sg)]) = _
          rw [goL_snoc, i2]
          show stp key (d + 1) (2, s.tk.sg) = _
          have d1 := h1 rfl
          unfold stp
          rw [if_neg (show ¬ (2 : Nat) = 0 by decide), if_neg (show ¬ (2 : Nat) = 1 by decide), if_pos rfl, if_neg h33, if_pos ⟨by show lvN s.tk.sg < 9; omega, by omega⟩]
          rfl
        split at hr
        · rename_i c2
          rw [if_pos c2]
          show goL key (emP r.2 2 s.tk.sg).out = _
          rw [i4, if_pos rfl]
        · rename_i c2
          rw [if_neg c2]
          exact pP_go hB key f 1 (by decide) lv par nots (emP r.2 2 s.tk.sg) d hF i4 h1 hr
      · rename_i hr1
        exact absurd hr hr1
    · rename_i c
      rw [if_neg c]
      show goL key s.out = _
      rw [hg, if_pos rfl]
  | f + 1, 2, _, lv, par, nots, s, d, h, hg, h1, hr => by
    have ht : TkOk B n (adP B n s).tk := (adv_ok hB h).1
    rw [if_neg (by decide)]
    rw [pP_pc] at hr ⊢
    split at hr
    · rename_i c
      rw [if_pos c]
      split at hr
      · rename_i c2
        rw [if_pos c2]
        show goL key (s.out ++ [(0, numN B s.tk.st (s.tk.en - s.tk.st))]) = _
        rw [goL_snoc, hg]
        show stp key d (0, _) = _
        unfold stp
        rw [if_pos rfl, if_pos (num_small hB h c c2.2)]
      · exact absurd hr Bool.false_ne_true
    · rename_i c
      rw [if_neg c]
      split at hr
      · rename_i c2
        rw [if_pos c2]
        split at hr
        · rename_i c3
          rw [if_pos c3]
          show goL key (s.out ++ [(1, B s.tk.st)]) = _
          rw [goL_snoc, hg]
          show stp key d (1, _) = _
          unfold stp
          rw [if_neg (show ¬ (1 : Nat) = 0 by decide), if_pos rfl, if_pos c3.2.2]
        · exact absurd hr Bool.false_ne_true
      · rename_i c2
        rw [if_neg c2]
        split at hr
        · rename_i c3
          rw [if_pos c3]
          split at hr
          · rename_i c4
            rw [if_pos c4]
            have i1 := pP_go hB key f 2 (by decide) 0 par (nots + 1) (adP B n s) d ht hg (fun z => absurd z (by decide))
            generalize pP B n key f 2 0 par (nots + 1) (adP B n s) = r at i1 hr ⊢
            split at hr
            · rename_i hr1
              rw [if_pos hr1]
              have i2 := i1 hr1
              rw [if_neg (by decide)] at i2
              show goL key (r.2.out ++ [(2, 33)]) = _
              rw [goL_snoc, i2]
              show stp key (d + 1) (2, 33) = _
              unfold stp
              rw [if_neg (show ¬ (2 : Nat) = 0 by decide), if_neg (show ¬ (2 : Nat) = 1 by decide), if_pos rfl, if_pos rfl, if_pos (by omega)]
            · rename_i hr1
              exact absurd hr hr1
          · exact absurd hr Bool.false_ne_true
        · rename_i c3
          rw [if_neg c3]
          split at hr
          · rename_i c4
            rw [if_pos c4]
            split at hr
            · rename_i c5
              rw [if_pos c5]
              have i1 := pP_go hB key f 0 (by decide) 0 (par + 1) nots (adP B n s) d ht hg (fun z => absurd z (by decide))
              generalize pP B n key f 0 0 (par + 1) nots (adP B n s) = r at i1 hr ⊢
              split at hr
              · rename_i hr1
                rw [if_pos hr1]
                have i2 := i1 hr1
                rw [if_neg (by decide)] at i2
                split at hr
                · rename_i c6
                  rw [if_pos c6]
                  exact i2
                · exact absurd hr Bool.false_ne_true
              · rename_i hr1
                exact absurd hr hr1
            · exact absurd hr Bool.false_ne_true
          · exact absurd hr Bool.false_ne_true
/-- the steps in a row of the model's make a text -/
theorem lvN_sg {c : Nat} (h : lvN c < 9) : isSg c := by
  rcases lvN_op h with q | q | q | q | q | q | q | q | q <;> (subst q; unfold isSg; simp)
theorem leB_lt {key c : Nat} (h : leB key c = true) : c < 128 := by
  rcases leB_iff.mp h with ⟨_, q⟩ | ⟨_, q⟩ | ⟨_, q⟩ <;> omega
theorem stp_ok {S : Rw} {t k key d d1 : Nat} {x : Nat × Nat} (hk : tn (S (ixT t 0)) = key) (hw : wT S t k = nI x.1) (hv : vT S t k = nI x.2) (hd : dN S t k = d) (h : stp key d x = some d1) : dN S t (k + 1) = d1 ∧ okS S t k := by
  obtain ⟨a, v⟩ := x
  unfold stp at h
  split at h
  · rename_i c
    have c0 : a = 0 := c
    subst c0
    split at h
    · rename_i c2
      cases h
      exact ⟨by rw [(ev_num (nm := fun _ => 0) hw hv).1, hd], Or.inl ⟨v, hw, hv, c2⟩⟩
    · cases h
  · split at h
    · rename_i c
      have c0 : a = 1 := c
      subst c0
      split at h
      · rename_i c2
        cases h
        exact ⟨by rw [(ev_nam (nm := fun _ => 0) hw hv (leB_lt c2)).1, hd], Or.inr (Or.inl ⟨v, hw, hv, by rw [hk]; exact leB_iff.mp c2⟩)⟩
      · cases h
    · split at h
      · rename_i c
        have c0 : a = 2 := c
        subst c0
        split at h
        · rename_i c2
          have c3 : v = 33 := c2
          subst c3
          split at h
          · cases h
            exact ⟨by rw [(ev_not (nm := fun _ => 0) hw hv).1, hd], Or.inr (Or.inr (Or.inl ⟨hw, hv, by omega⟩))⟩
          · cases h
        · split at h
          · rename_i c3
            cases h
            exact ⟨by rw [(ev_sgn (nm := fun _ => 0) hw hv (lvN_sg c3.1)).1, hd], Or.inr (Or.inr (Or.inr ⟨v, hw, hv, lvN_sg c3.1, by omega⟩))⟩
          · cases h
      · cases h
theorem go_ok {S : Rw} {t key : Nat} (hk : tn (S (ixT t 0)) = key) : ∀ (m : Nat) (l : List (Nat × Nat)), l.length = m → (∀ k x, l[k]? = some x → wT S t k = nI x.1 ∧ vT S t k = nI x.2) → ∀ d, goL key l = some d → dN S t m = d ∧ ∀ k, k < m → okS S t k
  | 0, l, hl, hx, d, hg => by
    have : l = [] := List.length_eq_zero_iff.mp hl
    subst this
    cases hg
    exact ⟨rfl, fun k hk => absurd hk (Nat.not_lt_zero k)⟩
  | m + 1, l, hl, hx, d, hg => by
    rcases List.eq_nil_or_concat l with e | ⟨l', x, e⟩
    · rw [e] at hl; cases hl
    · rw [List.concat_eq_append] at e
      subst e
      have hl' : l'.length = m := by simpa using hl
      rw [goL_snoc] at hg
      cases hg' : goL key l' with
      | none => rw [hg'] at hg; cases hg
      | some d0 =>
        rw [hg'] at hg
        have hlast : (l' ++ [x])[m]? = some x := by rw [← hl']; simp
        obtain ⟨i1, i2⟩ := go_ok hk m l' hl' (fun k y hy => hx k y (by
          have hlt := (List.getElem?_eq_some_iff.mp hy).1
          rw [List.getElem?_append_left hlt]
          exact hy)) d0 hg'
        obtain ⟨j1, j2⟩ := stp_ok hk (hx m x hlast).1 (hx m x hlast).2 i1 hg
        exact ⟨j1, fun k hk => by
          rcases Nat.lt_succ_iff_lt_or_eq.mp hk with q | q
          · exact i2 k q
          · rw [q]; exact j2⟩
