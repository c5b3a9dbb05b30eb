/-! what a TEXT gives: the spec over its row, the class's join and gives, the model's joined and worked -/
def jn (c : Nat) (x y : Int32) : Int32 := match c with
  | 43 => x + y
  | 45 => x - y
  | 42 => x * y
  | 47 => if y = 0 then 0 else x / y
  | 60 => bI (decide (x < y))
  | 62 => bI (decide (y < x))
  | 61 => bI (decide (x = y))
  | 38 => bI (!(decide (x = 0)) && !(decide (y = 0)))
  | _ => bI (!(decide (x = 0)) || !(decide (y = 0)))
def isSg (c : Nat) : Prop := c = 43 ∨ c = 45 ∨ c = 42 ∨ c = 47 ∨ c = 60 ∨ c = 62 ∨ c = 61 ∨ c = 38 ∨ c = 124
theorem divm1 (x : Int32) : x / (-1) = -x := by
  apply Int32.toInt_inj.mp
  rw [Int32.toInt_div, show (-1 : Int32).toInt = -1 from by decide +kernel, Int.tdiv_neg, Int.tdiv_one, Int32.toInt_neg]
theorem p_Lw_join (g : CX) (d : Nat) (hd : 0 ≤ d) (σ : Sg) (c : Nat) (hc : isSg c) (x y : Int32) : RunM g d Lw_join [.int (nI c), .int x, .int y] σ (PI (jn c x y) σ) := by
  refine RunM.of 0 (by decide +kernel) rfl ?_
  intro κ hg hx hk0 G E
  subst hg
  have hk : 3 ≤ kn κ := Nat.le_of_eq hk0.symm
  show X κ NC 0 [some (.int (nI c)), some (.int x), some (.int y)] [] (hv σ)
  rcases hc with rfl | rfl | rfl | rfl | rfl | rfl | rfl | rfl | rfl
  · show X κ NC 0 [some (.int (nI 43)), some (.int x), some (.int y)] [] (hv σ)
    refine x_iload0 G d_Lw_join_0 ?_
    refine x_lookup (136) 137 G d_Lw_join_1 (by decide +kernel) (by decide +kernel) rfl ?_
    refine x_iload1 G d_Lw_join_137 ?_
    refine x_iload2 G d_Lw_join_138 ?_
    refine x_iadd G d_Lw_join_139 ?_
    exact m_iret E G d_Lw_join_140 hx rfl rfl (pi_of (by simp_all [jn, bI, nI_0, nI1]))
  · show X κ NC 0 [some (.int (nI 45)), some (.int x), some (.int y)] [] (hv σ)
    refine x_iload0 G d_Lw_join_0 ?_
    refine x_lookup (140) 141 G d_Lw_join_1 (by decide +kernel) (by decide +kernel) rfl ?_
    refine x_iload1 G d_Lw_join_141 ?_
    refine x_iload2 G d_Lw_join_142 ?_
    refine x_isub G d_Lw_join_143 ?_
    exact m_iret E G d_Lw_join_144 hx rfl rfl (pi_of (by simp_all [jn, bI, nI_0, nI1]))
  · show X κ NC 0 [some (.int (nI 42)), some (.int x), some (.int y)] [] (hv σ)
    refine x_iload0 G d_Lw_join_0 ?_
    refine x_lookup (144) 145 G d_Lw_join_1 (by decide +kernel) (by decide +kernel) rfl ?_
    refine x_iload1 G d_Lw_join_145 ?_
    refine x_iload2 G d_Lw_join_146 ?_
    refine x_imul G d_Lw_join_147 ?_
    exact m_iret E G d_Lw_join_148 hx rfl rfl (pi_of (by simp_all [jn, bI, nI_0, nI1]))
  · show X κ NC 0 [some (.int (nI 47)), some (.int x), some (.int y)] [] (hv σ)
    refine x_iload0 G d_Lw_join_0 ?_
    refine x_lookup (148) 149 G d_Lw_join_1 (by decide +kernel) (by decide +kernel) rfl ?_
    refine x_iload2 G d_Lw_join_149 ?_
    refine x_if_ne G d_Lw_join_150 (fun c150 => ?_) (fun c150 => ?_)
    · refine x_iload1 G d_Lw_join_157 ?_
      refine x_iload2 G d_Lw_join_158 ?_
      refine x_idiv G d_Lw_join_159 (by assumption) ?_
      exact m_iret E G d_Lw_join_160 hx rfl rfl (pi_of (by simp_all [jn, bI, nI_0, nI1]))
    · refine x_iconst (v := nI 0) G d_Lw_join_153 rfl ?_
      refine x_goto G d_Lw_join_154 ?_
      exact m_iret E G d_Lw_join_160 hx rfl rfl (pi_of (by simp_all [jn, bI, nI_0, nI1]))
  · show X κ NC 0 [some (.int (nI 60)), some (.int x), some (.int y)] [] (hv σ)
    refine x_iload0 G d_Lw_join_0 ?_
    refine x_lookup (103) 104 G d_Lw_join_1 (by decide +kernel) (by decide +kernel) rfl ?_
    refine x_iload1 G d_Lw_join_104 ?_
    refine x_iload2 G d_Lw_join_105 ?_
    refine x_icmp_ge G d_Lw_join_106 (fun c106 => ?_) (fun c106 => ?_)
    · refine x_iconst (v := nI 0) G d_Lw_join_113 rfl ?_
      exact m_iret E G d_Lw_join_114 hx rfl rfl (pi_of (by simp_all [jn, bI, nI_0, nI1]))
    · refine x_iconst (v := nI 1) G d_Lw_join_109 rfl ?_
      refine x_goto G d_Lw_join_110 ?_
      exact m_iret E G d_Lw_join_114 hx rfl rfl (pi_of (by simp_all [jn, bI, nI_0, nI1]))
  · show X κ NC 0 [some (.int (nI 62)), some (.int x), some (.int y)] [] (hv σ)
    refine x_iload0 G d_Lw_join_0 ?_
    refine x_lookup (125) 126 G d_Lw_join_1 (by decide +kernel) (by decide +kernel) rfl ?_
    refine x_iload1 G d_Lw_join_126 ?_
    refine x_iload2 G d_Lw_join_127 ?_
    refine x_icmp_le G d_Lw_join_128 (fun c128 => ?_) (fun c128 => ?_)
    · refine x_iconst (v := nI 0) G d_Lw_join_135 rfl ?_
      exact m_iret E G d_Lw_join_136 hx rfl rfl (pi_of (by simp_all [jn, bI, nI_0, nI1]))
    · refine x_iconst (v := nI 1) G d_Lw_join_131 rfl ?_
      refine x_goto G d_Lw_join_132 ?_
      exact m_iret E G d_Lw_join_136 hx rfl rfl (pi_of (by simp_all [jn, bI, nI_0, nI1]))
  · show X κ NC 0 [some (.int (nI 61)), some (.int x), some (.int y)] [] (hv σ)
    refine x_iload0 G d_Lw_join_0 ?_
    refine x_lookup (114) 115 G d_Lw_join_1 (by decide +kernel) (by decide +kernel) rfl ?_
    refine x_iload1 G d_Lw_join_115 ?_
    refine x_iload2 G d_Lw_join_116 ?_
    refine x_icmp_ne G d_Lw_join_117 (fun c117 => ?_) (fun c117 => ?_)
    · refine x_iconst (v := nI 0) G d_Lw_join_124 rfl ?_
      exact m_iret E G d_Lw_join_125 hx rfl rfl (pi_of (by simp_all [jn, bI, nI_0, nI1]))
    · refine x_iconst (v := nI 1) G d_Lw_join_120 rfl ?_
      refine x_goto G d_Lw_join_121 ?_
      exact m_iret E G d_Lw_join_125 hx rfl rfl (pi_of (by simp_all [jn, bI, nI_0, nI1]))
  · show X κ NC 0 [some (.int (nI 38)), some (.int x), some (.int y)] [] (hv σ)
    refine x_iload0 G d_Lw_join_0 ?_
    refine x_lookup (89) 90 G d_Lw_join_1 (by decide +kernel) (by decide +kernel) rfl ?_
    refine x_iload1 G d_Lw_join_90 ?_
    refine x_if_eq G d_Lw_join_91 (fun c91 => ?_) (fun c91 => ?_)
    · refine x_iconst (v := nI 0) G d_Lw_join_102 rfl ?_
      exact m_iret E G d_Lw_join_103 hx rfl rfl (pi_of (by simp_all [jn, bI, nI_0, nI1]))
    · refine x_iload2 G d_Lw_join_94 ?_
      refine x_if_eq G d_Lw_join_95 (fun c95 => ?_) (fun c95 => ?_)
      · refine x_iconst (v := nI 0) G d_Lw_join_102 rfl ?_
        exact m_iret E G d_Lw_join_103 hx rfl rfl (pi_of (by simp_all [jn, bI, nI_0, nI1]))
      · refine x_iconst (v := nI 1) G d_Lw_join_98 rfl ?_
        refine x_goto G d_Lw_join_99 ?_
        exact m_iret E G d_Lw_join_103 hx rfl rfl (pi_of (by simp_all [jn, bI, nI_0, nI1]))
  · show X κ NC 0 [some (.int (nI 124)), some (.int x), some (.int y)] [] (hv σ)
    refine x_iload0 G d_Lw_join_0 ?_
    refine x_lookup (75) 76 G d_Lw_join_1 (by decide +kernel) (by decide +kernel) rfl ?_
    refine x_iload1 G d_Lw_join_76 ?_
    refine x_if_ne G d_Lw_join_77 (fun c77 => ?_) (fun c77 => ?_)
    · refine x_iconst (v := nI 1) G d_Lw_join_84 rfl ?_
      refine x_goto G d_Lw_join_85 ?_
      exact m_iret E G d_Lw_join_89 hx rfl rfl (pi_of (by simp_all [jn, bI, nI_0, nI1]))
    · refine x_iload2 G d_Lw_join_80 ?_
      refine x_if_eq G d_Lw_join_81 (fun c81 => ?_) (fun c81 => ?_)
      · refine x_iconst (v := nI 0) G d_Lw_join_88 rfl ?_
        exact m_iret E G d_Lw_join_89 hx rfl rfl (pi_of (by simp_all [jn, bI, nI_0, nI1]))
      · refine x_iconst (v := nI 1) G d_Lw_join_84 rfl ?_
        refine x_goto G d_Lw_join_85 ?_
        exact m_iret E G d_Lw_join_89 hx rfl rfl (pi_of (by simp_all [jn, bI, nI_0, nI1]))
theorem p_M_joined (g : CX) (d : Nat) (hd : 0 ≤ d) (σ : Sg) (c : Nat) (hc : isSg c) (x y : Int32) : RunM g d M_joined [.int (nI c), .int x, .int y] σ (PI (jn c x y) σ) := by
  refine RunM.of 0 (by decide +kernel) rfl ?_
  intro κ hg hx hk0 G E
  subst hg
  have hk : 3 ≤ kn κ := Nat.le_of_eq hk0.symm
  show X κ NC 0 [some (.int (nI c)), some (.int x), some (.int y)] [] (hv σ)
  rcases hc with rfl | rfl | rfl | rfl | rfl | rfl | rfl | rfl | rfl
  · show X κ NC 0 [some (.int (nI 43)), some (.int x), some (.int y)] [] (hv σ)
    refine x_iload0 G d_M_joined_0 ?_
    refine x_tabIn (115) 116 G d_M_joined_1 (by decide +kernel) (by decide +kernel) (by decide +kernel) rfl ?_
    refine x_iload1 G d_M_joined_116 ?_
    refine x_iload2 G d_M_joined_117 ?_
    refine x_iadd G d_M_joined_118 ?_
    exact m_iret E G d_M_joined_119 hx rfl rfl (pi_of (by first | (simp_all [jn, bI, nI_0, nI1]; done) | (have e := divm1 x; simp_all [jn, bI, nI_0, nI1])))
  · show X κ NC 0 [some (.int (nI 45)), some (.int x), some (.int y)] [] (hv σ)
    refine x_iload0 G d_M_joined_0 ?_
    refine x_tabIn (119) 120 G d_M_joined_1 (by decide +kernel) (by decide +kernel) (by decide +kernel) rfl ?_
    refine x_iload1 G d_M_joined_120 ?_
    refine x_iload2 G d_M_joined_121 ?_
    refine x_isub G d_M_joined_122 ?_
    exact m_iret E G d_M_joined_123 hx rfl rfl (pi_of (by first | (simp_all [jn, bI, nI_0, nI1]; done) | (have e := divm1 x; simp_all [jn, bI, nI_0, nI1])))
  · show X κ NC 0 [some (.int (nI 42)), some (.int x), some (.int y)] [] (hv σ)
    refine x_iload0 G d_M_joined_0 ?_
    refine x_tabIn (123) 124 G d_M_joined_1 (by decide +kernel) (by decide +kernel) (by decide +kernel) rfl ?_
    refine x_iload1 G d_M_joined_124 ?_
    refine x_iload2 G d_M_joined_125 ?_
    refine x_imul G d_M_joined_126 ?_
    exact m_iret E G d_M_joined_127 hx rfl rfl (pi_of (by first | (simp_all [jn, bI, nI_0, nI1]; done) | (have e := divm1 x; simp_all [jn, bI, nI_0, nI1])))
  · show X κ NC 0 [some (.int (nI 47)), some (.int x), some (.int y)] [] (hv σ)
    refine x_iload0 G d_M_joined_0 ?_
    refine x_tabIn (127) 128 G d_M_joined_1 (by decide +kernel) (by decide +kernel) (by decide +kernel) rfl ?_
    refine x_iload2 G d_M_joined_128 ?_
    refine x_if_ne G d_M_joined_129 (fun c129 => ?_) (fun c129 => ?_)
    · refine x_iload2 G d_M_joined_136 ?_
      refine x_iconst (v := (-1)) G d_M_joined_137 rfl ?_
      refine x_icmp_ne G d_M_joined_138 (fun c138 => ?_) (fun c138 => ?_)
      · refine x_iload1 G d_M_joined_146 ?_
        refine x_iload2 G d_M_joined_147 ?_
        refine x_idiv G d_M_joined_148 (by assumption) ?_
        exact m_iret E G d_M_joined_149 hx rfl rfl (pi_of (by first | (simp_all [jn, bI, nI_0, nI1]; done) | (have e := divm1 x; simp_all [jn, bI, nI_0, nI1])))
      · refine x_iload1 G d_M_joined_141 ?_
        refine x_ineg G d_M_joined_142 ?_
        refine x_goto G d_M_joined_143 ?_
        exact m_iret E G d_M_joined_149 hx rfl rfl (pi_of (by first | (simp_all [jn, bI, nI_0, nI1]; done) | (have e := divm1 x; simp_all [jn, bI, nI_0, nI1])))
    · refine x_iconst (v := nI 0) G d_M_joined_132 rfl ?_
      refine x_goto G d_M_joined_133 ?_
      exact m_iret E G d_M_joined_149 hx rfl rfl (pi_of (by first | (simp_all [jn, bI, nI_0, nI1]; done) | (have e := divm1 x; simp_all [jn, bI, nI_0, nI1])))
  · show X κ NC 0 [some (.int (nI 60)), some (.int x), some (.int y)] [] (hv σ)
    refine x_iload0 G d_M_joined_0 ?_
    refine x_tabIn (149) 150 G d_M_joined_1 (by decide +kernel) (by decide +kernel) (by decide +kernel) rfl ?_
    refine x_iload1 G d_M_joined_150 ?_
    refine x_iload2 G d_M_joined_151 ?_
    refine x_icmp_ge G d_M_joined_152 (fun c152 => ?_) (fun c152 => ?_)
    · refine x_iconst (v := nI 0) G d_M_joined_159 rfl ?_
      exact m_iret E G d_M_joined_160 hx rfl rfl (pi_of (by first | (simp_all [jn, bI, nI_0, nI1]; done) | (have e := divm1 x; simp_all [jn, bI, nI_0, nI1])))
    · refine x_iconst (v := nI 1) G d_M_joined_155 rfl ?_
      refine x_goto G d_M_joined_156 ?_
      exact m_iret E G d_M_joined_160 hx rfl rfl (pi_of (by first | (simp_all [jn, bI, nI_0, nI1]; done) | (have e := divm1 x; simp_all [jn, bI, nI_0, nI1])))
  · show X κ NC 0 [some (.int (nI 62)), some (.int x), some (.int y)] [] (hv σ)
    refine x_iload0 G d_M_joined_0 ?_
    refine x_tabIn (160) 161 G d_M_joined_1 (by decide +kernel) (by decide +kernel) (by decide +kernel) rfl ?_
    refine x_iload1 G d_M_joined_161 ?_
    refine x_iload2 G d_M_joined_162 ?_
    refine x_icmp_le G d_M_joined_163 (fun c163 => ?_) (fun c163 => ?_)
    · refine x_iconst (v := nI 0) G d_M_joined_170 rfl ?_
      exact m_iret E G d_M_joined_171 hx rfl rfl (pi_of (by first | (simp_all [jn, bI, nI_0, nI1]; done) | (have e := divm1 x; simp_all [jn, bI, nI_0, nI1])))
    · refine x_iconst (v := nI 1) G d_M_joined_166 rfl ?_
      refine x_goto G d_M_joined_167 ?_
      exact m_iret E G d_M_joined_171 hx rfl rfl (pi_of (by first | (simp_all [jn, bI, nI_0, nI1]; done) | (have e := divm1 x; simp_all [jn, bI, nI_0, nI1])))
  · show X κ NC 0 [some (.int (nI 61)), some (.int x), some (.int y)] [] (hv σ)
    refine x_iload0 G d_M_joined_0 ?_
    refine x_tabIn (171) 172 G d_M_joined_1 (by decide +kernel) (by decide +kernel) (by decide +kernel) rfl ?_
    refine x_iload1 G d_M_joined_172 ?_
    refine x_iload2 G d_M_joined_173 ?_
    refine x_icmp_ne G d_M_joined_174 (fun c174 => ?_) (fun c174 => ?_)
    · refine x_iconst (v := nI 0) G d_M_joined_181 rfl ?_
      exact m_iret E G d_M_joined_182 hx rfl rfl (pi_of (by first | (simp_all [jn, bI, nI_0, nI1]; done) | (have e := divm1 x; simp_all [jn, bI, nI_0, nI1])))
    · refine x_iconst (v := nI 1) G d_M_joined_177 rfl ?_
      refine x_goto G d_M_joined_178 ?_
      exact m_iret E G d_M_joined_182 hx rfl rfl (pi_of (by first | (simp_all [jn, bI, nI_0, nI1]; done) | (have e := divm1 x; simp_all [jn, bI, nI_0, nI1])))
  · show X κ NC 0 [some (.int (nI 38)), some (.int x), some (.int y)] [] (hv σ)
    refine x_iload0 G d_M_joined_0 ?_
    refine x_tabIn (182) 183 G d_M_joined_1 (by decide +kernel) (by decide +kernel) (by decide +kernel) rfl ?_
    refine x_iload1 G d_M_joined_183 ?_
    refine x_if_eq G d_M_joined_184 (fun c184 => ?_) (fun c184 => ?_)
    · refine x_iconst (v := nI 0) G d_M_joined_195 rfl ?_
      exact m_iret E G d_M_joined_196 hx rfl rfl (pi_of (by first | (simp_all [jn, bI, nI_0, nI1]; done) | (have e := divm1 x; simp_all [jn, bI, nI_0, nI1])))
    · refine x_iload2 G d_M_joined_187 ?_
      refine x_if_eq G d_M_joined_188 (fun c188 => ?_) (fun c188 => ?_)
      · refine x_iconst (v := nI 0) G d_M_joined_195 rfl ?_
        exact m_iret E G d_M_joined_196 hx rfl rfl (pi_of (by first | (simp_all [jn, bI, nI_0, nI1]; done) | (have e := divm1 x; simp_all [jn, bI, nI_0, nI1])))
      · refine x_iconst (v := nI 1) G d_M_joined_191 rfl ?_
        refine x_goto G d_M_joined_192 ?_
        exact m_iret E G d_M_joined_196 hx rfl rfl (pi_of (by first | (simp_all [jn, bI, nI_0, nI1]; done) | (have e := divm1 x; simp_all [jn, bI, nI_0, nI1])))
  · show X κ NC 0 [some (.int (nI 124)), some (.int x), some (.int y)] [] (hv σ)
    refine x_iload0 G d_M_joined_0 ?_
    refine x_tabOut 197 G d_M_joined_1 (by decide +kernel) rfl ?_
    refine x_iload1 G d_M_joined_197 ?_
    refine x_if_ne G d_M_joined_198 (fun c198 => ?_) (fun c198 => ?_)
    · refine x_iconst (v := nI 1) G d_M_joined_205 rfl ?_
      refine x_goto G d_M_joined_206 ?_
      exact m_iret E G d_M_joined_210 hx rfl rfl (pi_of (by first | (simp_all [jn, bI, nI_0, nI1]; done) | (have e := divm1 x; simp_all [jn, bI, nI_0, nI1])))
    · refine x_iload2 G d_M_joined_201 ?_
      refine x_if_eq G d_M_joined_202 (fun c202 => ?_) (fun c202 => ?_)
      · refine x_iconst (v := nI 0) G d_M_joined_209 rfl ?_
        exact m_iret E G d_M_joined_210 hx rfl rfl (pi_of (by first | (simp_all [jn, bI, nI_0, nI1]; done) | (have e := divm1 x; simp_all [jn, bI, nI_0, nI1])))
      · refine x_iconst (v := nI 1) G d_M_joined_205 rfl ?_
        refine x_goto G d_M_joined_206 ?_
        exact m_iret E G d_M_joined_210 hx rfl rfl (pi_of (by first | (simp_all [jn, bI, nI_0, nI1]; done) | (have e := divm1 x; simp_all [jn, bI, nI_0, nI1])))
def wT (S : Rw) (t k : Nat) : Int32 := S (ixT t (4 + 2 * k))
def vT (S : Rw) (t k : Nat) : Int32 := S (ixT t (5 + 2 * k))
def mT (S : Rw) (t : Nat) : Nat := tn (S (ixT t 2))
/-- how many values lie on the pile ahead of step k -/
def dN (S : Rw) (t : Nat) : Nat → Nat
  | 0 => 0
  | k + 1 => if wT S t k = nI 2 then (if vT S t k = nI 33 then dN S t k else dN S t k - 1) else dN S t k + 1
/-- the values there -/
def evV (S : Rw) (t : Nat) (nm : Nat → Int32) : Nat → Nat → Int32
  | 0 => fun _ => 0
  | k + 1 => if wT S t k = nI 2 then (if vT S t k = nI 33 then upd (evV S t nm k) (dN S t k - 1) (bI (decide (evV S t nm k (dN S t k - 1) = 0))) else upd (evV S t nm k) (dN S t k - 2) (jn (tn (vT S t k)) (evV S t nm k (dN S t k - 2)) (evV S t nm k (dN S t k - 1))))
    else upd (evV S t nm k) (dN S t k) (if wT S t k = nI 0 then vT S t k else nm (tn (vT S t k)))
def ev (S : Rw) (t : Nat) (nm : Nat → Int32) : Int32 := evV S t nm (mT S t) 0
def isLe (key c : Nat) : Prop := (key = 0 ∧ (c = 100 ∨ c = 99 ∨ c = 104)) ∨ (key = 1 ∧ (c = 115 ∨ c = 108)) ∨ (key = 2 ∧ (c = 104 ∨ c = 99))
/-- step k of a text is one of a text -/
def okS (S : Rw) (t k : Nat) : Prop :=
  (∃ v, wT S t k = nI 0 ∧ vT S t k = nI v ∧ v ≤ 9999) ∨ (∃ c, wT S t k = nI 1 ∧ vT S t k = nI c ∧ isLe (tn (S (ixT t 0))) c) ∨
  (wT S t k = nI 2 ∧ vT S t k = nI 33 ∧ 1 ≤ dN S t k) ∨ (∃ c, wT S t k = nI 2 ∧ vT S t k = nI c ∧ isSg c ∧ 2 ≤ dN S t k)
def TV (S : Rw) (t : Nat) : Prop := In (S (ixT t 2)) 96 ∧ In (S (ixT t 0)) 2 ∧ (∀ k, k < mT S t → okS S t k) ∧ 1 ≤ dN S t (mT S t)
theorem TV.m {S : Rw} {t : Nat} (h : TV S t) : S (ixT t 2) = nI (mT S t) ∧ mT S t ≤ 96 := ⟨h.1.1, h.1.2⟩
theorem isSg_lt {c : Nat} (h : isSg c) : c < 125 ∧ c ≠ 33 ∧ 0 < c := by
  rcases h with h | h | h | h | h | h | h | h | h <;> omega
theorem dN_le (S : Rw) (t : Nat) : ∀ k, dN S t k ≤ k
  | 0 => Nat.le_refl _
  | k + 1 => by
    have := dN_le S t k
    unfold dN
    split
    · split <;> omega
    · omega
section EV
variable {S : Rw} {t k : Nat} {nm : Nat → Int32}
theorem ev_num {v : Nat} (h : wT S t k = nI 0) (h2 : vT S t k = nI v) : dN S t (k + 1) = dN S t k + 1 ∧ evV S t nm (k + 1) = upd (evV S t nm k) (dN S t k) (nI v) := by
  have e : ¬ nI 0 = nI 2 := by decide +kernel
  exact ⟨by rw [dN, h, if_neg e], by rw [evV, h, if_neg e, if_pos rfl, h2]⟩
theorem ev_nam {v : Nat} (h : wT S t k = nI 1) (h2 : vT S t k = nI v) (hv : v < 128) : dN S t (k + 1) = dN S t k + 1 ∧ evV S t nm (k + 1) = upd (evV S t nm k) (dN S t k) (nm v) := by
  have e : ¬ nI 1 = nI 2 := by decide +kernel
  have e2 : ¬ nI 1 = nI 0 := by decide +kernel
  exact ⟨by rw [dN, h, if_neg e], by rw [evV, h, if_neg e, if_neg e2, h2, tn_nI (by omega)]⟩
theorem ev_not (h : wT S t k = nI 2) (h2 : vT S t k = nI 33) : dN S t (k + 1) = dN S t k ∧ evV S t nm (k + 1) = upd (evV S t nm k) (dN S t k - 1) (bI (decide (evV S t nm k (dN S t k - 1) = 0))) :=
  ⟨by rw [dN, h, if_pos rfl, h2, if_pos rfl], by rw [evV, h, if_pos rfl, h2, if_pos rfl]⟩
theorem ev_sgn {c : Nat} (h : wT S t k = nI 2) (h2 : vT S t k = nI c) (hc : isSg c) : dN S t (k + 1) = dN S t k - 1 ∧ evV S t nm (k + 1) = upd (evV S t nm k) (dN S t k - 2) (jn c (evV S t nm k (dN S t k - 2)) (evV S t nm k (dN S t k - 1))) := by
  obtain ⟨c1, c2, c3⟩ := isSg_lt hc
  have e : ¬ nI c = nI 33 := by rw [neq (by omega) (by omega)]; exact c2
  exact ⟨by rw [dN, h, if_pos rfl, h2, if_neg e], by rw [evV, h, if_pos rfl, h2, if_neg e, tn_nI (by omega)]⟩
end EV
theorem nI_nn {n : Nat} (h : n < 2 ^ 31) {x : Int32} (hx : x < 0) : ¬ nI n = x := fun e => nI_pos h (e ▸ hx)
theorem p_M_textAt (g : CX) (d : Nat) (hd : 0 ≤ d) (σ : Sg) (t : Nat) : RunM g d M_textAt [.ref 113, .int (nI t)] σ (PI (nI (90 + 200 * t)) σ) := by
  refine RunM.of 0 (by decide +kernel) rfl ?_
  intro κ hg hx hk0 G E
  subst hg
  have hk : 2 ≤ kn κ := Nat.le_of_eq hk0.symm
  show X κ NC 0 [some (.ref 113), some (.int (nI t))] [] (hv σ)
  refine x_bipush (v := nI 90) G d_M_textAt_0 rfl ?_
  refine x_sipush (v := nI 200) G d_M_textAt_2 rfl ?_
  refine x_iload1 G d_M_textAt_5 ?_
  refine x_imul G d_M_textAt_6 ?_
  refine x_iadd G d_M_textAt_7 ?_
  exact m_iret E G d_M_textAt_8 hx rfl rfl (pi_of (by rw [pk_mul, nI_add]))
theorem p_M_worked (g : CX) (d : Nat) (hd : 1 ≤ d) (σ : Sg) (S : Rw) (hS : σ 114 = S) (t : Nat) (ht : t < 14) (hT : TV S t) : RunM g d M_worked [.ref 113, .int (nI t)] σ (PR (fun v σ1 => v = ev S t (σ 130) ∧ ∀ i, i ≠ 131 → σ1 i = σ i)) := by
  refine RunM.of 4 (by decide +kernel) rfl ?_
  intro κ hg hx hk0 G E
  subst hg
  have hk : 6 ≤ kn κ := Nat.le_of_eq hk0.symm
  show X κ NC 0 [some (.ref 113), some (.int (nI t)), none, none, none, none] [] (hv σ)
  have hm96 := hT.m.2
  refine x_iconst (v := nI 0) G d_M_worked_0 rfl ?_
  refine x_istore2 G d_M_worked_1 rfl hk ?_
  refine x_iconst (v := nI 0) G d_M_worked_2 rfl ?_
  refine x_istore3 G d_M_worked_3 rfl hk ?_
  have hloop : ∀ (m k : Nat) (σ1 : Sg) (o4 o5 : Option Value), k ≤ mT S t → mT S t < k + m → (∀ i, i ≠ 131 → σ1 i = σ i) → (∀ i, i < dN S t k → σ1 131 i = evV S t (σ 130) k i) → X κ NC 4 [some (.ref 113), some (.int (nI t)), some (.int (nI (dN S t k))), some (.int (nI k)), o4, o5] [] (hv σ1) := by
    intro m
    induction m with
    | zero => intro k σ1 o4 o5 h1 h2; omega
    | succ m ih =>
      intro k σ1 o4 o5 hk1 hk2 hF hV
      refine x_iload3 G d_M_worked_4 ?_
      refine x_aload0 G d_M_worked_5 ?_
      refine m_getr G d_M_worked_6 fl_M_7 rfl (by decide) rfl ?_
      refine x_aload0 G d_M_worked_9 ?_
      refine x_iload1 G d_M_worked_10 ?_
      refine m_callV_pi (p_M_textAt (kg κ) (d - 1) (by omega) σ1 t) G d_M_worked_11 lk_M_295 rfl ⟨by decide, rfl⟩ (by decide) (by omega) rfl (Nat.le_of_ble_eq_true rfl) hx ?_
      refine x_iconst (v := nI 2) G d_M_worked_14 rfl ?_
      refine x_iadd G d_M_worked_15 ?_
      refine m_iald (ixT t 2) G d_M_worked_16 rfl (by simp only [pk_mul, nI_add]; exact congrArg nI (by unfold ixT; omega)) ⟨by unfold ixT; omega, by first | decide | omega⟩ ?_
      rw [show σ1 114 (ixT t 2) = nI (mT S t) by rw [hF 114 (by decide), hS]; exact hT.m.1]
      refine x_icmp_ge G d_M_worked_17 (fun c17 => ?_) (fun c17 => ?_)
      · have hkm : k = mT S t := by rw [nle (by omega) (by omega)] at c17; omega
        refine x_aload0 G d_M_worked_163 ?_
        refine m_getr G d_M_worked_164 fl_M_65 rfl (by decide) rfl ?_
        refine x_iconst (v := nI 0) G d_M_worked_167 rfl ?_
        refine m_iald 0 G d_M_worked_168 rfl rfl ⟨by decide, by first | decide | omega⟩ ?_
        exact m_iret E G d_M_worked_169 hx rfl rfl ⟨_, rfl, (by rw [hV 0 (by have q := hT.2.2.2; rw [← hkm] at q; omega)]; unfold ev; rw [← hkm]), hF⟩
      · have hkm : k < mT S t := by rw [nle (by omega) (by omega)] at c17; omega
        have hdl := dN_le S t k
        refine x_aload0 G d_M_worked_20 ?_
        refine m_getr G d_M_worked_21 fl_M_7 rfl (by decide) rfl ?_
        refine x_aload0 G d_M_worked_24 ?_
        refine x_iload1 G d_M_worked_25 ?_
        refine m_callV_pi (p_M_textAt (kg κ) (d - 1) (by omega) σ1 t) G d_M_worked_26 lk_M_295 rfl ⟨by decide, rfl⟩ (by decide) (by omega) rfl (Nat.le_of_ble_eq_true rfl) hx ?_
        refine x_iconst (v := nI 4) G d_M_worked_29 rfl ?_
        refine x_iadd G d_M_worked_30 ?_
        refine x_iconst (v := nI 2) G d_M_worked_31 rfl ?_
        refine x_iload3 G d_M_worked_32 ?_
        refine x_imul G d_M_worked_33 ?_
        refine x_iadd G d_M_worked_34 ?_
        refine m_iald (ixT t (4 + 2 * k)) G d_M_worked_35 rfl (by simp only [pk_mul, nI_add]; exact congrArg nI (by unfold ixT; omega)) ⟨by unfold ixT; omega, by first | decide | omega⟩ ?_
        rw [show σ1 114 (ixT t (4 + 2 * k)) = wT S t k by rw [hF 114 (by decide), hS]; rfl]
        refine x_istore4 G d_M_worked_36 rfl hk ?_
        refine x_aload0 G d_M_worked_38 ?_
        refine m_getr G d_M_worked_39 fl_M_7 rfl (by decide) rfl ?_
        refine x_aload0 G d_M_worked_42 ?_
        refine x_iload1 G d_M_worked_43 ?_
        refine m_callV_pi (p_M_textAt (kg κ) (d - 1) (by omega) σ1 t) G d_M_worked_44 lk_M_295 rfl ⟨by decide, rfl⟩ (by decide) (by omega) rfl (Nat.le_of_ble_eq_true rfl) hx ?_
        refine x_iconst (v := nI 4) G d_M_worked_47 rfl ?_
        refine x_iadd G d_M_worked_48 ?_
        refine x_iconst (v := nI 2) G d_M_worked_49 rfl ?_
        refine x_iload3 G d_M_worked_50 ?_
        refine x_imul G d_M_worked_51 ?_
        refine x_iadd G d_M_worked_52 ?_
        refine x_iconst (v := nI 1) G d_M_worked_53 rfl ?_
        refine x_iadd G d_M_worked_54 ?_
        refine m_iald (ixT t (5 + 2 * k)) G d_M_worked_55 rfl (by simp only [pk_mul, nI_add]; exact congrArg nI (by unfold ixT; omega)) ⟨by unfold ixT; omega, by first | decide | omega⟩ ?_
        rw [show σ1 114 (ixT t (5 + 2 * k)) = vT S t k by rw [hF 114 (by decide), hS]; rfl]
        rcases hT.2.2.1 k hkm with ⟨v, hw, hv, hv9⟩ | ⟨c, hw, hv, hle⟩ | ⟨hw, hv, hd1⟩ | ⟨c, hw, hv, hsg, hd2⟩
        · have e1 := ev_num (nm := σ 130) hw hv
          rw [hw, hv]
          refine x_istore5 G d_M_worked_56 rfl hk ?_
          refine x_iload4 G d_M_worked_58 ?_
          refine x_iconst (v := nI 2) G d_M_worked_60 rfl ?_
          refine x_icmp_eq G d_M_worked_61 (fun c61 => absurd c61 ((by decide +kernel))) (fun c61 => ?_)
          refine x_aload0 G d_M_worked_64 ?_
          refine m_getr G d_M_worked_65 fl_M_65 rfl (by decide) rfl ?_
          refine x_iload2 G d_M_worked_68 ?_
          refine x_iload4 G d_M_worked_69 ?_
          refine x_if_ne G d_M_worked_71 (fun c71 => absurd (nI_0) c71) (fun c71 => ?_)
          refine x_iload5 G d_M_worked_74 ?_
          refine x_goto G d_M_worked_76 ?_
          refine m_iast (dN S t k) G d_M_worked_86 rfl rfl ⟨by omega, by first | decide | omega⟩ ?_
          refine x_iinc2 (v := nI (dN S t (k + 1))) G d_M_worked_87 rfl hk (by rw [e1.1]; exact nI_1 _) ?_
          refine x_goto G d_M_worked_90 ?_
          refine x_iinc3 (v := nI (k + 1)) G d_M_worked_157 rfl hk (nI_1 _) ?_
          refine x_goto G d_M_worked_160 ?_
          exact ih (k + 1) _ _ _ (by omega) (by omega) (fun i hi => by rw [updS_nk hi]; exact hF i hi) (fun i hi => by
            rw [updS_row, e1.2]
            unfold upd
            by_cases q : i = dN S t k
            · rw [if_pos q, if_pos q]
            · rw [if_neg q, if_neg q]
              exact hV i (by omega))
        · have hcl : c < 128 := by rcases hle with ⟨_, q⟩ | ⟨_, q⟩ | ⟨_, q⟩ <;> omega
          have e1 := ev_nam (nm := σ 130) hw hv hcl
          rw [hw, hv]
          refine x_istore5 G d_M_worked_56 rfl hk ?_
          refine x_iload4 G d_M_worked_58 ?_
          refine x_iconst (v := nI 2) G d_M_worked_60 rfl ?_
          refine x_icmp_eq G d_M_worked_61 (fun c61 => absurd c61 ((by decide +kernel))) (fun c61 => ?_)
          refine x_aload0 G d_M_worked_64 ?_
          refine m_getr G d_M_worked_65 fl_M_65 rfl (by decide) rfl ?_
          refine x_iload2 G d_M_worked_68 ?_
          refine x_iload4 G d_M_worked_69 ?_
          refine x_if_ne G d_M_worked_71 (fun c71 => ?_) (fun c71 => absurd c71 ((by decide +kernel)))
          refine x_aload0 G d_M_worked_79 ?_
          refine m_getr G d_M_worked_80 fl_M_62 rfl (by decide) rfl ?_
          refine x_iload5 G d_M_worked_83 ?_
          refine m_iald c G d_M_worked_85 rfl rfl ⟨by omega, by first | decide | omega⟩ ?_
          rw [hF 130 (by decide)]
          refine m_iast (dN S t k) G d_M_worked_86 rfl rfl ⟨by omega, by first | decide | omega⟩ ?_
          refine x_iinc2 (v := nI (dN S t (k + 1))) G d_M_worked_87 rfl hk (by rw [e1.1]; exact nI_1 _) ?_
          refine x_goto G d_M_worked_90 ?_
          refine x_iinc3 (v := nI (k + 1)) G d_M_worked_157 rfl hk (nI_1 _) ?_
          refine x_goto G d_M_worked_160 ?_
          exact ih (k + 1) _ _ _ (by omega) (by omega) (fun i hi => by rw [updS_nk hi]; exact hF i hi) (fun i hi => by
            rw [updS_row, e1.2]
            unfold upd
            by_cases q : i = dN S t k
            · rw [if_pos q, if_pos q]
            · rw [if_neg q, if_neg q]
              exact hV i (by omega))
        · have e1 := ev_not (nm := σ 130) hw hv
          rw [hw, hv]
          refine x_istore5 G d_M_worked_56 rfl hk ?_
          refine x_iload4 G d_M_worked_58 ?_
          refine x_iconst (v := nI 2) G d_M_worked_60 rfl ?_
          refine x_icmp_eq G d_M_worked_61 (fun c61 => ?_) (fun c61 => absurd (rfl) c61)
          refine x_iload5 G d_M_worked_93 ?_
          refine x_bipush (v := nI 33) G d_M_worked_95 rfl ?_
          refine x_icmp_ne G d_M_worked_97 (fun c97 => absurd (rfl) c97) (fun c97 => ?_)
          refine x_aload0 G d_M_worked_100 ?_
          refine m_getr G d_M_worked_101 fl_M_65 rfl (by decide) rfl ?_
          refine x_iload2 G d_M_worked_104 ?_
          refine x_iconst (v := nI 1) G d_M_worked_105 rfl ?_
          refine x_isub G d_M_worked_106 ?_
          refine x_aload0 G d_M_worked_107 ?_
          refine m_getr G d_M_worked_108 fl_M_65 rfl (by decide) rfl ?_
          refine x_iload2 G d_M_worked_111 ?_
          refine x_iconst (v := nI 1) G d_M_worked_112 rfl ?_
          refine x_isub G d_M_worked_113 ?_
          refine m_iald (dN S t k - 1) G d_M_worked_114 rfl (pk_sub hd1) ⟨by omega, by first | decide | omega⟩ ?_
          rw [hV (dN S t k - 1) (by omega)]
          refine x_if_ne G d_M_worked_115 (fun c115 => ?_) (fun c115 => ?_)
          · refine x_iconst (v := nI 0) G d_M_worked_122 rfl ?_
            refine m_iast (dN S t k - 1) G d_M_worked_123 rfl (pk_sub hd1) ⟨by omega, by first | decide | omega⟩ ?_
            refine x_goto G d_M_worked_124 ?_
            refine x_iinc3 (v := nI (k + 1)) G d_M_worked_157 rfl hk (nI_1 _) ?_
            refine x_goto G d_M_worked_160 ?_
            rw [show nI (dN S t k) = nI (dN S t (k + 1)) from by rw [e1.1]]
            exact ih (k + 1) _ _ _ (by omega) (by omega) (fun i hi => by rw [updS_nk hi]; exact hF i hi) (fun i hi => by
              rw [updS_row, e1.2]
              unfold upd
              by_cases q : i = dN S t k - 1
              · rw [if_pos q, if_pos q]; simp [bI, nI_0, nI1, c115]
              · rw [if_neg q, if_neg q]
                exact hV i (by omega))
          · refine x_iconst (v := nI 1) G d_M_worked_118 rfl ?_
            refine x_goto G d_M_worked_119 ?_
            refine m_iast (dN S t k - 1) G d_M_worked_123 rfl (pk_sub hd1) ⟨by omega, by first | decide | omega⟩ ?_
            refine x_goto G d_M_worked_124 ?_
            refine x_iinc3 (v := nI (k + 1)) G d_M_worked_157 rfl hk (nI_1 _) ?_
            refine x_goto G d_M_worked_160 ?_
            rw [show nI (dN S t k) = nI (dN S t (k + 1)) from by rw [e1.1]]
            exact ih (k + 1) _ _ _ (by omega) (by omega) (fun i hi => by rw [updS_nk hi]; exact hF i hi) (fun i hi => by
              rw [updS_row, e1.2]
              unfold upd
              by_cases q : i = dN S t k - 1
              · rw [if_pos q, if_pos q]; simp [bI, nI_0, nI1, c115]
              · rw [if_neg q, if_neg q]
                exact hV i (by omega))
        · obtain ⟨cl1, cl2, cl3⟩ := isSg_lt hsg
          have e1 := ev_sgn (nm := σ 130) hw hv hsg
          rw [hw, hv]
          refine x_istore5 G d_M_worked_56 rfl hk ?_
          refine x_iload4 G d_M_worked_58 ?_
          refine x_iconst (v := nI 2) G d_M_worked_60 rfl ?_
          refine x_icmp_eq G d_M_worked_61 (fun c61 => ?_) (fun c61 => absurd (rfl) c61)
          refine x_iload5 G d_M_worked_93 ?_
          refine x_bipush (v := nI 33) G d_M_worked_95 rfl ?_
          refine x_icmp_ne G d_M_worked_97 (fun c97 => ?_) (fun c97 => absurd c97 ((by rw [neq (by omega) (by omega)]; exact cl2)))
          refine x_iinc2 (v := nI (dN S t k - 1)) G d_M_worked_127 rfl hk (by rw [show dN S t k = (dN S t k - 1) + 1 by omega]; exact pk_m1 _) ?_
          refine x_aload0 G d_M_worked_130 ?_
          refine m_getr G d_M_worked_131 fl_M_65 rfl (by decide) rfl ?_
          refine x_iload2 G d_M_worked_134 ?_
          refine x_iconst (v := nI 1) G d_M_worked_135 rfl ?_
          refine x_isub G d_M_worked_136 ?_
          refine x_iload5 G d_M_worked_137 ?_
          refine x_aload0 G d_M_worked_139 ?_
          refine m_getr G d_M_worked_140 fl_M_65 rfl (by decide) rfl ?_
          refine x_iload2 G d_M_worked_143 ?_
          refine x_iconst (v := nI 1) G d_M_worked_144 rfl ?_
          refine x_isub G d_M_worked_145 ?_
          refine m_iald (dN S t k - 2) G d_M_worked_146 rfl (pk_sub (by omega)) ⟨by omega, by first | decide | omega⟩ ?_
          rw [hV (dN S t k - 2) (by omega)]
          refine x_aload0 G d_M_worked_147 ?_
          refine m_getr G d_M_worked_148 fl_M_65 rfl (by decide) rfl ?_
          refine x_iload2 G d_M_worked_151 ?_
          refine m_iald (dN S t k - 1) G d_M_worked_152 rfl rfl ⟨by omega, by first | decide | omega⟩ ?_
          rw [hV (dN S t k - 1) (by omega)]
          refine m_callS_pi (p_M_joined (kg κ) (d - 1) (by omega) σ1 c hsg _ _) G d_M_worked_153 lk_M_307 (by omega) rfl (Nat.le_of_ble_eq_true rfl) hx ?_
          refine m_iast (dN S t k - 2) G d_M_worked_156 rfl (pk_sub (by omega)) ⟨by omega, by first | decide | omega⟩ ?_
          refine x_iinc3 (v := nI (k + 1)) G d_M_worked_157 rfl hk (nI_1 _) ?_
          refine x_goto G d_M_worked_160 ?_
          rw [show nI (dN S t k - 1) = nI (dN S t (k + 1)) from by rw [e1.1]]
          exact ih (k + 1) _ _ _ (by omega) (by omega) (fun i hi => by rw [updS_nk hi]; exact hF i hi) (fun i hi => by
            rw [updS_row, e1.2]
            unfold upd
            by_cases q : i = dN S t k - 2
            · rw [if_pos q, if_pos q]
            · rw [if_neg q, if_neg q]
              exact hV i (by omega))
  exact hloop (mT S t + 1) 0 σ none none (Nat.zero_le _) (by omega) (fun _ _ => rfl) (fun i hi => absurd hi (Nat.not_lt_zero _))
/-- the number of a name among its key's names, as the class has it -/
def lix (key c : Nat) : Nat := if key = 0 then (if c = 100 then 0 else if c = 99 then 1 else 2) else if key = 1 then (if c = 115 then 0 else 1) else (if c = 104 then 0 else 1)
def nmf (key : Nat) (a b c : Int32) : Nat → Int32 := fun l => if lix key l = 0 then a else if lix key l = 1 then b else c
/-- a step of a text as the class writes it -/
def encO (key : Nat) (what v : Int32) : Int32 := if what = nI 2 then -v else if what = nI 0 then v else nI (10000 + lix key (tn v))
def LRel (S : Rw) (σ : Sg) : Prop := ∀ t, t < tn (S 1) → σ 24 t = S (ixT t 2) ∧ σ 25 t = S (ixT t 0) ∧ σ 26 t = S (ixT t 1) ∧ ∀ k, k < mT S t → σ (10 + t) k = encO (tn (S (ixT t 0))) (wT S t k) (vT S t k)
theorem lix_le (key c : Nat) : lix key c ≤ 2 := by unfold lix; (repeat' split) <;> omega
theorem rt9 {t : Nat} (h : t < 14) : rt 9 t = some (10 + t) := by
  have q : ∀ t, t < 14 → rt 9 t = some (10 + t) := by decide +kernel
  exact q t h
theorem sh10 {t : Nat} (h : t < 14) : shp (10 + t) = .inr (0, 96) := by
  have q : ∀ t, t < 14 → shp (10 + t) = .inr (0, 96) := by decide +kernel
  exact q t h
theorem neg_nI {c : Nat} (h : 0 < c) (h2 : c < 2 ^ 31) : (-nI c) < 0 := by
  rw [Int32.lt_iff_toInt_lt, Int32.toInt_neg, nI_toInt h2, Int32.toInt_zero, Int.bmod_eq_of_le] <;> omega
theorem p_Lw_gives (g : CX) (d : Nat) (hd : 1 ≤ d) (σ : Sg) (S : Rw) (hL : LRel S σ) (t : Nat) (htn : t < tn (S 1)) (ht : t < 14) (hT : TV S t) (a b c : Int32) : RunM g d Lw_gives [.ref 8, .int (nI t), .int a, .int b, .int c] σ (PR (fun v σ1 => v = ev S t (nmf (tn (S (ixT t 0))) a b c) ∧ ∀ i, i ≠ 27 → σ1 i = σ i)) := by
  refine RunM.of 3 (by decide +kernel) rfl ?_
  intro κ hg hx hk0 G E
  subst hg
  have hk : 8 ≤ kn κ := Nat.le_of_eq hk0.symm
  show X κ NC 0 [some (.ref 8), some (.int (nI t)), some (.int a), some (.int b), some (.int c), none, none, none] [] (hv σ)
  have hm96 := hT.m.2
  refine x_iconst (v := nI 0) G d_Lw_gives_0 rfl ?_
  refine x_istore5 G d_Lw_gives_1 rfl hk ?_
  refine x_iconst (v := nI 0) G d_Lw_gives_3 rfl ?_
  refine x_istore6 G d_Lw_gives_4 rfl hk ?_
  have hloop : ∀ (m k : Nat) (σ1 : Sg) (o7 : Option Value), k ≤ mT S t → mT S t < k + m → (∀ i, i ≠ 27 → σ1 i = σ i) → (∀ i, i < dN S t k → σ1 27 i = evV S t (nmf (tn (S (ixT t 0))) a b c) k i) → X κ NC 6 [some (.ref 8), some (.int (nI t)), some (.int a), some (.int b), some (.int c), some (.int (nI (dN S t k))), some (.int (nI k)), o7] [] (hv σ1) := by
    intro m
    induction m with
    | zero => intro k σ1 o7 h1 h2; omega
    | succ m ih =>
      intro k σ1 o7 hk1 hk2 hF hV
      refine x_iload6 G d_Lw_gives_6 ?_
      refine x_aload0 G d_Lw_gives_8 ?_
      refine m_getr G d_Lw_gives_9 fl_Lw_16 rfl (by decide) rfl ?_
      refine x_iload1 G d_Lw_gives_12 ?_
      refine m_iald t G d_Lw_gives_13 rfl rfl ⟨by omega, by first | decide | omega⟩ ?_
      rw [show σ1 24 t = nI (mT S t) by rw [hF 24 (by decide), (hL t htn).1]; exact hT.m.1]
      refine x_icmp_ge G d_Lw_gives_14 (fun c14 => ?_) (fun c14 => ?_)
      · have hkm : k = mT S t := by rw [nle (by omega) (by omega)] at c14; omega
        refine x_aload0 G d_Lw_gives_188 ?_
        refine m_getr G d_Lw_gives_189 fl_Lw_26 rfl (by decide) rfl ?_
        refine x_iconst (v := nI 0) G d_Lw_gives_192 rfl ?_
        refine m_iald 0 G d_Lw_gives_193 rfl rfl ⟨by decide, by first | decide | omega⟩ ?_
        exact m_iret E G d_Lw_gives_194 hx rfl rfl ⟨_, rfl, (by rw [hV 0 (by have q := hT.2.2.2; rw [← hkm] at q; omega)]; unfold ev; rw [← hkm]), hF⟩
      · have hkm : k < mT S t := by rw [nle (by omega) (by omega)] at c14; omega
        have hdl := dN_le S t k
        refine x_aload0 G d_Lw_gives_17 ?_
        refine m_getr G d_Lw_gives_18 fl_Lw_11 rfl (by decide) rfl ?_
        refine x_iload1 G d_Lw_gives_21 ?_
        refine m_aald t G d_Lw_gives_22 rfl (by decide) rfl ⟨by omega, by first | decide | omega⟩ (rt9 ht) ?_
        refine x_iload6 G d_Lw_gives_23 ?_
        refine m_iald k G d_Lw_gives_25 (sh10 ht) rfl ⟨by omega, by first | decide | omega⟩ ?_
        rw [show σ1 (10 + t) k = encO (tn (S (ixT t 0))) (wT S t k) (vT S t k) by rw [hF (10 + t) (by omega)]; exact (hL t htn).2.2.2 k hkm]
        rcases hT.2.2.1 k hkm with ⟨v, hw, hv, hv9⟩ | ⟨cc, hw, hv, hle⟩ | ⟨hw, hv, hd1⟩ | ⟨cc, hw, hv, hsg, hd2⟩
        · have e1 := ev_num (nm := (nmf (tn (S (ixT t 0))) a b c)) hw hv
          rw [show encO (tn (S (ixT t 0))) (wT S t k) (vT S t k) = nI v by rw [hw, hv]; rfl]
          refine x_istore7 G d_Lw_gives_26 rfl hk ?_
          refine x_iload7 G d_Lw_gives_28 ?_
          refine x_bipush (v := (-33)) G d_Lw_gives_30 rfl ?_
          refine x_icmp_ne G d_Lw_gives_32 (fun c32 => ?_) (fun c32 => absurd c32 ((nI_nn (by omega) (by decide +kernel))))
          refine x_iload7 G d_Lw_gives_70 ?_
          refine x_if_ge G d_Lw_gives_72 (fun c72 => ?_) (fun c72 => absurd ((nI_pos' (by omega))) c72)
          refine x_iload7 G d_Lw_gives_118 ?_
          refine x_if_lt G d_Lw_gives_120 (fun c120 => absurd c120 ((nI_pos (by omega)))) (fun c120 => ?_)
          refine x_iload5 G d_Lw_gives_123 ?_
          refine x_aload0 G d_Lw_gives_125 ?_
          refine m_getr G d_Lw_gives_126 fl_Lw_26 rfl (by decide) rfl ?_
          refine m_alen G d_Lw_gives_129 rfl (by decide) (by decide) rfl ?_
          refine x_icmp_ge G d_Lw_gives_130 (fun c130 => absurd c130 ((show ¬ nI 96 ≤ nI (dN S t k) from nI_ge (by omega) (by omega)))) (fun c130 => ?_)
          refine x_aload0 G d_Lw_gives_133 ?_
          refine m_getr G d_Lw_gives_134 fl_Lw_26 rfl (by decide) rfl ?_
          refine x_iload5 G d_Lw_gives_137 ?_
          refine x_iload7 G d_Lw_gives_139 ?_
          refine x_sipush (v := nI 10000) G d_Lw_gives_141 rfl ?_
          refine x_icmp_ge G d_Lw_gives_144 (fun c144 => absurd c144 ((nI_ge (by omega) (by omega)))) (fun c144 => ?_)
          refine x_iload7 G d_Lw_gives_147 ?_
          refine x_goto G d_Lw_gives_149 ?_
          refine m_iast (dN S t k) G d_Lw_gives_178 rfl rfl ⟨by omega, by first | decide | omega⟩ ?_
          refine x_iinc5 (v := nI (dN S t (k + 1))) G d_Lw_gives_179 rfl hk (by rw [e1.1]; exact nI_1 _) ?_
          refine x_iinc6 (v := nI (k + 1)) G d_Lw_gives_182 rfl hk (nI_1 _) ?_
          refine x_goto G d_Lw_gives_185 ?_
          exact ih (k + 1) _ _ (by omega) (by omega) (fun i hi => by rw [updS_nk hi]; exact hF i hi) (fun i hi => by
            rw [updS_row, e1.2]
            unfold upd
            by_cases q : i = dN S t k
            · rw [if_pos q, if_pos q]
            · rw [if_neg q, if_neg q]
              exact hV i (by omega))
        · have hcl : cc < 128 := by rcases hle with ⟨_, q⟩ | ⟨_, q⟩ | ⟨_, q⟩ <;> omega
          have e1 := ev_nam (nm := (nmf (tn (S (ixT t 0))) a b c)) hw hv hcl
          rcases (show lix (tn (S (ixT t 0))) cc = 0 ∨ lix (tn (S (ixT t 0))) cc = 1 ∨ lix (tn (S (ixT t 0))) cc = 2 by have := lix_le (tn (S (ixT t 0))) cc; omega) with hlx | hlx | hlx
          · rw [show encO (tn (S (ixT t 0))) (wT S t k) (vT S t k) = nI (10000 + 0) by rw [hw, hv]; unfold encO; rw [if_neg (by decide +kernel), if_neg (by decide +kernel), tn_nI (by omega), hlx]]
            refine x_istore7 G d_Lw_gives_26 rfl hk ?_
            refine x_iload7 G d_Lw_gives_28 ?_
            refine x_bipush (v := (-33)) G d_Lw_gives_30 rfl ?_
            refine x_icmp_ne G d_Lw_gives_32 (fun c32 => ?_) (fun c32 => absurd c32 ((nI_nn (by omega) (by decide +kernel))))
            refine x_iload7 G d_Lw_gives_70 ?_
            refine x_if_ge G d_Lw_gives_72 (fun c72 => ?_) (fun c72 => absurd ((nI_pos' (by omega))) c72)
            refine x_iload7 G d_Lw_gives_118 ?_
            refine x_if_lt G d_Lw_gives_120 (fun c120 => absurd c120 ((nI_pos (by omega)))) (fun c120 => ?_)
            refine x_iload5 G d_Lw_gives_123 ?_
            refine x_aload0 G d_Lw_gives_125 ?_
            refine m_getr G d_Lw_gives_126 fl_Lw_26 rfl (by decide) rfl ?_
            refine m_alen G d_Lw_gives_129 rfl (by decide) (by decide) rfl ?_
            refine x_icmp_ge G d_Lw_gives_130 (fun c130 => absurd c130 ((show ¬ nI 96 ≤ nI (dN S t k) from nI_ge (by omega) (by omega)))) (fun c130 => ?_)
            refine x_aload0 G d_Lw_gives_133 ?_
            refine m_getr G d_Lw_gives_134 fl_Lw_26 rfl (by decide) rfl ?_
            refine x_iload5 G d_Lw_gives_137 ?_
            refine x_iload7 G d_Lw_gives_139 ?_
            refine x_sipush (v := nI 10000) G d_Lw_gives_141 rfl ?_
            refine x_icmp_ge G d_Lw_gives_144 (fun c144 => ?_) (fun c144 => absurd ((nI_le (by omega) (by omega))) c144)
            refine x_iload7 G d_Lw_gives_152 ?_
            refine x_sipush (v := nI 10000) G d_Lw_gives_154 rfl ?_
            refine x_icmp_ne G d_Lw_gives_157 (fun c157 => absurd (rfl) c157) (fun c157 => ?_)
            refine x_iload2 G d_Lw_gives_160 ?_
            refine x_goto G d_Lw_gives_161 ?_
            refine m_iast (dN S t k) G d_Lw_gives_178 rfl rfl ⟨by omega, by first | decide | omega⟩ ?_
            refine x_iinc5 (v := nI (dN S t (k + 1))) G d_Lw_gives_179 rfl hk (by rw [e1.1]; exact nI_1 _) ?_
            refine x_iinc6 (v := nI (k + 1)) G d_Lw_gives_182 rfl hk (nI_1 _) ?_
            refine x_goto G d_Lw_gives_185 ?_
            exact ih (k + 1) _ _ (by omega) (by omega) (fun i hi => by rw [updS_nk hi]; exact hF i hi) (fun i hi => by
              rw [updS_row, e1.2]
              unfold upd
              by_cases q : i = dN S t k
              · rw [if_pos q, if_pos q]; simp only [nmf, hlx, if_true, if_neg (show ¬ (1:Nat) = 0 by decide), if_neg (show ¬ (2:Nat) = 0 by decide), if_neg (show ¬ (2:Nat) = 1 by decide)]
              · rw [if_neg q, if_neg q]
                exact hV i (by omega))
          · rw [show encO (tn (S (ixT t 0))) (wT S t k) (vT S t k) = nI (10000 + 1) by rw [hw, hv]; unfold encO; rw [if_neg (by decide +kernel), if_neg (by decide +kernel), tn_nI (by omega), hlx]]
            refine x_istore7 G d_Lw_gives_26 rfl hk ?_
            refine x_iload7 G d_Lw_gives_28 ?_
            refine x_bipush (v := (-33)) G d_Lw_gives_30 rfl ?_
            refine x_icmp_ne G d_Lw_gives_32 (fun c32 => ?_) (fun c32 => absurd c32 ((nI_nn (by omega) (by decide +kernel))))
            refine x_iload7 G d_Lw_gives_70 ?_
            refine x_if_ge G d_Lw_gives_72 (fun c72 => ?_) (fun c72 => absurd ((nI_pos' (by omega))) c72)
            refine x_iload7 G d_Lw_gives_118 ?_
            refine x_if_lt G d_Lw_gives_120 (fun c120 => absurd c120 ((nI_pos (by omega)))) (fun c120 => ?_)
            refine x_iload5 G d_Lw_gives_123 ?_
            refine x_aload0 G d_Lw_gives_125 ?_
            refine m_getr G d_Lw_gives_126 fl_Lw_26 rfl (by decide) rfl ?_
            refine m_alen G d_Lw_gives_129 rfl (by decide) (by decide) rfl ?_
            refine x_icmp_ge G d_Lw_gives_130 (fun c130 => absurd c130 ((show ¬ nI 96 ≤ nI (dN S t k) from nI_ge (by omega) (by omega)))) (fun c130 => ?_)
            refine x_aload0 G d_Lw_gives_133 ?_
            refine m_getr G d_Lw_gives_134 fl_Lw_26 rfl (by decide) rfl ?_
            refine x_iload5 G d_Lw_gives_137 ?_
            refine x_iload7 G d_Lw_gives_139 ?_
            refine x_sipush (v := nI 10000) G d_Lw_gives_141 rfl ?_
            refine x_icmp_ge G d_Lw_gives_144 (fun c144 => ?_) (fun c144 => absurd ((nI_le (by omega) (by omega))) c144)
            refine x_iload7 G d_Lw_gives_152 ?_
            refine x_sipush (v := nI 10000) G d_Lw_gives_154 rfl ?_
            refine x_icmp_ne G d_Lw_gives_157 (fun c157 => ?_) (fun c157 => absurd c157 ((by decide +kernel)))
            refine x_iload7 G d_Lw_gives_164 ?_
            refine x_sipush (v := nI 10001) G d_Lw_gives_166 rfl ?_
            refine x_icmp_ne G d_Lw_gives_169 (fun c169 => absurd (rfl) c169) (fun c169 => ?_)
            refine x_iload3 G d_Lw_gives_172 ?_
            refine x_goto G d_Lw_gives_173 ?_
            refine m_iast (dN S t k) G d_Lw_gives_178 rfl rfl ⟨by omega, by first | decide | omega⟩ ?_
            refine x_iinc5 (v := nI (dN S t (k + 1))) G d_Lw_gives_179 rfl hk (by rw [e1.1]; exact nI_1 _) ?_
            refine x_iinc6 (v := nI (k + 1)) G d_Lw_gives_182 rfl hk (nI_1 _) ?_
            refine x_goto G d_Lw_gives_185 ?_
            exact ih (k + 1) _ _ (by omega) (by omega) (fun i hi => by rw [updS_nk hi]; exact hF i hi) (fun i hi => by
              rw [updS_row, e1.2]
              unfold upd
              by_cases q : i = dN S t k
              · rw [if_pos q, if_pos q]; simp only [nmf, hlx, if_true, if_neg (show ¬ (1:Nat) = 0 by decide), if_neg (show ¬ (2:Nat) = 0 by decide), if_neg (show ¬ (2:Nat) = 1 by decide)]
              · rw [if_neg q, if_neg q]
                exact hV i (by omega))
          · rw [show encO (tn (S (ixT t 0))) (wT S t k) (vT S t k) = nI (10000 + 2) by rw [hw, hv]; unfold encO; rw [if_neg (by decide +kernel), if_neg (by decide +kernel), tn_nI (by omega), hlx]]
            refine x_istore7 G d_Lw_gives_26 rfl hk ?_
            refine x_iload7 G d_Lw_gives_28 ?_
            refine x_bipush (v := (-33)) G d_Lw_gives_30 rfl ?_
            refine x_icmp_ne G d_Lw_gives_32 (fun c32 => ?_) (fun c32 => absurd c32 ((nI_nn (by omega) (by decide +kernel))))
            refine x_iload7 G d_Lw_gives_70 ?_
            refine x_if_ge G d_Lw_gives_72 (fun c72 => ?_) (fun c72 => absurd ((nI_pos' (by omega))) c72)
            refine x_iload7 G d_Lw_gives_118 ?_
            refine x_if_lt G d_Lw_gives_120 (fun c120 => absurd c120 ((nI_pos (by omega)))) (fun c120 => ?_)
            refine x_iload5 G d_Lw_gives_123 ?_
            refine x_aload0 G d_Lw_gives_125 ?_
            refine m_getr G d_Lw_gives_126 fl_Lw_26 rfl (by decide) rfl ?_
            refine m_alen G d_Lw_gives_129 rfl (by decide) (by decide) rfl ?_
            refine x_icmp_ge G d_Lw_gives_130 (fun c130 => absurd c130 ((show ¬ nI 96 ≤ nI (dN S t k) from nI_ge (by omega) (by omega)))) (fun c130 => ?_)
            refine x_aload0 G d_Lw_gives_133 ?_
            refine m_getr G d_Lw_gives_134 fl_Lw_26 rfl (by decide) rfl ?_
            refine x_iload5 G d_Lw_gives_137 ?_
            refine x_iload7 G d_Lw_gives_139 ?_
            refine x_sipush (v := nI 10000) G d_Lw_gives_141 rfl ?_
            refine x_icmp_ge G d_Lw_gives_144 (fun c144 => ?_) (fun c144 => absurd ((nI_le (by omega) (by omega))) c144)
            refine x_iload7 G d_Lw_gives_152 ?_
            refine x_sipush (v := nI 10000) G d_Lw_gives_154 rfl ?_
            refine x_icmp_ne G d_Lw_gives_157 (fun c157 => ?_) (fun c157 => absurd c157 ((by decide +kernel)))
            refine x_iload7 G d_Lw_gives_164 ?_
            refine x_sipush (v := nI 10001) G d_Lw_gives_166 rfl ?_
            refine x_icmp_ne G d_Lw_gives_169 (fun c169 => ?_) (fun c169 => absurd c169 ((by decide +kernel)))
            refine x_iload4 G d_Lw_gives_176 ?_
            refine m_iast (dN S t k) G d_Lw_gives_178 rfl rfl ⟨by omega, by first | decide | omega⟩ ?_
            refine x_iinc5 (v := nI (dN S t (k + 1))) G d_Lw_gives_179 rfl hk (by rw [e1.1]; exact nI_1 _) ?_
            refine x_iinc6 (v := nI (k + 1)) G d_Lw_gives_182 rfl hk (nI_1 _) ?_
            refine x_goto G d_Lw_gives_185 ?_
            exact ih (k + 1) _ _ (by omega) (by omega) (fun i hi => by rw [updS_nk hi]; exact hF i hi) (fun i hi => by
              rw [updS_row, e1.2]
              unfold upd
              by_cases q : i = dN S t k
              · rw [if_pos q, if_pos q]; simp only [nmf, hlx, if_true, if_neg (show ¬ (1:Nat) = 0 by decide), if_neg (show ¬ (2:Nat) = 0 by decide), if_neg (show ¬ (2:Nat) = 1 by decide)]
              · rw [if_neg q, if_neg q]
                exact hV i (by omega))
        · have e1 := ev_not (nm := (nmf (tn (S (ixT t 0))) a b c)) hw hv
          rw [show encO (tn (S (ixT t 0))) (wT S t k) (vT S t k) = -33 by rw [hw, hv]; exact (show -(nI 33) = -33 by decide +kernel)]
          refine x_istore7 G d_Lw_gives_26 rfl hk ?_
          refine x_iload7 G d_Lw_gives_28 ?_
          refine x_bipush (v := (-33)) G d_Lw_gives_30 rfl ?_
          refine x_icmp_ne G d_Lw_gives_32 (fun c32 => absurd (rfl) c32) (fun c32 => ?_)
          refine x_iload5 G d_Lw_gives_35 ?_
          refine x_iconst (v := nI 1) G d_Lw_gives_37 rfl ?_
          refine x_icmp_lt G d_Lw_gives_38 (fun c38 => absurd c38 ((fun q => by have q2 := (nlt (by omega) (by omega)).mp q; omega))) (fun c38 => ?_)
          refine x_aload0 G d_Lw_gives_41 ?_
          refine m_getr G d_Lw_gives_42 fl_Lw_26 rfl (by decide) rfl ?_
          refine x_iload5 G d_Lw_gives_45 ?_
          refine x_iconst (v := nI 1) G d_Lw_gives_47 rfl ?_
          refine x_isub G d_Lw_gives_48 ?_
          refine x_aload0 G d_Lw_gives_49 ?_
          refine m_getr G d_Lw_gives_50 fl_Lw_26 rfl (by decide) rfl ?_
          refine x_iload5 G d_Lw_gives_53 ?_
          refine x_iconst (v := nI 1) G d_Lw_gives_55 rfl ?_
          refine x_isub G d_Lw_gives_56 ?_
          refine m_iald (dN S t k - 1) G d_Lw_gives_57 rfl (pk_sub hd1) ⟨by omega, by first | decide | omega⟩ ?_
          rw [hV (dN S t k - 1) (by omega)]
          refine x_if_ne G d_Lw_gives_58 (fun c58 => ?_) (fun c58 => ?_)
          · refine x_iconst (v := nI 0) G d_Lw_gives_65 rfl ?_
            refine m_iast (dN S t k - 1) G d_Lw_gives_66 rfl (pk_sub hd1) ⟨by omega, by first | decide | omega⟩ ?_
            refine x_goto G d_Lw_gives_67 ?_
            refine x_iinc6 (v := nI (k + 1)) G d_Lw_gives_182 rfl hk (nI_1 _) ?_
            refine x_goto G d_Lw_gives_185 ?_
            rw [show nI (dN S t k) = nI (dN S t (k + 1)) from by rw [e1.1]]
            exact ih (k + 1) _ _ (by omega) (by omega) (fun i hi => by rw [updS_nk hi]; exact hF i hi) (fun i hi => by
              rw [updS_row, e1.2]
              unfold upd
              by_cases q : i = dN S t k - 1
              · rw [if_pos q, if_pos q]; simp [bI, nI_0, nI1, c58]
              · rw [if_neg q, if_neg q]
                exact hV i (by omega))
          · refine x_iconst (v := nI 1) G d_Lw_gives_61 rfl ?_
            refine x_goto G d_Lw_gives_62 ?_
            refine m_iast (dN S t k - 1) G d_Lw_gives_66 rfl (pk_sub hd1) ⟨by omega, by first | decide | omega⟩ ?_
            refine x_goto G d_Lw_gives_67 ?_
            refine x_iinc6 (v := nI (k + 1)) G d_Lw_gives_182 rfl hk (nI_1 _) ?_
            refine x_goto G d_Lw_gives_185 ?_
            rw [show nI (dN S t k) = nI (dN S t (k + 1)) from by rw [e1.1]]
            exact ih (k + 1) _ _ (by omega) (by omega) (fun i hi => by rw [updS_nk hi]; exact hF i hi) (fun i hi => by
              rw [updS_row, e1.2]
              unfold upd
              by_cases q : i = dN S t k - 1
              · rw [if_pos q, if_pos q]; simp [bI, nI_0, nI1, c58]
              · rw [if_neg q, if_neg q]
                exact hV i (by omega))
        · obtain ⟨cl1, cl2, cl3⟩ := isSg_lt hsg
          have e1 := ev_sgn (nm := (nmf (tn (S (ixT t 0))) a b c)) hw hv hsg
          rw [show encO (tn (S (ixT t 0))) (wT S t k) (vT S t k) = -nI cc by rw [hw, hv]; rfl]
          have hng : -nI cc < 0 := neg_nI cl3 (by omega)
          have h33 : ¬ -nI cc = -33 := fun q => by
            have q2 := congrArg (fun z => -z) q
            simp only [Int32.neg_neg] at q2
            have q3 := (neq (a := cc) (b := 33) (by omega) (by omega)).mp q2
            omega
          refine x_istore7 G d_Lw_gives_26 rfl hk ?_
          refine x_iload7 G d_Lw_gives_28 ?_
          refine x_bipush (v := (-33)) G d_Lw_gives_30 rfl ?_
          refine x_icmp_ne G d_Lw_gives_32 (fun c32 => ?_) (fun c32 => absurd c32 (h33))
          refine x_iload7 G d_Lw_gives_70 ?_
          refine x_if_ge G d_Lw_gives_72 (fun c72 => absurd c72 ((fun q => by rw [Int32.le_iff_toInt_le] at q; rw [Int32.lt_iff_toInt_lt] at hng; omega))) (fun c72 => ?_)
          refine x_iload5 G d_Lw_gives_75 ?_
          refine x_iconst (v := nI 2) G d_Lw_gives_77 rfl ?_
          refine x_icmp_lt G d_Lw_gives_78 (fun c78 => absurd c78 ((fun q => by have q2 := (nlt (by omega) (by omega)).mp q; omega))) (fun c78 => ?_)
          refine x_iinc5 (v := nI (dN S t k - 1)) G d_Lw_gives_81 rfl hk (by rw [show dN S t k = (dN S t k - 1) + 1 by omega]; exact pk_m1 _) ?_
          refine x_aload0 G d_Lw_gives_84 ?_
          refine m_getr G d_Lw_gives_85 fl_Lw_26 rfl (by decide) rfl ?_
          refine x_iload5 G d_Lw_gives_88 ?_
          refine x_iconst (v := nI 1) G d_Lw_gives_90 rfl ?_
          refine x_isub G d_Lw_gives_91 ?_
          refine x_iload7 G d_Lw_gives_92 ?_
          refine x_ineg G d_Lw_gives_94 ?_
          rw [Int32.neg_neg]
          refine x_aload0 G d_Lw_gives_95 ?_
          refine m_getr G d_Lw_gives_96 fl_Lw_26 rfl (by decide) rfl ?_
          refine x_iload5 G d_Lw_gives_99 ?_
          refine x_iconst (v := nI 1) G d_Lw_gives_101 rfl ?_
          refine x_isub G d_Lw_gives_102 ?_
          refine m_iald (dN S t k - 2) G d_Lw_gives_103 rfl (pk_sub (by omega)) ⟨by omega, by first | decide | omega⟩ ?_
          rw [hV (dN S t k - 2) (by omega)]
          refine x_aload0 G d_Lw_gives_104 ?_
          refine m_getr G d_Lw_gives_105 fl_Lw_26 rfl (by decide) rfl ?_
          refine x_iload5 G d_Lw_gives_108 ?_
          refine m_iald (dN S t k - 1) G d_Lw_gives_110 rfl rfl ⟨by omega, by first | decide | omega⟩ ?_
          rw [hV (dN S t k - 1) (by omega)]
          refine m_callS_pi (p_Lw_join (kg κ) (d - 1) (by omega) σ1 cc hsg _ _) G d_Lw_gives_111 lk_Lw_49 (by omega) rfl (Nat.le_of_ble_eq_true rfl) hx ?_
          refine m_iast (dN S t k - 2) G d_Lw_gives_114 rfl (pk_sub (by omega)) ⟨by omega, by first | decide | omega⟩ ?_
          refine x_goto G d_Lw_gives_115 ?_
          refine x_iinc6 (v := nI (k + 1)) G d_Lw_gives_182 rfl hk (nI_1 _) ?_
          refine x_goto G d_Lw_gives_185 ?_
          rw [show nI (dN S t k - 1) = nI (dN S t (k + 1)) from by rw [e1.1]]
          exact ih (k + 1) _ _ (by omega) (by omega) (fun i hi => by rw [updS_nk hi]; exact hF i hi) (fun i hi => by
            rw [updS_row, e1.2]
            unfold upd
            by_cases q : i = dN S t k - 2
            · rw [if_pos q, if_pos q]
            · rw [if_neg q, if_neg q]
              exact hV i (by omega))
  exact hloop (mT S t + 1) 0 σ none (Nat.zero_le _) (by omega) (fun _ _ => rfl) (fun i hi => absurd hi (Nat.not_lt_zero _))
