/-! where the objects lie: each in a block of its own -/
def IsRow (P : Sk) (a : Nat) : Prop := Ob P a 3 ∧ sR P a 0 = some (a + 1) ∧ Ob P (a + 1) 9
theorem wfRow_o {P : Sk} {a : Nat} (h : IsRow P a) : Ob P a 3 := h.1
theorem wfRow_r0 {P : Sk} {a : Nat} (h : IsRow P a) : sR P a 0 = some (a + 1) := h.2.1
theorem wfRow_t0 {P : Sk} {a : Nat} (h : IsRow P a) : Ob P (a + 1) 9 := h.2.2
def IsWord (P : Sk) (a : Nat) : Prop := Ob P a 6 ∧ sR P a 0 = some (a + 1) ∧ IsRow P (a + 1) ∧ sN P (a + 1 + 1) = 24
theorem wfWord_o {P : Sk} {a : Nat} (h : IsWord P a) : Ob P a 6 := h.1
theorem wfWord_r0 {P : Sk} {a : Nat} (h : IsWord P a) : sR P a 0 = some (a + 1) := h.2.1
theorem wfWord_t0 {P : Sk} {a : Nat} (h : IsWord P a) : IsRow P (a + 1) := h.2.2.1
theorem wfWord_n0 {P : Sk} {a : Nat} (h : IsWord P a) : sN P (a + 1 + 1) = 24 := h.2.2.2
def IsTrace (P : Sk) (a : Nat) : Prop := Ob P a 5 ∧ sR P a 0 = some (a + 1) ∧ IsRow P (a + 1) ∧ sN P (a + 1 + 1) = 24 ∧ sR P a 1 = some (a + 3) ∧ IsRow P (a + 3) ∧ sN P (a + 3 + 1) = 24 ∧ sR P a 2 = some (a + 5) ∧ IsRow P (a + 5) ∧ sN P (a + 5 + 1) = 7 ∧ sR P a 3 = some (a + 7) ∧ IsRow P (a + 7) ∧ sN P (a + 7 + 1) = 7 ∧ sR P a 4 = some (a + 9) ∧ IsRow P (a + 9) ∧ sN P (a + 9 + 1) = 7 ∧ sR P a 5 = some (a + 11) ∧ IsRow P (a + 11) ∧ sN P (a + 11 + 1) = 7 ∧ sR P a 6 = some (a + 13) ∧ IsRow P (a + 13) ∧ sN P (a + 13 + 1) = 7
theorem wfTrace_o {P : Sk} {a : Nat} (h : IsTrace P a) : Ob P a 5 := h.1
theorem wfTrace_r0 {P : Sk} {a : Nat} (h : IsTrace P a) : sR P a 0 = some (a + 1) := h.2.1
theorem wfTrace_t0 {P : Sk} {a : Nat} (h : IsTrace P a) : IsRow P (a + 1) := h.2.2.1
theorem wfTrace_n0 {P : Sk} {a : Nat} (h : IsTrace P a) : sN P (a + 1 + 1) = 24 := h.2.2.2.1
theorem wfTrace_r1 {P : Sk} {a : Nat} (h : IsTrace P a) : sR P a 1 = some (a + 3) := h.2.2.2.2.1
theorem wfTrace_t1 {P : Sk} {a : Nat} (h : IsTrace P a) : IsRow P (a + 3) := h.2.2.2.2.2.1
theorem wfTrace_n1 {P : Sk} {a : Nat} (h : IsTrace P a) : sN P (a + 3 + 1) = 24 := h.2.2.2.2.2.2.1
theorem wfTrace_r2 {P : Sk} {a : Nat} (h : IsTrace P a) : sR P a 2 = some (a + 5) := h.2.2.2.2.2.2.2.1
theorem wfTrace_t2 {P : Sk} {a : Nat} (h : IsTrace P a) : IsRow P (a + 5) := h.2.2.2.2.2.2.2.2.1
theorem wfTrace_n2 {P : Sk} {a : Nat} (h : IsTrace P a) : sN P (a + 5 + 1) = 7 := h.2.2.2.2.2.2.2.2.2.1
theorem wfTrace_r3 {P : Sk} {a : Nat} (h : IsTrace P a) : sR P a 3 = some (a + 7) := h.2.2.2.2.2.2.2.2.2.2.1
theorem wfTrace_t3 {P : Sk} {a : Nat} (h : IsTrace P a) : IsRow P (a + 7) := h.2.2.2.2.2.2.2.2.2.2.2.1
theorem wfTrace_n3 {P : Sk} {a : Nat} (h : IsTrace P a) : sN P (a + 7 + 1) = 7 := h.2.2.2.2.2.2.2.2.2.2.2.2.1
theorem wfTrace_r4 {P : Sk} {a : Nat} (h : IsTrace P a) : sR P a 4 = some (a + 9) := h.2.2.2.2.2.2.2.2.2.2.2.2.2.1
theorem wfTrace_t4 {P : Sk} {a : Nat} (h : IsTrace P a) : IsRow P (a + 9) := h.2.2.2.2.2.2.2.2.2.2.2.2.2.2.1
theorem wfTrace_n4 {P : Sk} {a : Nat} (h : IsTrace P a) : sN P (a + 9 + 1) = 7 := h.2.2.2.2.2.2.2.2.2.2.2.2.2.2.2.1
theorem wfTrace_r5 {P : Sk} {a : Nat} (h : IsTrace P a) : sR P a 5 = some (a + 11) := h.2.2.2.2.2.2.2.2.2.2.2.2.2.2.2.2.1
theorem wfTrace_t5 {P : Sk} {a : Nat} (h : IsTrace P a) : IsRow P (a + 11) := h.2.2.2.2.2.2.2.2.2.2.2.2.2.2.2.2.2.1
theorem wfTrace_n5 {P : Sk} {a : Nat} (h : IsTrace P a) : sN P (a + 11 + 1) = 7 := h.2.2.2.2.2.2.2.2.2.2.2.2.2.2.2.2.2.2.1
theorem wfTrace_r6 {P : Sk} {a : Nat} (h : IsTrace P a) : sR P a 6 = some (a + 13) := h.2.2.2.2.2.2.2.2.2.2.2.2.2.2.2.2.2.2.2.1
theorem wfTrace_t6 {P : Sk} {a : Nat} (h : IsTrace P a) : IsRow P (a + 13) := h.2.2.2.2.2.2.2.2.2.2.2.2.2.2.2.2.2.2.2.2.1
theorem wfTrace_n6 {P : Sk} {a : Nat} (h : IsTrace P a) : sN P (a + 13 + 1) = 7 := h.2.2.2.2.2.2.2.2.2.2.2.2.2.2.2.2.2.2.2.2.2
def IsLoaf (P : Sk) (a : Nat) : Prop := Ob P a 2 ∧ sR P a 0 = some (a + 1) ∧ IsWord P (a + 1) ∧ sR P a 1 = some (a + 4) ∧ IsWord P (a + 4) ∧ sR P a 2 = some (a + 7) ∧ IsTrace P (a + 7)
theorem wfLoaf_o {P : Sk} {a : Nat} (h : IsLoaf P a) : Ob P a 2 := h.1
theorem wfLoaf_r0 {P : Sk} {a : Nat} (h : IsLoaf P a) : sR P a 0 = some (a + 1) := h.2.1
theorem wfLoaf_t0 {P : Sk} {a : Nat} (h : IsLoaf P a) : IsWord P (a + 1) := h.2.2.1
theorem wfLoaf_r1 {P : Sk} {a : Nat} (h : IsLoaf P a) : sR P a 1 = some (a + 4) := h.2.2.2.1
theorem wfLoaf_t1 {P : Sk} {a : Nat} (h : IsLoaf P a) : IsWord P (a + 4) := h.2.2.2.2.1
theorem wfLoaf_r2 {P : Sk} {a : Nat} (h : IsLoaf P a) : sR P a 2 = some (a + 7) := h.2.2.2.2.2.1
theorem wfLoaf_t2 {P : Sk} {a : Nat} (h : IsLoaf P a) : IsTrace P (a + 7) := h.2.2.2.2.2.2
def IsText (P : Sk) (a : Nat) : Prop := Ob P a 4 ∧ sR P a 0 = some (a + 1) ∧ IsRow P (a + 1) ∧ sN P (a + 1 + 1) = 60
theorem wfText_o {P : Sk} {a : Nat} (h : IsText P a) : Ob P a 4 := h.1
theorem wfText_r0 {P : Sk} {a : Nat} (h : IsText P a) : sR P a 0 = some (a + 1) := h.2.1
theorem wfText_t0 {P : Sk} {a : Nat} (h : IsText P a) : IsRow P (a + 1) := h.2.2.1
theorem wfText_n0 {P : Sk} {a : Nat} (h : IsText P a) : sN P (a + 1 + 1) = 60 := h.2.2.2
def IsBoard (P : Sk) (a : Nat) : Prop := Ob P a 0 ∧ sR P a 0 = some (a + 1) ∧ Ob P (a + 1) 11 ∧ sN P (a + 1) = 6 ∧ (∀ i, i < 6 → sR P (a + 1) i = some (a + 24 + 22 * i)) ∧ (∀ i, i < 6 → IsLoaf P (a + 24 + 22 * i)) ∧ sR P a 1 = some (a + 2) ∧ IsLoaf P (a + 2)
theorem wfBoard_o {P : Sk} {a : Nat} (h : IsBoard P a) : Ob P a 0 := h.1
theorem wfBoard_r0 {P : Sk} {a : Nat} (h : IsBoard P a) : sR P a 0 = some (a + 1) := h.2.1
theorem wfBoard_t0 {P : Sk} {a : Nat} (h : IsBoard P a) : Ob P (a + 1) 11 := h.2.2.1
theorem wfBoard_n0 {P : Sk} {a : Nat} (h : IsBoard P a) : sN P (a + 1) = 6 := h.2.2.2.1
theorem wfBoard_ar {P : Sk} {a : Nat} (h : IsBoard P a) : ∀ i, i < 6 → sR P (a + 1) i = some (a + 24 + 22 * i) := h.2.2.2.2.1
theorem wfBoard_at {P : Sk} {a : Nat} (h : IsBoard P a) : ∀ i, i < 6 → IsLoaf P (a + 24 + 22 * i) := h.2.2.2.2.2.1
theorem wfBoard_r1 {P : Sk} {a : Nat} (h : IsBoard P a) : sR P a 1 = some (a + 2) := h.2.2.2.2.2.2.1
theorem wfBoard_t1 {P : Sk} {a : Nat} (h : IsBoard P a) : IsLoaf P (a + 2) := h.2.2.2.2.2.2.2
def IsHist (P : Sk) (a : Nat) : Prop := Ob P a 1 ∧ sR P a 0 = some (a + 1) ∧ Ob P (a + 1) 12 ∧ sN P (a + 1) = 6 ∧ (∀ i, i < 6 → sR P (a + 1) i = some (a + 158 + 156 * i)) ∧ (∀ i, i < 6 → IsBoard P (a + 158 + 156 * i)) ∧ sR P a 1 = some (a + 2) ∧ IsBoard P (a + 2)
theorem wfHist_o {P : Sk} {a : Nat} (h : IsHist P a) : Ob P a 1 := h.1
theorem wfHist_r0 {P : Sk} {a : Nat} (h : IsHist P a) : sR P a 0 = some (a + 1) := h.2.1
theorem wfHist_t0 {P : Sk} {a : Nat} (h : IsHist P a) : Ob P (a + 1) 12 := h.2.2.1
theorem wfHist_n0 {P : Sk} {a : Nat} (h : IsHist P a) : sN P (a + 1) = 6 := h.2.2.2.1
theorem wfHist_ar {P : Sk} {a : Nat} (h : IsHist P a) : ∀ i, i < 6 → sR P (a + 1) i = some (a + 158 + 156 * i) := h.2.2.2.2.1
theorem wfHist_at {P : Sk} {a : Nat} (h : IsHist P a) : ∀ i, i < 6 → IsBoard P (a + 158 + 156 * i) := h.2.2.2.2.2.1
theorem wfHist_r1 {P : Sk} {a : Nat} (h : IsHist P a) : sR P a 1 = some (a + 2) := h.2.2.2.2.2.2.1
theorem wfHist_t1 {P : Sk} {a : Nat} (h : IsHist P a) : IsBoard P (a + 2) := h.2.2.2.2.2.2.2
def IsComp (P : Sk) (a : Nat) : Prop := Ob P a 7 ∧ sR P a 0 = some (a + 1) ∧ IsText P (a + 1) ∧ sR P a 1 = some (a + 4) ∧ IsBoard P (a + 4) ∧ sR P a 2 = some (a + 160) ∧ IsHist P (a + 160) ∧ sR P a 3 = some (a + 1254) ∧ IsBoard P (a + 1254) ∧ sR P a 5 = some (a + 1410) ∧ IsLoaf P (a + 1410) ∧ sR P a 6 = some (a + 1432) ∧ IsWord P (a + 1432) ∧ sR P a 7 = some (a + 1435) ∧ IsWord P (a + 1435)
theorem wfComp_o {P : Sk} {a : Nat} (h : IsComp P a) : Ob P a 7 := h.1
theorem wfComp_r0 {P : Sk} {a : Nat} (h : IsComp P a) : sR P a 0 = some (a + 1) := h.2.1
theorem wfComp_t0 {P : Sk} {a : Nat} (h : IsComp P a) : IsText P (a + 1) := h.2.2.1
theorem wfComp_r1 {P : Sk} {a : Nat} (h : IsComp P a) : sR P a 1 = some (a + 4) := h.2.2.2.1
theorem wfComp_t1 {P : Sk} {a : Nat} (h : IsComp P a) : IsBoard P (a + 4) := h.2.2.2.2.1
theorem wfComp_r2 {P : Sk} {a : Nat} (h : IsComp P a) : sR P a 2 = some (a + 160) := h.2.2.2.2.2.1
theorem wfComp_t2 {P : Sk} {a : Nat} (h : IsComp P a) : IsHist P (a + 160) := h.2.2.2.2.2.2.1
theorem wfComp_r3 {P : Sk} {a : Nat} (h : IsComp P a) : sR P a 3 = some (a + 1254) := h.2.2.2.2.2.2.2.1
theorem wfComp_t3 {P : Sk} {a : Nat} (h : IsComp P a) : IsBoard P (a + 1254) := h.2.2.2.2.2.2.2.2.1
theorem wfComp_r5 {P : Sk} {a : Nat} (h : IsComp P a) : sR P a 5 = some (a + 1410) := h.2.2.2.2.2.2.2.2.2.1
theorem wfComp_t5 {P : Sk} {a : Nat} (h : IsComp P a) : IsLoaf P (a + 1410) := h.2.2.2.2.2.2.2.2.2.2.1
theorem wfComp_r6 {P : Sk} {a : Nat} (h : IsComp P a) : sR P a 6 = some (a + 1432) := h.2.2.2.2.2.2.2.2.2.2.2.1
theorem wfComp_t6 {P : Sk} {a : Nat} (h : IsComp P a) : IsWord P (a + 1432) := h.2.2.2.2.2.2.2.2.2.2.2.2.1
theorem wfComp_r7 {P : Sk} {a : Nat} (h : IsComp P a) : sR P a 7 = some (a + 1435) := h.2.2.2.2.2.2.2.2.2.2.2.2.2.1
theorem wfComp_t7 {P : Sk} {a : Nat} (h : IsComp P a) : IsWord P (a + 1435) := h.2.2.2.2.2.2.2.2.2.2.2.2.2.2
def IsModel (P : Sk) (a : Nat) : Prop := Ob P a 8 ∧ sR P a 1 = some (a + 1) ∧ Ob P (a + 1) 9 ∧ sN P (a + 1) = 160 ∧ sR P a 2 = some (a + 2) ∧ Ob P (a + 2) 9 ∧ sN P (a + 2) = 960 ∧ sR P a 4 = some (a + 3) ∧ Ob P (a + 3) 9 ∧ sN P (a + 3) = 160 ∧ sR P a 6 = some (a + 4) ∧ Ob P (a + 4) 9 ∧ sN P (a + 4) = 60 ∧ sR P a 8 = some (a + 5) ∧ Ob P (a + 5) 9 ∧ sN P (a + 5) = 50 ∧ sR P a 11 = some (a + 6) ∧ Ob P (a + 6) 9 ∧ sN P (a + 6) = 7 ∧ sR P a 12 = some (a + 7) ∧ Ob P (a + 7) 9 ∧ sN P (a + 7) = 7 ∧ sR P a 13 = some (a + 8) ∧ Ob P (a + 8) 9 ∧ sN P (a + 8) = 7 ∧ sR P a 16 = some (a + 9) ∧ Ob P (a + 9) 9 ∧ sN P (a + 9) = 50 ∧ sR P a 20 = some (a + 10) ∧ Ob P (a + 10) 9 ∧ sN P (a + 10) = 132
theorem wfModel_o {P : Sk} {a : Nat} (h : IsModel P a) : Ob P a 8 := h.1
theorem wfModel_r1 {P : Sk} {a : Nat} (h : IsModel P a) : sR P a 1 = some (a + 1) := h.2.1
theorem wfModel_t1 {P : Sk} {a : Nat} (h : IsModel P a) : Ob P (a + 1) 9 := h.2.2.1
theorem wfModel_n1 {P : Sk} {a : Nat} (h : IsModel P a) : sN P (a + 1) = 160 := h.2.2.2.1
theorem wfModel_r2 {P : Sk} {a : Nat} (h : IsModel P a) : sR P a 2 = some (a + 2) := h.2.2.2.2.1
theorem wfModel_t2 {P : Sk} {a : Nat} (h : IsModel P a) : Ob P (a + 2) 9 := h.2.2.2.2.2.1
theorem wfModel_n2 {P : Sk} {a : Nat} (h : IsModel P a) : sN P (a + 2) = 960 := h.2.2.2.2.2.2.1
theorem wfModel_r4 {P : Sk} {a : Nat} (h : IsModel P a) : sR P a 4 = some (a + 3) := h.2.2.2.2.2.2.2.1
theorem wfModel_t4 {P : Sk} {a : Nat} (h : IsModel P a) : Ob P (a + 3) 9 := h.2.2.2.2.2.2.2.2.1
theorem wfModel_n4 {P : Sk} {a : Nat} (h : IsModel P a) : sN P (a + 3) = 160 := h.2.2.2.2.2.2.2.2.2.1
theorem wfModel_r6 {P : Sk} {a : Nat} (h : IsModel P a) : sR P a 6 = some (a + 4) := h.2.2.2.2.2.2.2.2.2.2.1
theorem wfModel_t6 {P : Sk} {a : Nat} (h : IsModel P a) : Ob P (a + 4) 9 := h.2.2.2.2.2.2.2.2.2.2.2.1
theorem wfModel_n6 {P : Sk} {a : Nat} (h : IsModel P a) : sN P (a + 4) = 60 := h.2.2.2.2.2.2.2.2.2.2.2.2.1
theorem wfModel_r8 {P : Sk} {a : Nat} (h : IsModel P a) : sR P a 8 = some (a + 5) := h.2.2.2.2.2.2.2.2.2.2.2.2.2.1
theorem wfModel_t8 {P : Sk} {a : Nat} (h : IsModel P a) : Ob P (a + 5) 9 := h.2.2.2.2.2.2.2.2.2.2.2.2.2.2.1
theorem wfModel_n8 {P : Sk} {a : Nat} (h : IsModel P a) : sN P (a + 5) = 50 := h.2.2.2.2.2.2.2.2.2.2.2.2.2.2.2.1
theorem wfModel_r11 {P : Sk} {a : Nat} (h : IsModel P a) : sR P a 11 = some (a + 6) := h.2.2.2.2.2.2.2.2.2.2.2.2.2.2.2.2.1
theorem wfModel_t11 {P : Sk} {a : Nat} (h : IsModel P a) : Ob P (a + 6) 9 := h.2.2.2.2.2.2.2.2.2.2.2.2.2.2.2.2.2.1
theorem wfModel_n11 {P : Sk} {a : Nat} (h : IsModel P a) : sN P (a + 6) = 7 := h.2.2.2.2.2.2.2.2.2.2.2.2.2.2.2.2.2.2.1
theorem wfModel_r12 {P : Sk} {a : Nat} (h : IsModel P a) : sR P a 12 = some (a + 7) := h.2.2.2.2.2.2.2.2.2.2.2.2.2.2.2.2.2.2.2.1
theorem wfModel_t12 {P : Sk} {a : Nat} (h : IsModel P a) : Ob P (a + 7) 9 := h.2.2.2.2.2.2.2.2.2.2.2.2.2.2.2.2.2.2.2.2.1
theorem wfModel_n12 {P : Sk} {a : Nat} (h : IsModel P a) : sN P (a + 7) = 7 := h.2.2.2.2.2.2.2.2.2.2.2.2.2.2.2.2.2.2.2.2.2.1
theorem wfModel_r13 {P : Sk} {a : Nat} (h : IsModel P a) : sR P a 13 = some (a + 8) := h.2.2.2.2.2.2.2.2.2.2.2.2.2.2.2.2.2.2.2.2.2.2.1
theorem wfModel_t13 {P : Sk} {a : Nat} (h : IsModel P a) : Ob P (a + 8) 9 := h.2.2.2.2.2.2.2.2.2.2.2.2.2.2.2.2.2.2.2.2.2.2.2.1
theorem wfModel_n13 {P : Sk} {a : Nat} (h : IsModel P a) : sN P (a + 8) = 7 := h.2.2.2.2.2.2.2.2.2.2.2.2.2.2.2.2.2.2.2.2.2.2.2.2.1
theorem wfModel_r16 {P : Sk} {a : Nat} (h : IsModel P a) : sR P a 16 = some (a + 9) := h.2.2.2.2.2.2.2.2.2.2.2.2.2.2.2.2.2.2.2.2.2.2.2.2.2.1
theorem wfModel_t16 {P : Sk} {a : Nat} (h : IsModel P a) : Ob P (a + 9) 9 := h.2.2.2.2.2.2.2.2.2.2.2.2.2.2.2.2.2.2.2.2.2.2.2.2.2.2.1
theorem wfModel_n16 {P : Sk} {a : Nat} (h : IsModel P a) : sN P (a + 9) = 50 := h.2.2.2.2.2.2.2.2.2.2.2.2.2.2.2.2.2.2.2.2.2.2.2.2.2.2.2.1
theorem wfModel_r20 {P : Sk} {a : Nat} (h : IsModel P a) : sR P a 20 = some (a + 10) := h.2.2.2.2.2.2.2.2.2.2.2.2.2.2.2.2.2.2.2.2.2.2.2.2.2.2.2.2.1
theorem wfModel_t20 {P : Sk} {a : Nat} (h : IsModel P a) : Ob P (a + 10) 9 := h.2.2.2.2.2.2.2.2.2.2.2.2.2.2.2.2.2.2.2.2.2.2.2.2.2.2.2.2.2.1
theorem wfModel_n20 {P : Sk} {a : Nat} (h : IsModel P a) : sN P (a + 10) = 132 := h.2.2.2.2.2.2.2.2.2.2.2.2.2.2.2.2.2.2.2.2.2.2.2.2.2.2.2.2.2.2
/-- the loaf, or the board, that is meant by a number -/
def atB (b : Nat) (i : Int32) : Nat := if i < 0 ∨ 6 ≤ i then b + 2 else b + 24 + 22 * i.toNatClampNeg
def atH (h : Nat) (i : Int32) : Nat := if i < 0 ∨ 6 ≤ i then h + 2 else h + 158 + 156 * i.toNatClampNeg
theorem i6_lt {i : Int32} (h : ¬ (i < 0 ∨ 6 ≤ i)) : i.toNatClampNeg < 6 := by
  have h1 : ¬ i < 0 := fun q => h (Or.inl q)
  have h2 : ¬ (6 : Int32) ≤ i := fun q => h (Or.inr q)
  obtain ⟨j, hj, rfl⟩ := nI_of h1
  rw [nI_clamp hj]
  have h3 : ¬ nI 6 ≤ nI j := h2
  rw [nI_leI (by omega) hj] at h3
  omega
theorem i6_in {i : Int32} (h : ¬ (i < 0 ∨ 6 ≤ i)) : vp_in i 6 := fun q => q.elim (fun q => h (Or.inl q)) (fun q => absurd (i6_lt h) (by omega))
theorem is_atB {P : Sk} {b : Nat} (h : IsBoard P b) (i : Int32) : IsLoaf P (atB b i) := by
  unfold atB
  by_cases hi : i < 0 ∨ 6 ≤ i
  · rw [if_pos hi]; exact wfBoard_t1 h
  · rw [if_neg hi]; exact wfBoard_at h _ (i6_lt hi)
theorem is_atH {P : Sk} {b : Nat} (h : IsHist P b) (i : Int32) : IsBoard P (atH b i) := by
  unfold atH
  by_cases hi : i < 0 ∨ 6 ≤ i
  · rw [if_pos hi]; exact wfHist_t1 h
  · rw [if_neg hi]; exact wfHist_at h _ (i6_lt hi)
