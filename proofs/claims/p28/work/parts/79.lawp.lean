/-! the law's own loop -/
theorem prB_len (bd : Bd) (b : List Nat) (s : Nat) : (prB bd b s).1.length = bd.1.length := by
  unfold prB
  split
  · exact List.length_set
  · exact List.length_set
theorem wkF_len (b : List Nat) : ∀ (fu s n : Nat) (bd : Bd), (wkF b fu s n bd).2.2.1.length = bd.1.length
  | 0, _, _, _ => rfl
  | fu + 1, s, n, bd => by
    rw [wkF]
    split
    · rfl
    · split
      · rw [wkF_len b fu]
        exact prB_len bd b s
      · rfl
def okR (r : Nat × Bd) (bd : Bd) : Prop := ((r.1 = 0 ∧ r.2 = bd) ∨ r.1 = 1) ∧ (1 ≤ bd.1.length → bd.1.length ≤ 4 → 1 ≤ r.2.1.length ∧ r.2.1.length ≤ 4)
theorem okR_0 (bd : Bd) : okR (0, bd) bd := ⟨Or.inl ⟨rfl, rfl⟩, fun h1 h2 => ⟨h1, h2⟩⟩
theorem okR_1 {bd2 bd : Bd} (h : bd2.1.length = bd.1.length) : okR (1, bd2) bd := ⟨Or.inr rfl, fun h1 h2 => by
  show 1 ≤ bd2.1.length ∧ bd2.1.length ≤ 4
  omega⟩
theorem actX_ok (v : Int32) (bd : Bd) : okR (actX v bd) bd := by
  unfold actX
  split
  · exact okR_1 List.length_set
  · exact okR_0 bd
theorem actK_ok (v : Int32) (bd : Bd) : okR (actK v bd) bd := by
  unfold actK
  split
  · exact okR_0 bd
  · exact okR_1 List.length_set
theorem actW_ok (v : Int32) (bd : Bd) (c0 c1 : Nat) : okR (actW v bd c0 c1) bd := by
  unfold actW
  exact okR_1 (wkF_len _ _ _ _ _)
theorem actN_ok (v : Int32) (bd : Bd) : okR (actN v bd) bd := by
  unfold actN
  split
  · exact okR_0 bd
  · refine ⟨Or.inr rfl, fun h1 h2 => ?_⟩
    show 1 ≤ (bd.1 ++ [_]).length ∧ (bd.1 ++ [_]).length ≤ 4
    rw [List.length_append, List.length_singleton]
    omega
theorem actR_ok (v : Int32) (bd : Bd) : okR (actR v bd) bd := by
  unfold actR
  repeat' split
  all_goals first
    | exact actX_ok v bd
    | exact actK_ok v bd
    | exact actW_ok v bd _ _
    | exact actN_ok v bd
section LB
variable {P : Sk} {f : St} {a Ln : Nat} {xs : Nat → Int32} {L81 : St → Int32 → Prop} {x6 x7 x8 v : Int32} {x4 : Int64} {i : Nat}
theorem pl_286 {A : Ab} (C : CompIs f a A) (hL : ∀ g, CompIs g a A → L81 g (nI (i + 1))) : jL_law_286 P Ln xs a L81 (nI i) v x4 x6 x7 x8 f := by
  unfold jL_law_286
  refine pb_count (q := 3) (v := nI (3 * smL lnW A.1.1 A.1.1.length)) C (by decide) rfl (fun g1 C1 => ?_)
  refine pb_count (q := 2) (v := nI (3 * smL lnW A.1.1 A.1.1.length)) C1 (by decide) rfl (fun g2 C2 => ?_)
  change _ ∧ _
  refine ⟨fun q => absurd rfl q, fun _ => ?_⟩
  refine pb_count (q := 2) (v := nI (3 * smL lnW A.1.1 A.1.1.length)) C2 (by decide) rfl (fun g3 C3 => ?_)
  refine pb_count (q := 1) (v := nI (smL lnW A.1.1 A.1.1.length)) C3 (by decide) rfl (fun g4 C4 => ?_)
  change _ ∧ _
  have e : (3 : Int32) * nI (smL lnW A.1.1 A.1.1.length) = nI (3 * smL lnW A.1.1 A.1.1.length) := nI_mul 3 _
  rw [e]
  refine ⟨fun _ => ?_, fun q => absurd rfl q⟩
  intro y ey
  rw [nI_1] at ey
  rw [ey]
  exact hL g4 C4
theorem pl_237 {A : Ab} (hx : IsComp P a) (C : CompIs f a A) (h1 : 1 ≤ A.1.1.length) (hL : ∀ g hs sn b, CompIs g a (A.1, hs, sn, b) → L81 g (nI (i + 1))) : jL_law_237 P Ln xs a L81 (nI i) v x4 x6 x7 f := by
  have h6 := C.2.2.2.2.2.1.1
  unfold jL_law_237
  refine pb_count (q := 0) (v := nI A.1.1.length) C (by decide) rfl (fun g1 C1 => ?_)
  refine pb_low (by omega) (by omega) ?_
  have hl : lowN (v >>> (12 &&& 31)) A.1.1.length < A.1.1.length := lowN_lt _ (by omega)
  refine ⟨A, _, C1, rfl, hl, fun g2 C2 => ?_⟩
  change _ ∧ _
  refine ⟨fun q => absurd q (by decide), fun _ => ⟨fun _ => ?_, fun _ => ?_⟩⟩
  · exact pl_286 C2 (fun g3 C3 => hL g3 _ _ _ C3)
  · refine pb_low (n := 3) (by decide) (by decide) ?_
    refine ⟨A, _, _, C2, rfl, rfl, hl, lowN_lt _ (by decide), fun g3 hs sn b C3 => ?_⟩
    change _ ∧ _
    exact ⟨fun q => absurd q (by decide), fun _ => pl_286 C3 (fun g4 C4 => hL g4 _ _ _ C4)⟩
theorem pl_168 {A : Ab} {b : List Nat} (hx : IsComp P a) (h1 : 1 ≤ A.1.1.length) (h4 : A.1.1.length ≤ 4) (C : CompIs f a (acA (actR v A.1) A b)) (hL : ∀ g hs sn b, CompIs g a ((actR v A.1).2, hs, sn, b) → L81 g (nI (i + 1))) : jL_law_168 P Ln xs a L81 (nI i) v (tl A.1) x6 (nI (actR v A.1).1) f := by
  have hR := actR_ok v A.1
  have hlen := (hR.2 h1 h4).1
  unfold jL_law_168
  refine ⟨fun _ => pl_237 hx C hlen hL, fun q => ⟨fun _ => pl_237 hx C hlen hL, fun _ => ?_⟩⟩
  have r1 : (actR v A.1).1 = 1 := by
    rcases hR.1 with r | r
    · rw [r.1] at q
      exact absurd rfl q
    · exact r
  have C' : CompIs f a ((actR v A.1).2, svH A.2.1 A.1, A.2.2.1, b) := by
    have C9 := C
    unfold acA at C9
    rw [if_pos r1] at C9
    exact C9
  refine ⟨_, C', fun g1 C1 => ?_⟩
  refine pb_count (q := 6) (v := nI (svH A.2.1 A.1).length) C1 (by decide) rfl (fun g2 C2 => ?_)
  intro y ey
  have hp := svH_pos A.2.1 A.1
  refine pb_undo C2 hp (fun g3 C3 => ?_)
  have C3 : CompIs g3 a (bdAt (svH A.2.1 A.1) ((svH A.2.1 A.1).length - 1), (svH A.2.1 A.1).take ((svH A.2.1 A.1).length - 1), A.2.2.1, b) := C3
  rw [svH_last] at C3
  change _ ∧ _
  have e : nI ((svH A.2.1 A.1).length - 1) = y := by
    rw [ey]
    exact (pk_sub (b := 1) (by omega)).symm
  refine ⟨fun q2 => absurd e q2, fun _ => ?_⟩
  refine ⟨_, C3, fun g4 C4 => ?_⟩
  change _ ∧ _
  refine ⟨fun q2 => absurd (lg_self _) q2, fun _ => ?_⟩
  refine pb_act hx C4 h1 h4 (fun g5 b5 C5 => ?_)
  change _ ∧ _
  refine ⟨fun q2 => q ?_, fun _ => ?_⟩
  · exact q2
  · refine ⟨_, C5, fun g6 C6 => ?_⟩
    change _ ∧ _
    refine ⟨fun _ => ?_, fun q2 => absurd (lg_self _) q2⟩
    exact pl_237 hx C6 hlen hL
theorem pl_148 {A : Ab} {b : List Nat} {d : Int32} (hx : IsComp P a) (h1 : 1 ≤ A.1.1.length) (h4 : A.1.1.length ≤ 4) (C : CompIs f a (acA (actR v A.1) A b)) (hL : ∀ g hs sn b, CompIs g a ((actR v A.1).2, hs, sn, b) → L81 g (nI (i + 1))) (hd : x8 = d) : jL_law_148 P Ln xs a L81 (nI i) v (tl A.1) x6 (nI (actR v A.1).1) x8 d f := by
  unfold jL_law_148
  refine ⟨fun q => absurd hd q, fun _ => ⟨fun _ => pl_168 hx h1 h4 C hL, fun q => ?_⟩⟩
  have r2 : (actR v A.1).2 = A.1 := by
    rcases (actR_ok v A.1).1 with r | r
    · exact r.2
    · rw [r] at q
      exact absurd q (by decide)
  refine ⟨_, C, fun g1 C1 => ?_⟩
  change _ ∧ _
  have e : tl (acA (actR v A.1) A b).1 = tl A.1 := congrArg tl r2
  rw [e]
  exact ⟨fun _ => pl_168 hx h1 h4 C1 hL, fun q2 => absurd (lg_self _) q2⟩
end LB
def LJ (a : Nat) (g : St) (x2 : Int32) : Prop := ∃ A i, x2 = nI i ∧ i ≤ 32 ∧ CompIs g a A ∧ 1 ≤ A.1.1.length ∧ A.1.1.length ≤ 4
theorem law_body {P : Sk} {a Ln : Nat} {xs : Nat → Int32} {g : St} {x2 : Int32} (hx : IsComp P a) (hLn : Ln ≤ 260) (hI : LJ a g x2) : bL_law_81 P Ln xs a (fun g' z0 => LJ a g' z0 ∧ 32 - z0.toNatClampNeg < 32 - x2.toNatClampNeg) g x2 := by
  obtain ⟨A, i, rfl, hi, C, h1, h4⟩ := hI
  unfold bL_law_81
  rw [show (32 : Int32) = nI 32 from rfl, nI_leI (by decide) (by omega)]
  refine ⟨fun _ => trivial, fun q => ?_⟩
  have e : (1 : Int32) + nI i = nI (1 + i) := nI_add 1 i
  rw [e]
  refine ⟨⟨by omega, nI_nn (by omega)⟩, ?_⟩
  generalize cellV Ln xs (nI (1 + i)) = v
  refine ⟨_, C, fun g1 C1 => ?_⟩
  refine pb_count (q := 6) (v := nI A.2.1.length) C1 (by decide) rfl (fun g2 C2 => ?_)
  refine pb_act hx C2 h1 h4 (fun g3 b3 C3 => ?_)
  refine pb_count (q := 6) (v := nI (acA (actR v A.1) A b3).2.1.length) C3 (by decide) rfl (fun g4 C4 => ?_)
  change _ ∧ _
  have hlen := C.2.2.2.2.2.2.1
  have hR := actR_ok v A.1
  have hL : ∀ g hs sn b, CompIs g a ((actR v A.1).2, hs, sn, b) → (LJ a g (nI (i + 1)) ∧ 32 - (nI (i + 1)).toNatClampNeg < 32 - (nI i).toNatClampNeg) := by
    intro g hs sn b C'
    obtain ⟨k1, k2⟩ := hR.2 h1 h4
    refine ⟨⟨_, i + 1, rfl, by omega, C', k1, k2⟩, ?_⟩
    rw [nI_clamp (n := i + 1) (by omega), nI_clamp (n := i) (by omega)]
    omega
  rcases hR.1 with ⟨r0, -⟩ | r1
  · have el : (acA (actR v A.1) A b3).2.1 = A.2.1 := by
      unfold acA
      rw [if_neg (by rw [r0]; decide)]
    refine ⟨fun _ => pl_148 hx h1 h4 C4 hL (by rw [el]), fun q2 => ?_⟩
    rw [r0] at q2
    exact absurd rfl q2
  · have el : (acA (actR v A.1) A b3).2.1 = svH A.2.1 A.1 := by
      unfold acA
      rw [if_pos r1]
    have hs := svH_len A.2.1 A.1 hlen
    refine ⟨fun q2 => ?_, fun _ => ?_⟩
    · rw [r1] at q2
      exact absurd q2 (by decide)
    · rw [show (6 : Int32) = nI 6 from rfl, nI_leI (by decide) (by omega)]
      refine ⟨fun q2 => pl_148 hx h1 h4 C4 hL ?_, fun q2 => pl_148 hx h1 h4 C4 hL ?_⟩
      · rw [el, hs, if_neg (by omega)]
      · rw [el, hs, if_pos (by omega), nI_1]
def A0 : Ab := (([], 0, -1, -1), [], none, [])
theorem law_start {P : Sk} {a Ln : Nat} {xs : Nat → Int32} {f : St} (hx : IsComp P a) (hLn : Ln ≤ 260) (C : CompIs f a A0) : vL_law P Ln xs a f (LJ a) := by
  unfold vL_law
  refine ⟨⟨by omega, by decide⟩, ?_⟩
  generalize cellV Ln xs 0 = v
  refine pb_low (n := 6) (by decide) (by decide) ?_
  have hk : lowN v 6 < 6 := lowN_lt _ (by decide)
  generalize lowN v 6 = k at *
  have e : (50 : Int32) + nI k = nI (50 + k) := nI_add 50 k
  change kX7_append P f a (50 + nI k) _ XF
  rw [e]
  refine pb_append hx C (by omega) (by omega) (by show 0 < 60; decide) (fun v1 g1 C1 => ?_)
  refine pb_append (c := 58) hx C1 (by decide) (by decide) (by show 1 < 60; decide) (fun v2 g2 C2 => ?_)
  refine pb_stop0 C2 (fun g3 C3 => ?_)
  change _ ∧ _
  refine ⟨fun q => absurd rfl q, fun _ => ?_⟩
  refine pb_count (q := 6) (v := nI 0) C3 (by decide) rfl (fun g4 C4 => ?_)
  change _ ∧ _
  refine ⟨fun q => absurd rfl q, fun _ => ?_⟩
  obtain ⟨k1, k2, k3, k4⟩ := lay_ok hk
  refine pb_lay hx C4 k1 (by show 0 < 6; decide) (by
    show Dok ([50 + k, 58].getD 0 0 - 48) (wdT [50 + k, 58])
    rw [k2, k3]
    exact k4) (fun g5 C5 => ?_)
  change _ ∧ _
  refine ⟨fun q => absurd rfl q, fun _ => ?_⟩
  refine pb_count (q := 6) (v := nI 1) C5 (by decide) rfl (fun g6 C6 => ?_)
  change _ ∧ _
  refine ⟨fun q => absurd rfl q, fun _ => ?_⟩
  have C7 : CompIs g6 a (([([50 + k, 58].getD 0 0 - 48, wdT [50 + k, 58])], 0, -1, -1), [([], 0, -1, -1)], none, []) := C6
  rw [k2, k3] at C7
  refine ⟨_, C7, ?_⟩
  change _ ∧ _
  have es : shV (([(2 + k, [])], 0, -1, -1), [([], 0, -1, -1)], none, []) = FP.dconst1 := if_pos rfl
  rw [es]
  refine ⟨fun _ => ?_, fun q => q (by decide +kernel)⟩
  exact ⟨_, 0, rfl, by decide, C7, by show 1 ≤ 1; decide, by show 1 ≤ 4; decide⟩
theorem law_init {sz : Nat} {Pz : Sk} {f0 : St} (hz : sL Pz = []) : eL_law sz Pz f0 (fun P f => IsComp P (sz + 0) ∧ CompIs f (sz + 0) A0) := by
  unfold eL_law
  have cz : ∀ (P : Sk) c, (∀ i, i < c → sz + i ∈ sL P) → COk Pz P sz c := fun P c h => ⟨fun x hx => by rw [hz] at hx; exact absurd hx List.not_mem_nil, h⟩
  refine ⟨cz _ _ (fun i hi => absurd hi (Nat.not_lt_zero _)), fun P0 e0 g0 d0 => ?_⟩
  subst e0 d0
  have m0 := ob_new Pz (sz + 0) 7 0
  refine ⟨cz _ _ (fun i hi => by rw [show i = 0 by omega]; exact m0.1), ?_⟩
  refine uc_X7 m0 (fun P4 g4 H4 I4 t1 b2 b3 b4 b5 h2 h3 s4' => ?_)
  have tk : Tok [] := ⟨Nat.zero_le _, fun c hc => absurd hc List.not_mem_nil⟩
  have bk : Bok ([], 0, -1, -1) := ⟨Nat.zero_le _, fun x hx => absurd hx List.not_mem_nil⟩
  have hk : Hok [] := ⟨Nat.zero_le _, fun x hx => absurd hx List.not_mem_nil⟩
  exact ⟨I4, ⟨t1, fun i hi => absurd hi (Nat.not_lt_zero _)⟩, ⟨b2, b3, b4, b5, fun i hi => absurd hi (Nat.not_lt_zero _)⟩, ⟨0, by decide, h2, h3, fun i hi => absurd hi (Nat.not_lt_zero _)⟩, Or.inl ⟨rfl, s4'⟩, tk, bk, hk⟩
