def vL_low (P : Sk) (f : St) (p0 : Int32) (p1 : Int32) (K : Int32 → St → Prop) : Prop :=
  (¬ p1 = 0) ∧ (K ((p0 &&& 2147483647) - (p0 &&& 2147483647) / p1 * p1) f)
set_option maxRecDepth 20000 in
set_option maxHeartbeats 4000000 in
theorem mL_low (l : Launch) (G : Gl) (P : Sk) (f : St) (sz : Nat) (p0 : Int32) (p1 : Int32) (K : Int32 → St → Prop) (h : vL_low P f p0 p1 K)  :
  Met l yL_low (wU yL_low cL_low 2 (some .int)) rmL_low (PcW G P f sz [.int p0, .int p1]) (QcI G P sz K) 0 0 (frA P sz) := by
  refine v_met (own := RL) [.int p0, .int p1] (by decide +kernel) rfl (Nat.le_of_ble_eq_true rfl) (fun p e s m args below meth c hsz o hr hnm => ?_)
  refine v_lv (lv2 := [(0, .int p0), (1, .int p1)]) rfl ?_
  unfold vL_low at h
  refine v_iload_n o 0 dL_low_0 rfl ?_
  refine v_ldc o (v := 2147483647) dL_low_1 (mU 581 (by decide +kernel) rfl) ?_
  refine v_iand o dL_low_3 ?_
  refine v_iload_n o 1 dL_low_4 rfl ?_
  refine v_irem o dL_low_5 h.1 ?_
  replace h := h.2
  exact v_iret o rfl hr dL_low_6 h
abbrev kL_low := @vL_low
abbrev metL_low := @mL_low
/-- the lower bits of a number, by a bound -/
def lowN (v : Int32) (n : Nat) : Nat := v.toBitVec.toNat % 2 ^ 31 % n
theorem lowN_lt (v : Int32) {n : Nat} (h : 0 < n) : lowN v n < n := Nat.mod_lt _ h
theorem pb_low {P : Sk} {f : St} {v : Int32} {n : Nat} {K : Int32 → St → Prop} (h0 : 0 < n) (hn : n < 2 ^ 31) (h : K (nI (lowN v n)) f) : kL_low P f v (nI n) K := by
  show vL_low P f v (nI n) K
  unfold vL_low
  rw [pk_and v (m := 2147483647) 31 (by decide), pk_rem (Nat.mod_lt _ (by decide)) h0 hn]
  refine ⟨fun q => ?_, h⟩
  rw [nI_z hn] at q
  omega

