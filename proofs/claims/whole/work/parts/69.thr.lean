def vX8_thrown (P : Sk) (f : St) (a : Nat) (K : Int32 → St → Prop) : Prop :=
  K (f a 0) f
set_option maxRecDepth 20000 in
set_option maxHeartbeats 4000000 in
theorem mX8_thrown (l : Launch) (G : Gl) (P : Sk) (f : St) (sz : Nat) (a : Nat) (ha : IsModel P a) (K : Int32 → St → Prop) (h : vX8_thrown P f a K)  :
  Met l yX8_thrown (wU yX8_thrown cX8_thrown 1 (some .int)) rmX8_thrown (PcW G P f sz [.ref a]) (QcI G P sz K) 0 0 (frA P sz) := by
  refine v_met (own := RX8) [.ref a] (by decide +kernel) rfl (Nat.le_of_ble_eq_true rfl) (fun p e s m args below meth c hsz o hr hnm => ?_)
  refine v_lv (lv2 := [(0, .ref a)]) rfl ?_
  unfold vX8_thrown at h
  refine v_aload_n o 0 dX8_thrown_0 rfl ?_
  refine v_gfI o lkX8_40 (by decide) (wfModel_o ha) dX8_thrown_1 ?_
  exact v_iret o rfl hr dX8_thrown_4 h
abbrev kX8_thrown := @vX8_thrown
abbrev metX8_thrown := @mX8_thrown

