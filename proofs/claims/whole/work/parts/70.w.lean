def kL_lay (P : Sk) (f : St) (b0 : Nat) (b1 : Nat) (K : Int32 → Option Int64 → St → Prop) : Prop :=
  kX7_lay P f b0 (fun r g => K 0 (some r.toInt64) g) (fun E g => (E = "java/lang/IllegalArgumentException" ∧ K 1 none g) ∨ (E = "java/lang/IllegalStateException" ∧ K 2 none g))
abbrev rwL_lay : Room := { frames := 7, cells := 1, slots := 6, locals := 195 }
set_option maxRecDepth 20000 in
set_option maxHeartbeats 4000000 in
theorem metL_lay (l : Launch) (hl : l.stackTraces = false) (G : Gl) (P : Sk) (f : St) (sz : Nat) (b0 : Nat) (b1 : Nat) (hb0 : IsComp P b0) (hb1 : Ob P b1 10 ∧ sN P b1 = 1) (K : Int32 → Option Int64 → St → Prop) (h : kL_lay P f b0 b1 K) : Met l yL_lay (wW yL_lay cL_lay 3 (some .int) [(0, 8, 11, 13), (0, 8, 14, 15)]) rwL_lay (PcX G P f sz [.ref b0, .ref b1]) (QcW G P b1 sz K) 1 6 (frA P sz) := by
  refine v_metw (own := RL) (hh := [(0, 8, 11, 13), (0, 8, 14, 15)]) [.ref b0, .ref b1] (by decide) rfl (Nat.le_of_ble_eq_true rfl) (fun p e s m args below meth c hsz o hr hT htab => ?_)
  refine v_lv (lv2 := [(0, .ref b0), (1, .ref b1)]) rfl ?_
  unfold kL_lay at h
  refine v_aload_n o 1 dL_lay_0 rfl ?_
  refine v_iconst o (v := 0) dL_lay_1 (by decide) ?_
  refine v_aload_n o 0 dL_lay_2 rfl ?_
  refine v_cw o hT [] [.int 0, .ref b1] (fun sz => metX7_lay l hl G P f sz b0 hb0  _ _ h) (cxL_7 o.1.2.2.2.2 (by decide)) ⟨_, _, rfl⟩ (by decide) (wfComp_o hb0) rfl (Nat.le_of_ble_eq_true rfl) ⟨Nat.le_of_ble_eq_true rfl, Nat.le_of_ble_eq_true rfl⟩ dL_lay_3 rfl (fun E g h => ?_) (fun r g h => ?_)
  · rcases h with ⟨rfl, h⟩ | ⟨rfl, h⟩
    · refine v_catch o [] ⟨0, 8, 11, 13⟩ [⟨0, 8, 14, 15⟩] (htab.trans rfl) (fun z hz => by cases hz) (by decide) (by decide) (name := "java/lang/IllegalArgumentException") (mU 606 (by decide +kernel) rfl) (hT.2.2.2.1 _ (List.mem_filter.mpr ⟨List.mem_of_getElem? (i := 619) (by decide +kernel), rfl⟩)) (fun q => ?_)
      refine v_astore_n o (lv' := [(2, .ref q), (0, .ref b0), (1, .ref b1)]) dL_lay_11 rfl (by decide) rfl ?_
      refine v_iconst o (v := 1) dL_lay_12 (by decide) ?_
      exact v_iretW o none rfl rfl hr dL_lay_13 h
    · refine v_catch o [⟨0, 8, 11, 13⟩] ⟨0, 8, 14, 15⟩ [] (htab.trans rfl) (fun z hz => by rcases List.mem_singleton.mp hz with rfl; exact ⟨by decide, "java/lang/IllegalArgumentException", (mU 606 (by decide +kernel) rfl), hT.2.2.2.2 ("java/lang/IllegalStateException", "java/lang/IllegalArgumentException") (by decide)⟩) (by decide) (by decide) (name := "java/lang/IllegalStateException") (mU 607 (by decide +kernel) rfl) (hT.2.2.2.1 _ (List.mem_filter.mpr ⟨List.mem_of_getElem? (i := 687) (by decide +kernel), rfl⟩)) (fun q => ?_)
      refine v_astore_n o (lv' := [(2, .ref q), (0, .ref b0), (1, .ref b1)]) dL_lay_14 rfl (by decide) rfl ?_
      refine v_iconst o (v := 2) dL_lay_15 (by decide) ?_
      exact v_iretW o none rfl rfl hr dL_lay_16 h
  · refine v_i2l o dL_lay_6 ?_
    refine v_last o hb1.1 hb1.2 (by unfold vp_in; decide) dL_lay_7 ?_
    refine v_goto o (tgt := 17) dL_lay_8 (by decide) ?_
    refine v_iconst o (v := 0) dL_lay_17 (by decide) ?_
    exact v_iretW o (some r.toInt64) rfl rfl hr dL_lay_18 h

def kL_bake (P : Sk) (f : St) (b0 : Nat) (p1 : Int32) (b2 : Nat) (K : Int32 → Option Int64 → St → Prop) : Prop :=
  kX7_bake P f b0 p1 (fun r g => K 0 (some r.toInt64) g) (fun E g => (E = "java/lang/IndexOutOfBoundsException" ∧ K 1 none g))
abbrev rwL_bake : Room := { frames := 8, cells := 1, slots := 6, locals := 197 }
set_option maxRecDepth 20000 in
set_option maxHeartbeats 4000000 in
theorem metL_bake (l : Launch) (hl : l.stackTraces = false) (G : Gl) (P : Sk) (f : St) (sz : Nat) (b0 : Nat) (p1 : Int32) (b2 : Nat) (hb0 : IsComp P b0) (hb2 : Ob P b2 10 ∧ sN P b2 = 1) (K : Int32 → Option Int64 → St → Prop) (h : kL_bake P f b0 p1 b2 K) : Met l yL_bake (wW yL_bake cL_bake 4 (some .int) [(0, 9, 12, 21)]) rwL_bake (PcX G P f sz [.ref b0, .int p1, .ref b2]) (QcW G P b2 sz K) 1 6 (frA P sz) := by
  refine v_metw (own := RL) (hh := [(0, 9, 12, 21)]) [.ref b0, .int p1, .ref b2] (by decide) rfl (Nat.le_of_ble_eq_true rfl) (fun p e s m args below meth c hsz o hr hT htab => ?_)
  refine v_lv (lv2 := [(0, .ref b0), (1, .int p1), (2, .ref b2)]) rfl ?_
  unfold kL_bake at h
  refine v_aload_n o 2 dL_bake_0 rfl ?_
  refine v_iconst o (v := 0) dL_bake_1 (by decide) ?_
  refine v_aload_n o 0 dL_bake_2 rfl ?_
  refine v_iload_n o 1 dL_bake_3 rfl ?_
  refine v_cw o hT [.int p1] [.int 0, .ref b2] (fun sz => metX7_bake l hl G P f sz b0 hb0 p1 _ _ h) (cxL_17 o.1.2.2.2.2 (by decide)) ⟨_, _, rfl⟩ (by decide) (wfComp_o hb0) rfl (Nat.le_of_ble_eq_true rfl) ⟨Nat.le_of_ble_eq_true rfl, Nat.le_of_ble_eq_true rfl⟩ dL_bake_4 rfl (fun E g h => ?_) (fun r g h => ?_)
  · rcases h with ⟨rfl, h⟩
    · refine v_catch o [] ⟨0, 9, 12, 21⟩ [] (htab.trans rfl) (fun z hz => by cases hz) (by decide) (by decide) (name := "java/lang/IndexOutOfBoundsException") (mU 754 (by decide +kernel) rfl) (hT.2.2.2.1 _ (List.mem_filter.mpr ⟨List.mem_of_getElem? (i := 769) (by decide +kernel), rfl⟩)) (fun q => ?_)
      refine v_astore_n o (lv' := [(3, .ref q), (0, .ref b0), (1, .int p1), (2, .ref b2)]) dL_bake_12 rfl (by decide) rfl ?_
      refine v_iconst o (v := 1) dL_bake_13 (by decide) ?_
      exact v_iretW o none rfl rfl hr dL_bake_14 h
  · refine v_i2l o dL_bake_7 ?_
    refine v_last o hb2.1 hb2.2 (by unfold vp_in; decide) dL_bake_8 ?_
    refine v_goto o (tgt := 15) dL_bake_9 (by decide) ?_
    refine v_iconst o (v := 0) dL_bake_15 (by decide) ?_
    exact v_iretW o (some r.toInt64) rfl rfl hr dL_bake_16 h

def kL_cross (P : Sk) (f : St) (b0 : Nat) (p1 : Int32) (p2 : Int32) (p3 : Int32) (b4 : Nat) (K : Int32 → Option Int64 → St → Prop) : Prop :=
  kX7_cross P f b0 p1 p2 p3 (fun r g => K 0 (some r.toInt64) g) (fun E g => (E = "java/lang/IndexOutOfBoundsException" ∧ K 1 none g) ∨ (E = "java/lang/IllegalStateException" ∧ K 2 none g))
abbrev rwL_cross : Room := { frames := 9, cells := 3, slots := 18, locals := 198 }
set_option maxRecDepth 20000 in
set_option maxHeartbeats 4000000 in
theorem metL_cross (l : Launch) (hl : l.stackTraces = false) (G : Gl) (P : Sk) (f : St) (sz : Nat) (b0 : Nat) (p1 : Int32) (p2 : Int32) (p3 : Int32) (b4 : Nat) (hb0 : IsComp P b0) (hb4 : Ob P b4 10 ∧ sN P b4 = 1) (K : Int32 → Option Int64 → St → Prop) (h : kL_cross P f b0 p1 p2 p3 b4 K) : Met l yL_cross (wW yL_cross cL_cross 6 (some .int) [(0, 12, 15, 21), (0, 12, 19, 15)]) rwL_cross (PcX G P f sz [.ref b0, .int p1, .int p2, .int p3, .ref b4]) (QcW G P b4 sz K) 3 18 (frA P sz) := by
  refine v_metw (own := RL) (hh := [(0, 12, 15, 21), (0, 12, 19, 15)]) [.ref b0, .int p1, .int p2, .int p3, .ref b4] (by decide) rfl (Nat.le_of_ble_eq_true rfl) (fun p e s m args below meth c hsz o hr hT htab => ?_)
  refine v_lv (lv2 := [(0, .ref b0), (1, .int p1), (2, .int p2), (3, .int p3), (4, .ref b4)]) rfl ?_
  unfold kL_cross at h
  refine v_aload o 4 dL_cross_0 rfl ?_
  refine v_iconst o (v := 0) dL_cross_2 (by decide) ?_
  refine v_aload_n o 0 dL_cross_3 rfl ?_
  refine v_iload_n o 1 dL_cross_4 rfl ?_
  refine v_iload_n o 2 dL_cross_5 rfl ?_
  refine v_iload_n o 3 dL_cross_6 rfl ?_
  refine v_cw o hT [.int p1, .int p2, .int p3] [.int 0, .ref b4] (fun sz => metX7_cross l hl G P f sz b0 hb0 p1 p2 p3 _ _ h) (cxL_23 o.1.2.2.2.2 (by decide)) ⟨_, _, rfl⟩ (by decide) (wfComp_o hb0) rfl (Nat.le_of_ble_eq_true rfl) ⟨Nat.le_of_ble_eq_true rfl, Nat.le_of_ble_eq_true rfl⟩ dL_cross_7 rfl (fun E g h => ?_) (fun r g h => ?_)
  · rcases h with ⟨rfl, h⟩ | ⟨rfl, h⟩
    · refine v_catch o [] ⟨0, 12, 15, 21⟩ [⟨0, 12, 19, 15⟩] (htab.trans rfl) (fun z hz => by cases hz) (by decide) (by decide) (name := "java/lang/IndexOutOfBoundsException") (mU 754 (by decide +kernel) rfl) (hT.2.2.2.1 _ (List.mem_filter.mpr ⟨List.mem_of_getElem? (i := 769) (by decide +kernel), rfl⟩)) (fun q => ?_)
      refine v_astore o (lv' := [(5, .ref q), (0, .ref b0), (1, .int p1), (2, .int p2), (3, .int p3), (4, .ref b4)]) dL_cross_15 (by decide) rfl ?_
      refine v_iconst o (v := 1) dL_cross_17 (by decide) ?_
      exact v_iretW o none rfl rfl hr dL_cross_18 h
    · refine v_catch o [⟨0, 12, 15, 21⟩] ⟨0, 12, 19, 15⟩ [] (htab.trans rfl) (fun z hz => by rcases List.mem_singleton.mp hz with rfl; exact ⟨by decide, "java/lang/IndexOutOfBoundsException", (mU 754 (by decide +kernel) rfl), hT.2.2.2.2 ("java/lang/IllegalStateException", "java/lang/IndexOutOfBoundsException") (by decide)⟩) (by decide) (by decide) (name := "java/lang/IllegalStateException") (mU 607 (by decide +kernel) rfl) (hT.2.2.2.1 _ (List.mem_filter.mpr ⟨List.mem_of_getElem? (i := 687) (by decide +kernel), rfl⟩)) (fun q => ?_)
      refine v_astore o (lv' := [(5, .ref q), (0, .ref b0), (1, .int p1), (2, .int p2), (3, .int p3), (4, .ref b4)]) dL_cross_19 (by decide) rfl ?_
      refine v_iconst o (v := 2) dL_cross_21 (by decide) ?_
      exact v_iretW o none rfl rfl hr dL_cross_22 h
  · refine v_i2l o dL_cross_10 ?_
    refine v_last o hb4.1 hb4.2 (by unfold vp_in; decide) dL_cross_11 ?_
    refine v_goto o (tgt := 23) dL_cross_12 (by decide) ?_
    refine v_iconst o (v := 0) dL_cross_23 (by decide) ?_
    exact v_iretW o (some r.toInt64) rfl rfl hr dL_cross_24 h

def kL_back (P : Sk) (f : St) (b0 : Nat) (p1 : Int32) (b2 : Nat) (K : Int32 → Option Int64 → St → Prop) : Prop :=
  kX7_back P f b0 p1 (fun r g => K 0 (some r.toInt64) g) (fun E g => (E = "java/lang/IndexOutOfBoundsException" ∧ K 1 none g) ∨ (E = "java/lang/IllegalStateException" ∧ K 2 none g))
abbrev rwL_back : Room := { frames := 8, cells := 2, slots := 12, locals := 196 }
set_option maxRecDepth 20000 in
set_option maxHeartbeats 4000000 in
theorem metL_back (l : Launch) (hl : l.stackTraces = false) (G : Gl) (P : Sk) (f : St) (sz : Nat) (b0 : Nat) (p1 : Int32) (b2 : Nat) (hb0 : IsComp P b0) (hb2 : Ob P b2 10 ∧ sN P b2 = 1) (K : Int32 → Option Int64 → St → Prop) (h : kL_back P f b0 p1 b2 K) : Met l yL_back (wW yL_back cL_back 4 (some .int) [(0, 9, 12, 21), (0, 9, 15, 15)]) rwL_back (PcX G P f sz [.ref b0, .int p1, .ref b2]) (QcW G P b2 sz K) 2 12 (frA P sz) := by
  refine v_metw (own := RL) (hh := [(0, 9, 12, 21), (0, 9, 15, 15)]) [.ref b0, .int p1, .ref b2] (by decide) rfl (Nat.le_of_ble_eq_true rfl) (fun p e s m args below meth c hsz o hr hT htab => ?_)
  refine v_lv (lv2 := [(0, .ref b0), (1, .int p1), (2, .ref b2)]) rfl ?_
  unfold kL_back at h
  refine v_aload_n o 2 dL_back_0 rfl ?_
  refine v_iconst o (v := 0) dL_back_1 (by decide) ?_
  refine v_aload_n o 0 dL_back_2 rfl ?_
  refine v_iload_n o 1 dL_back_3 rfl ?_
  refine v_cw o hT [.int p1] [.int 0, .ref b2] (fun sz => metX7_back l hl G P f sz b0 hb0 p1 _ _ h) (cxL_27 o.1.2.2.2.2 (by decide)) ⟨_, _, rfl⟩ (by decide) (wfComp_o hb0) rfl (Nat.le_of_ble_eq_true rfl) ⟨Nat.le_of_ble_eq_true rfl, Nat.le_of_ble_eq_true rfl⟩ dL_back_4 rfl (fun E g h => ?_) (fun r g h => ?_)
  · rcases h with ⟨rfl, h⟩ | ⟨rfl, h⟩
    · refine v_catch o [] ⟨0, 9, 12, 21⟩ [⟨0, 9, 15, 15⟩] (htab.trans rfl) (fun z hz => by cases hz) (by decide) (by decide) (name := "java/lang/IndexOutOfBoundsException") (mU 754 (by decide +kernel) rfl) (hT.2.2.2.1 _ (List.mem_filter.mpr ⟨List.mem_of_getElem? (i := 769) (by decide +kernel), rfl⟩)) (fun q => ?_)
      refine v_astore_n o (lv' := [(3, .ref q), (0, .ref b0), (1, .int p1), (2, .ref b2)]) dL_back_12 rfl (by decide) rfl ?_
      refine v_iconst o (v := 1) dL_back_13 (by decide) ?_
      exact v_iretW o none rfl rfl hr dL_back_14 h
    · refine v_catch o [⟨0, 9, 12, 21⟩] ⟨0, 9, 15, 15⟩ [] (htab.trans rfl) (fun z hz => by rcases List.mem_singleton.mp hz with rfl; exact ⟨by decide, "java/lang/IndexOutOfBoundsException", (mU 754 (by decide +kernel) rfl), hT.2.2.2.2 ("java/lang/IllegalStateException", "java/lang/IndexOutOfBoundsException") (by decide)⟩) (by decide) (by decide) (name := "java/lang/IllegalStateException") (mU 607 (by decide +kernel) rfl) (hT.2.2.2.1 _ (List.mem_filter.mpr ⟨List.mem_of_getElem? (i := 687) (by decide +kernel), rfl⟩)) (fun q => ?_)
      refine v_astore_n o (lv' := [(3, .ref q), (0, .ref b0), (1, .int p1), (2, .ref b2)]) dL_back_15 rfl (by decide) rfl ?_
      refine v_iconst o (v := 2) dL_back_16 (by decide) ?_
      exact v_iretW o none rfl rfl hr dL_back_17 h
  · refine v_i2l o dL_back_7 ?_
    refine v_last o hb2.1 hb2.2 (by unfold vp_in; decide) dL_back_8 ?_
    refine v_goto o (tgt := 18) dL_back_9 (by decide) ?_
    refine v_iconst o (v := 0) dL_back_18 (by decide) ?_
    exact v_iretW o (some r.toInt64) rfl rfl hr dL_back_19 h

def kL_change (P : Sk) (f : St) (b0 : Nat) (p1 : Int32) (p2 : Int32) (b3 : Nat) (K : Int32 → Option Int64 → St → Prop) : Prop :=
  kX7_change P f b0 p1 p2 (fun r g => K 0 (some r.toInt64) g) (fun E g => (E = "java/lang/IndexOutOfBoundsException" ∧ K 1 none g) ∨ (E = "java/lang/IllegalArgumentException" ∧ K 2 none g) ∨ (E = "java/lang/IllegalStateException" ∧ K 3 none g))
abbrev rwL_change : Room := { frames := 8, cells := 3, slots := 18, locals := 197 }
set_option maxRecDepth 20000 in
set_option maxHeartbeats 4000000 in
theorem metL_change (l : Launch) (hl : l.stackTraces = false) (G : Gl) (P : Sk) (f : St) (sz : Nat) (b0 : Nat) (p1 : Int32) (p2 : Int32) (b3 : Nat) (hb0 : IsComp P b0) (hb3 : Ob P b3 10 ∧ sN P b3 = 1) (K : Int32 → Option Int64 → St → Prop) (h : kL_change P f b0 p1 p2 b3 K) : Met l yL_change (wW yL_change cL_change 5 (some .int) [(0, 10, 13, 21), (0, 10, 17, 13), (0, 10, 21, 15)]) rwL_change (PcX G P f sz [.ref b0, .int p1, .int p2, .ref b3]) (QcW G P b3 sz K) 3 18 (frA P sz) := by
  refine v_metw (own := RL) (hh := [(0, 10, 13, 21), (0, 10, 17, 13), (0, 10, 21, 15)]) [.ref b0, .int p1, .int p2, .ref b3] (by decide) rfl (Nat.le_of_ble_eq_true rfl) (fun p e s m args below meth c hsz o hr hT htab => ?_)
  refine v_lv (lv2 := [(0, .ref b0), (1, .int p1), (2, .int p2), (3, .ref b3)]) rfl ?_
  unfold kL_change at h
  refine v_aload_n o 3 dL_change_0 rfl ?_
  refine v_iconst o (v := 0) dL_change_1 (by decide) ?_
  refine v_aload_n o 0 dL_change_2 rfl ?_
  refine v_iload_n o 1 dL_change_3 rfl ?_
  refine v_iload_n o 2 dL_change_4 rfl ?_
  refine v_cw o hT [.int p1, .int p2] [.int 0, .ref b3] (fun sz => metX7_change l hl G P f sz b0 hb0 p1 p2 _ _ h) (cxL_30 o.1.2.2.2.2 (by decide)) ⟨_, _, rfl⟩ (by decide) (wfComp_o hb0) rfl (Nat.le_of_ble_eq_true rfl) ⟨Nat.le_of_ble_eq_true rfl, Nat.le_of_ble_eq_true rfl⟩ dL_change_5 rfl (fun E g h => ?_) (fun r g h => ?_)
  · rcases h with ⟨rfl, h⟩ | ⟨rfl, h⟩ | ⟨rfl, h⟩
    · refine v_catch o [] ⟨0, 10, 13, 21⟩ [⟨0, 10, 17, 13⟩, ⟨0, 10, 21, 15⟩] (htab.trans rfl) (fun z hz => by cases hz) (by decide) (by decide) (name := "java/lang/IndexOutOfBoundsException") (mU 754 (by decide +kernel) rfl) (hT.2.2.2.1 _ (List.mem_filter.mpr ⟨List.mem_of_getElem? (i := 769) (by decide +kernel), rfl⟩)) (fun q => ?_)
      refine v_astore o (lv' := [(4, .ref q), (0, .ref b0), (1, .int p1), (2, .int p2), (3, .ref b3)]) dL_change_13 (by decide) rfl ?_
      refine v_iconst o (v := 1) dL_change_15 (by decide) ?_
      exact v_iretW o none rfl rfl hr dL_change_16 h
    · refine v_catch o [⟨0, 10, 13, 21⟩] ⟨0, 10, 17, 13⟩ [⟨0, 10, 21, 15⟩] (htab.trans rfl) (fun z hz => by rcases List.mem_singleton.mp hz with rfl; exact ⟨by decide, "java/lang/IndexOutOfBoundsException", (mU 754 (by decide +kernel) rfl), hT.2.2.2.2 ("java/lang/IllegalArgumentException", "java/lang/IndexOutOfBoundsException") (by decide)⟩) (by decide) (by decide) (name := "java/lang/IllegalArgumentException") (mU 606 (by decide +kernel) rfl) (hT.2.2.2.1 _ (List.mem_filter.mpr ⟨List.mem_of_getElem? (i := 619) (by decide +kernel), rfl⟩)) (fun q => ?_)
      refine v_astore o (lv' := [(4, .ref q), (0, .ref b0), (1, .int p1), (2, .int p2), (3, .ref b3)]) dL_change_17 (by decide) rfl ?_
      refine v_iconst o (v := 2) dL_change_19 (by decide) ?_
      exact v_iretW o none rfl rfl hr dL_change_20 h
    · refine v_catch o [⟨0, 10, 13, 21⟩, ⟨0, 10, 17, 13⟩] ⟨0, 10, 21, 15⟩ [] (htab.trans rfl) (fun z hz => by simp only [List.mem_cons, List.not_mem_nil, or_false] at hz; rcases hz with rfl | rfl; all_goals first | exact ⟨by decide, "java/lang/IndexOutOfBoundsException", (mU 754 (by decide +kernel) rfl), hT.2.2.2.2 ("java/lang/IllegalStateException", "java/lang/IndexOutOfBoundsException") (by decide)⟩ | exact ⟨by decide, "java/lang/IllegalArgumentException", (mU 606 (by decide +kernel) rfl), hT.2.2.2.2 ("java/lang/IllegalStateException", "java/lang/IllegalArgumentException") (by decide)⟩) (by decide) (by decide) (name := "java/lang/IllegalStateException") (mU 607 (by decide +kernel) rfl) (hT.2.2.2.1 _ (List.mem_filter.mpr ⟨List.mem_of_getElem? (i := 687) (by decide +kernel), rfl⟩)) (fun q => ?_)
      refine v_astore o (lv' := [(4, .ref q), (0, .ref b0), (1, .int p1), (2, .int p2), (3, .ref b3)]) dL_change_21 (by decide) rfl ?_
      refine v_iconst o (v := 3) dL_change_23 (by decide) ?_
      exact v_iretW o none rfl rfl hr dL_change_24 h
  · refine v_i2l o dL_change_8 ?_
    refine v_last o hb3.1 hb3.2 (by unfold vp_in; decide) dL_change_9 ?_
    refine v_goto o (tgt := 25) dL_change_10 (by decide) ?_
    refine v_iconst o (v := 0) dL_change_25 (by decide) ?_
    exact v_iretW o (some r.toInt64) rfl rfl hr dL_change_26 h

def kL_join (P : Sk) (f : St) (b0 : Nat) (p1 : Int32) (p2 : Int32) (b3 : Nat) (K : Int32 → Option Int64 → St → Prop) : Prop :=
  kX7_join P f b0 p1 p2 (fun r g => K 0 (some r.toInt64) g) (fun E g => (E = "java/lang/IndexOutOfBoundsException" ∧ K 1 none g) ∨ (E = "java/lang/IllegalStateException" ∧ K 2 none g))
abbrev rwL_join : Room := { frames := 8, cells := 3, slots := 18, locals := 197 }
set_option maxRecDepth 20000 in
set_option maxHeartbeats 4000000 in
theorem metL_join (l : Launch) (hl : l.stackTraces = false) (G : Gl) (P : Sk) (f : St) (sz : Nat) (b0 : Nat) (p1 : Int32) (p2 : Int32) (b3 : Nat) (hb0 : IsComp P b0) (hb3 : Ob P b3 10 ∧ sN P b3 = 1) (K : Int32 → Option Int64 → St → Prop) (h : kL_join P f b0 p1 p2 b3 K) : Met l yL_join (wW yL_join cL_join 5 (some .int) [(0, 10, 13, 21), (0, 10, 17, 15)]) rwL_join (PcX G P f sz [.ref b0, .int p1, .int p2, .ref b3]) (QcW G P b3 sz K) 3 18 (frA P sz) := by
  refine v_metw (own := RL) (hh := [(0, 10, 13, 21), (0, 10, 17, 15)]) [.ref b0, .int p1, .int p2, .ref b3] (by decide) rfl (Nat.le_of_ble_eq_true rfl) (fun p e s m args below meth c hsz o hr hT htab => ?_)
  refine v_lv (lv2 := [(0, .ref b0), (1, .int p1), (2, .int p2), (3, .ref b3)]) rfl ?_
  unfold kL_join at h
  refine v_aload_n o 3 dL_join_0 rfl ?_
  refine v_iconst o (v := 0) dL_join_1 (by decide) ?_
  refine v_aload_n o 0 dL_join_2 rfl ?_
  refine v_iload_n o 1 dL_join_3 rfl ?_
  refine v_iload_n o 2 dL_join_4 rfl ?_
  refine v_cw o hT [.int p1, .int p2] [.int 0, .ref b3] (fun sz => metX7_join l hl G P f sz b0 hb0 p1 p2 _ _ h) (cxL_34 o.1.2.2.2.2 (by decide)) ⟨_, _, rfl⟩ (by decide) (wfComp_o hb0) rfl (Nat.le_of_ble_eq_true rfl) ⟨Nat.le_of_ble_eq_true rfl, Nat.le_of_ble_eq_true rfl⟩ dL_join_5 rfl (fun E g h => ?_) (fun r g h => ?_)
  · rcases h with ⟨rfl, h⟩ | ⟨rfl, h⟩
    · refine v_catch o [] ⟨0, 10, 13, 21⟩ [⟨0, 10, 17, 15⟩] (htab.trans rfl) (fun z hz => by cases hz) (by decide) (by decide) (name := "java/lang/IndexOutOfBoundsException") (mU 754 (by decide +kernel) rfl) (hT.2.2.2.1 _ (List.mem_filter.mpr ⟨List.mem_of_getElem? (i := 769) (by decide +kernel), rfl⟩)) (fun q => ?_)
      refine v_astore o (lv' := [(4, .ref q), (0, .ref b0), (1, .int p1), (2, .int p2), (3, .ref b3)]) dL_join_13 (by decide) rfl ?_
      refine v_iconst o (v := 1) dL_join_15 (by decide) ?_
      exact v_iretW o none rfl rfl hr dL_join_16 h
    · refine v_catch o [⟨0, 10, 13, 21⟩] ⟨0, 10, 17, 15⟩ [] (htab.trans rfl) (fun z hz => by rcases List.mem_singleton.mp hz with rfl; exact ⟨by decide, "java/lang/IndexOutOfBoundsException", (mU 754 (by decide +kernel) rfl), hT.2.2.2.2 ("java/lang/IllegalStateException", "java/lang/IndexOutOfBoundsException") (by decide)⟩) (by decide) (by decide) (name := "java/lang/IllegalStateException") (mU 607 (by decide +kernel) rfl) (hT.2.2.2.1 _ (List.mem_filter.mpr ⟨List.mem_of_getElem? (i := 687) (by decide +kernel), rfl⟩)) (fun q => ?_)
      refine v_astore o (lv' := [(4, .ref q), (0, .ref b0), (1, .int p1), (2, .int p2), (3, .ref b3)]) dL_join_17 (by decide) rfl ?_
      refine v_iconst o (v := 2) dL_join_19 (by decide) ?_
      exact v_iretW o none rfl rfl hr dL_join_20 h
  · refine v_i2l o dL_join_8 ?_
    refine v_last o hb3.1 hb3.2 (by unfold vp_in; decide) dL_join_9 ?_
    refine v_goto o (tgt := 21) dL_join_10 (by decide) ?_
    refine v_iconst o (v := 0) dL_join_21 (by decide) ?_
    exact v_iretW o (some r.toInt64) rfl rfl hr dL_join_22 h

def kL_append (P : Sk) (f : St) (b0 : Nat) (p1 : Int32) (b2 : Nat) (K : Int32 → Option Int64 → St → Prop) : Prop :=
  kX7_append P f b0 p1 (fun r g => K 0 (some r.toInt64) g) (fun E g => (E = "java/lang/IllegalArgumentException" ∧ K 1 none g) ∨ (E = "java/lang/IllegalStateException" ∧ K 2 none g))
abbrev rwL_append : Room := { frames := 7, cells := 1, slots := 6, locals := 111 }
set_option maxRecDepth 20000 in
set_option maxHeartbeats 4000000 in
theorem metL_append (l : Launch) (hl : l.stackTraces = false) (G : Gl) (P : Sk) (f : St) (sz : Nat) (b0 : Nat) (p1 : Int32) (b2 : Nat) (hb0 : IsComp P b0) (hb2 : Ob P b2 10 ∧ sN P b2 = 1) (K : Int32 → Option Int64 → St → Prop) (h : kL_append P f b0 p1 b2 K) : Met l yL_append (wW yL_append cL_append 4 (some .int) [(0, 9, 12, 13), (0, 9, 15, 15)]) rwL_append (PcX G P f sz [.ref b0, .int p1, .ref b2]) (QcW G P b2 sz K) 1 6 (frA P sz) := by
  refine v_metw (own := RL) (hh := [(0, 9, 12, 13), (0, 9, 15, 15)]) [.ref b0, .int p1, .ref b2] (by decide) rfl (Nat.le_of_ble_eq_true rfl) (fun p e s m args below meth c hsz o hr hT htab => ?_)
  refine v_lv (lv2 := [(0, .ref b0), (1, .int p1), (2, .ref b2)]) rfl ?_
  unfold kL_append at h
  refine v_aload_n o 2 dL_append_0 rfl ?_
  refine v_iconst o (v := 0) dL_append_1 (by decide) ?_
  refine v_aload_n o 0 dL_append_2 rfl ?_
  refine v_iload_n o 1 dL_append_3 rfl ?_
  refine v_cw o hT [.int p1] [.int 0, .ref b2] (fun sz => metX7_append l hl G P f sz b0 hb0 p1 _ _ h) (cxL_37 o.1.2.2.2.2 (by decide)) ⟨_, _, rfl⟩ (by decide) (wfComp_o hb0) rfl (Nat.le_of_ble_eq_true rfl) ⟨Nat.le_of_ble_eq_true rfl, Nat.le_of_ble_eq_true rfl⟩ dL_append_4 rfl (fun E g h => ?_) (fun r g h => ?_)
  · rcases h with ⟨rfl, h⟩ | ⟨rfl, h⟩
    · refine v_catch o [] ⟨0, 9, 12, 13⟩ [⟨0, 9, 15, 15⟩] (htab.trans rfl) (fun z hz => by cases hz) (by decide) (by decide) (name := "java/lang/IllegalArgumentException") (mU 606 (by decide +kernel) rfl) (hT.2.2.2.1 _ (List.mem_filter.mpr ⟨List.mem_of_getElem? (i := 619) (by decide +kernel), rfl⟩)) (fun q => ?_)
      refine v_astore_n o (lv' := [(3, .ref q), (0, .ref b0), (1, .int p1), (2, .ref b2)]) dL_append_12 rfl (by decide) rfl ?_
      refine v_iconst o (v := 1) dL_append_13 (by decide) ?_
      exact v_iretW o none rfl rfl hr dL_append_14 h
    · refine v_catch o [⟨0, 9, 12, 13⟩] ⟨0, 9, 15, 15⟩ [] (htab.trans rfl) (fun z hz => by rcases List.mem_singleton.mp hz with rfl; exact ⟨by decide, "java/lang/IllegalArgumentException", (mU 606 (by decide +kernel) rfl), hT.2.2.2.2 ("java/lang/IllegalStateException", "java/lang/IllegalArgumentException") (by decide)⟩) (by decide) (by decide) (name := "java/lang/IllegalStateException") (mU 607 (by decide +kernel) rfl) (hT.2.2.2.1 _ (List.mem_filter.mpr ⟨List.mem_of_getElem? (i := 687) (by decide +kernel), rfl⟩)) (fun q => ?_)
      refine v_astore_n o (lv' := [(3, .ref q), (0, .ref b0), (1, .int p1), (2, .ref b2)]) dL_append_15 rfl (by decide) rfl ?_
      refine v_iconst o (v := 2) dL_append_16 (by decide) ?_
      exact v_iretW o none rfl rfl hr dL_append_17 h
  · refine v_i2l o dL_append_7 ?_
    refine v_last o hb2.1 hb2.2 (by unfold vp_in; decide) dL_append_8 ?_
    refine v_goto o (tgt := 18) dL_append_9 (by decide) ?_
    refine v_iconst o (v := 0) dL_append_18 (by decide) ?_
    exact v_iretW o (some r.toInt64) rfl rfl hr dL_append_19 h

def kL_work (P : Sk) (f : St) (b0 : Nat) (b1 : Nat) (K : Int32 → Option Int64 → St → Prop) : Prop :=
  kX7_work P f b0 (fun r g => K 0 (some r.toInt64) g) (fun E g => (E = "java/lang/IllegalArgumentException" ∧ K 1 none g))
abbrev rwL_work : Room := { frames := 7, cells := 1, slots := 6, locals := 199 }
set_option maxRecDepth 20000 in
set_option maxHeartbeats 4000000 in
theorem metL_work (l : Launch) (hl : l.stackTraces = false) (G : Gl) (P : Sk) (f : St) (sz : Nat) (b0 : Nat) (b1 : Nat) (hb0 : IsComp P b0) (hb1 : Ob P b1 10 ∧ sN P b1 = 1) (K : Int32 → Option Int64 → St → Prop) (h : kL_work P f b0 b1 K) : Met l yL_work (wW yL_work cL_work 3 (some .int) [(0, 8, 11, 13)]) rwL_work (PcX G P f sz [.ref b0, .ref b1]) (QcW G P b1 sz K) 1 6 (frA P sz) := by
  refine v_metw (own := RL) (hh := [(0, 8, 11, 13)]) [.ref b0, .ref b1] (by decide) rfl (Nat.le_of_ble_eq_true rfl) (fun p e s m args below meth c hsz o hr hT htab => ?_)
  refine v_lv (lv2 := [(0, .ref b0), (1, .ref b1)]) rfl ?_
  unfold kL_work at h
  refine v_aload_n o 1 dL_work_0 rfl ?_
  refine v_iconst o (v := 0) dL_work_1 (by decide) ?_
  refine v_aload_n o 0 dL_work_2 rfl ?_
  refine v_cw o hT [] [.int 0, .ref b1] (fun sz => metX7_work l hl G P f sz b0 hb0  _ _ h) (cxL_40 o.1.2.2.2.2 (by decide)) ⟨_, _, rfl⟩ (by decide) (wfComp_o hb0) rfl (Nat.le_of_ble_eq_true rfl) ⟨Nat.le_of_ble_eq_true rfl, Nat.le_of_ble_eq_true rfl⟩ dL_work_3 rfl (fun E g h => ?_) (fun r g h => ?_)
  · rcases h with ⟨rfl, h⟩
    · refine v_catch o [] ⟨0, 8, 11, 13⟩ [] (htab.trans rfl) (fun z hz => by cases hz) (by decide) (by decide) (name := "java/lang/IllegalArgumentException") (mU 606 (by decide +kernel) rfl) (hT.2.2.2.1 _ (List.mem_filter.mpr ⟨List.mem_of_getElem? (i := 619) (by decide +kernel), rfl⟩)) (fun q => ?_)
      refine v_astore_n o (lv' := [(2, .ref q), (0, .ref b0), (1, .ref b1)]) dL_work_11 rfl (by decide) rfl ?_
      refine v_iconst o (v := 1) dL_work_12 (by decide) ?_
      exact v_iretW o none rfl rfl hr dL_work_13 h
  · refine v_i2l o dL_work_6 ?_
    refine v_last o hb1.1 hb1.2 (by unfold vp_in; decide) dL_work_7 ?_
    refine v_goto o (tgt := 14) dL_work_8 (by decide) ?_
    refine v_iconst o (v := 0) dL_work_14 (by decide) ?_
    exact v_iretW o (some r.toInt64) rfl rfl hr dL_work_15 h

def kL_stopped (P : Sk) (f : St) (b0 : Nat) (p1 : Int32) (b2 : Nat) (K : Int32 → Option Int64 → St → Prop) : Prop :=
  kX7_stopped P f b0 p1 (fun r g => K 0 (some r.toInt64) g) (fun E g => (E = "java/lang/IllegalArgumentException" ∧ K 1 none g))
abbrev rwL_stopped : Room := { frames := 8, cells := 1, slots := 6, locals := 132 }
set_option maxRecDepth 20000 in
set_option maxHeartbeats 4000000 in
theorem metL_stopped (l : Launch) (hl : l.stackTraces = false) (G : Gl) (P : Sk) (f : St) (sz : Nat) (b0 : Nat) (p1 : Int32) (b2 : Nat) (hb0 : IsComp P b0) (hb2 : Ob P b2 10 ∧ sN P b2 = 1) (K : Int32 → Option Int64 → St → Prop) (h : kL_stopped P f b0 p1 b2 K) : Met l yL_stopped (wW yL_stopped cL_stopped 4 (some .int) [(0, 9, 12, 13)]) rwL_stopped (PcX G P f sz [.ref b0, .int p1, .ref b2]) (QcW G P b2 sz K) 1 6 (frA P sz) := by
  refine v_metw (own := RL) (hh := [(0, 9, 12, 13)]) [.ref b0, .int p1, .ref b2] (by decide) rfl (Nat.le_of_ble_eq_true rfl) (fun p e s m args below meth c hsz o hr hT htab => ?_)
  refine v_lv (lv2 := [(0, .ref b0), (1, .int p1), (2, .ref b2)]) rfl ?_
  unfold kL_stopped at h
  refine v_aload_n o 2 dL_stopped_0 rfl ?_
  refine v_iconst o (v := 0) dL_stopped_1 (by decide) ?_
  refine v_aload_n o 0 dL_stopped_2 rfl ?_
  refine v_iload_n o 1 dL_stopped_3 rfl ?_
  refine v_cw o hT [.int p1] [.int 0, .ref b2] (fun sz => metX7_stopped l hl G P f sz b0 hb0 p1 _ _ h) (cxL_43 o.1.2.2.2.2 (by decide)) ⟨_, _, rfl⟩ (by decide) (wfComp_o hb0) rfl (Nat.le_of_ble_eq_true rfl) ⟨Nat.le_of_ble_eq_true rfl, Nat.le_of_ble_eq_true rfl⟩ dL_stopped_4 rfl (fun E g h => ?_) (fun r g h => ?_)
  · rcases h with ⟨rfl, h⟩
    · refine v_catch o [] ⟨0, 9, 12, 13⟩ [] (htab.trans rfl) (fun z hz => by cases hz) (by decide) (by decide) (name := "java/lang/IllegalArgumentException") (mU 606 (by decide +kernel) rfl) (hT.2.2.2.1 _ (List.mem_filter.mpr ⟨List.mem_of_getElem? (i := 619) (by decide +kernel), rfl⟩)) (fun q => ?_)
      refine v_astore_n o (lv' := [(3, .ref q), (0, .ref b0), (1, .int p1), (2, .ref b2)]) dL_stopped_12 rfl (by decide) rfl ?_
      refine v_iconst o (v := 1) dL_stopped_13 (by decide) ?_
      exact v_iretW o none rfl rfl hr dL_stopped_14 h
  · refine v_i2l o dL_stopped_7 ?_
    refine v_last o hb2.1 hb2.2 (by unfold vp_in; decide) dL_stopped_8 ?_
    refine v_goto o (tgt := 15) dL_stopped_9 (by decide) ?_
    refine v_iconst o (v := 0) dL_stopped_15 (by decide) ?_
    exact v_iretW o (some r.toInt64) rfl rfl hr dL_stopped_16 h

def kL_undo (P : Sk) (f : St) (b0 : Nat) (b1 : Nat) (K : Int32 → Option Int64 → St → Prop) : Prop :=
  kX7_undo P f b0 (fun r g => K 0 (some r.toInt64) g) (fun E g => (E = "java/lang/IllegalStateException" ∧ K 1 none g))
abbrev rwL_undo : Room := { frames := 7, cells := 1, slots := 6, locals := 195 }
set_option maxRecDepth 20000 in
set_option maxHeartbeats 4000000 in
theorem metL_undo (l : Launch) (hl : l.stackTraces = false) (G : Gl) (P : Sk) (f : St) (sz : Nat) (b0 : Nat) (b1 : Nat) (hb0 : IsComp P b0) (hb1 : Ob P b1 10 ∧ sN P b1 = 1) (K : Int32 → Option Int64 → St → Prop) (h : kL_undo P f b0 b1 K) : Met l yL_undo (wW yL_undo cL_undo 3 (some .int) [(0, 8, 11, 15)]) rwL_undo (PcX G P f sz [.ref b0, .ref b1]) (QcW G P b1 sz K) 1 6 (frA P sz) := by
  refine v_metw (own := RL) (hh := [(0, 8, 11, 15)]) [.ref b0, .ref b1] (by decide) rfl (Nat.le_of_ble_eq_true rfl) (fun p e s m args below meth c hsz o hr hT htab => ?_)
  refine v_lv (lv2 := [(0, .ref b0), (1, .ref b1)]) rfl ?_
  unfold kL_undo at h
  refine v_aload_n o 1 dL_undo_0 rfl ?_
  refine v_iconst o (v := 0) dL_undo_1 (by decide) ?_
  refine v_aload_n o 0 dL_undo_2 rfl ?_
  refine v_cw o hT [] [.int 0, .ref b1] (fun sz => metX7_undo l hl G P f sz b0 hb0  _ _ h) (cxL_46 o.1.2.2.2.2 (by decide)) ⟨_, _, rfl⟩ (by decide) (wfComp_o hb0) rfl (Nat.le_of_ble_eq_true rfl) ⟨Nat.le_of_ble_eq_true rfl, Nat.le_of_ble_eq_true rfl⟩ dL_undo_3 rfl (fun E g h => ?_) (fun r g h => ?_)
  · rcases h with ⟨rfl, h⟩
    · refine v_catch o [] ⟨0, 8, 11, 15⟩ [] (htab.trans rfl) (fun z hz => by cases hz) (by decide) (by decide) (name := "java/lang/IllegalStateException") (mU 607 (by decide +kernel) rfl) (hT.2.2.2.1 _ (List.mem_filter.mpr ⟨List.mem_of_getElem? (i := 687) (by decide +kernel), rfl⟩)) (fun q => ?_)
      refine v_astore_n o (lv' := [(2, .ref q), (0, .ref b0), (1, .ref b1)]) dL_undo_11 rfl (by decide) rfl ?_
      refine v_iconst o (v := 1) dL_undo_12 (by decide) ?_
      exact v_iretW o none rfl rfl hr dL_undo_13 h
  · refine v_i2l o dL_undo_6 ?_
    refine v_last o hb1.1 hb1.2 (by unfold vp_in; decide) dL_undo_7 ?_
    refine v_goto o (tgt := 14) dL_undo_8 (by decide) ?_
    refine v_iconst o (v := 0) dL_undo_14 (by decide) ?_
    exact v_iretW o (some r.toInt64) rfl rfl hr dL_undo_15 h

def kL_restore (P : Sk) (f : St) (b0 : Nat) (b1 : Nat) (K : Int32 → Option Int64 → St → Prop) : Prop :=
  kX7_restore P f b0 (fun r g => K 0 (some r.toInt64) g) (fun E g => (E = "java/lang/IllegalStateException" ∧ K 1 none g))
abbrev rwL_restore : Room := { frames := 7, cells := 1, slots := 6, locals := 195 }
set_option maxRecDepth 20000 in
set_option maxHeartbeats 4000000 in
theorem metL_restore (l : Launch) (hl : l.stackTraces = false) (G : Gl) (P : Sk) (f : St) (sz : Nat) (b0 : Nat) (b1 : Nat) (hb0 : IsComp P b0) (hb1 : Ob P b1 10 ∧ sN P b1 = 1) (K : Int32 → Option Int64 → St → Prop) (h : kL_restore P f b0 b1 K) : Met l yL_restore (wW yL_restore cL_restore 3 (some .int) [(0, 8, 11, 15)]) rwL_restore (PcX G P f sz [.ref b0, .ref b1]) (QcW G P b1 sz K) 1 6 (frA P sz) := by
  refine v_metw (own := RL) (hh := [(0, 8, 11, 15)]) [.ref b0, .ref b1] (by decide) rfl (Nat.le_of_ble_eq_true rfl) (fun p e s m args below meth c hsz o hr hT htab => ?_)
  refine v_lv (lv2 := [(0, .ref b0), (1, .ref b1)]) rfl ?_
  unfold kL_restore at h
  refine v_aload_n o 1 dL_restore_0 rfl ?_
  refine v_iconst o (v := 0) dL_restore_1 (by decide) ?_
  refine v_aload_n o 0 dL_restore_2 rfl ?_
  refine v_cw o hT [] [.int 0, .ref b1] (fun sz => metX7_restore l hl G P f sz b0 hb0  _ _ h) (cxL_49 o.1.2.2.2.2 (by decide)) ⟨_, _, rfl⟩ (by decide) (wfComp_o hb0) rfl (Nat.le_of_ble_eq_true rfl) ⟨Nat.le_of_ble_eq_true rfl, Nat.le_of_ble_eq_true rfl⟩ dL_restore_3 rfl (fun E g h => ?_) (fun r g h => ?_)
  · rcases h with ⟨rfl, h⟩
    · refine v_catch o [] ⟨0, 8, 11, 15⟩ [] (htab.trans rfl) (fun z hz => by cases hz) (by decide) (by decide) (name := "java/lang/IllegalStateException") (mU 607 (by decide +kernel) rfl) (hT.2.2.2.1 _ (List.mem_filter.mpr ⟨List.mem_of_getElem? (i := 687) (by decide +kernel), rfl⟩)) (fun q => ?_)
      refine v_astore_n o (lv' := [(2, .ref q), (0, .ref b0), (1, .ref b1)]) dL_restore_11 rfl (by decide) rfl ?_
      refine v_iconst o (v := 1) dL_restore_12 (by decide) ?_
      exact v_iretW o none rfl rfl hr dL_restore_13 h
  · refine v_i2l o dL_restore_6 ?_
    refine v_last o hb1.1 hb1.2 (by unfold vp_in; decide) dL_restore_7 ?_
    refine v_goto o (tgt := 14) dL_restore_8 (by decide) ?_
    refine v_iconst o (v := 0) dL_restore_14 (by decide) ?_
    exact v_iretW o (some r.toInt64) rfl rfl hr dL_restore_15 h

def kL_crossing (P : Sk) (f : St) (b0 : Nat) (p1 : Int32) (p2 : Int32) (p3 : Int32) (b4 : Nat) (K : Int32 → Option Int64 → St → Prop) : Prop :=
  kX7_crossing P f b0 p1 p2 p3 (fun r g => K 0 (some r.toInt64) g) (fun E g => (E = "java/lang/IndexOutOfBoundsException" ∧ K 1 none g) ∨ (E = "java/lang/IllegalArgumentException" ∧ K 2 none g))
abbrev rwL_crossing : Room := { frames := 8, cells := 3, slots := 18, locals := 134 }
set_option maxRecDepth 20000 in
set_option maxHeartbeats 4000000 in
theorem metL_crossing (l : Launch) (hl : l.stackTraces = false) (G : Gl) (P : Sk) (f : St) (sz : Nat) (b0 : Nat) (p1 : Int32) (p2 : Int32) (p3 : Int32) (b4 : Nat) (hb0 : IsComp P b0) (hb4 : Ob P b4 10 ∧ sN P b4 = 1) (K : Int32 → Option Int64 → St → Prop) (h : kL_crossing P f b0 p1 p2 p3 b4 K) : Met l yL_crossing (wW yL_crossing cL_crossing 6 (some .int) [(0, 12, 15, 21), (0, 12, 19, 13)]) rwL_crossing (PcX G P f sz [.ref b0, .int p1, .int p2, .int p3, .ref b4]) (QcW G P b4 sz K) 3 18 (frA P sz) := by
  refine v_metw (own := RL) (hh := [(0, 12, 15, 21), (0, 12, 19, 13)]) [.ref b0, .int p1, .int p2, .int p3, .ref b4] (by decide) rfl (Nat.le_of_ble_eq_true rfl) (fun p e s m args below meth c hsz o hr hT htab => ?_)
  refine v_lv (lv2 := [(0, .ref b0), (1, .int p1), (2, .int p2), (3, .int p3), (4, .ref b4)]) rfl ?_
  unfold kL_crossing at h
  refine v_aload o 4 dL_crossing_0 rfl ?_
  refine v_iconst o (v := 0) dL_crossing_2 (by decide) ?_
  refine v_aload_n o 0 dL_crossing_3 rfl ?_
  refine v_iload_n o 1 dL_crossing_4 rfl ?_
  refine v_iload_n o 2 dL_crossing_5 rfl ?_
  refine v_iload_n o 3 dL_crossing_6 rfl ?_
  refine v_cw o hT [.int p1, .int p2, .int p3] [.int 0, .ref b4] (fun sz => metX7_crossing l hl G P f sz b0 hb0 p1 p2 p3 _ _ h) (cxL_52 o.1.2.2.2.2 (by decide)) ⟨_, _, rfl⟩ (by decide) (wfComp_o hb0) rfl (Nat.le_of_ble_eq_true rfl) ⟨Nat.le_of_ble_eq_true rfl, Nat.le_of_ble_eq_true rfl⟩ dL_crossing_7 rfl (fun E g h => ?_) (fun r g h => ?_)
  · rcases h with ⟨rfl, h⟩ | ⟨rfl, h⟩
    · refine v_catch o [] ⟨0, 12, 15, 21⟩ [⟨0, 12, 19, 13⟩] (htab.trans rfl) (fun z hz => by cases hz) (by decide) (by decide) (name := "java/lang/IndexOutOfBoundsException") (mU 754 (by decide +kernel) rfl) (hT.2.2.2.1 _ (List.mem_filter.mpr ⟨List.mem_of_getElem? (i := 769) (by decide +kernel), rfl⟩)) (fun q => ?_)
      refine v_astore o (lv' := [(5, .ref q), (0, .ref b0), (1, .int p1), (2, .int p2), (3, .int p3), (4, .ref b4)]) dL_crossing_15 (by decide) rfl ?_
      refine v_iconst o (v := 1) dL_crossing_17 (by decide) ?_
      exact v_iretW o none rfl rfl hr dL_crossing_18 h
    · refine v_catch o [⟨0, 12, 15, 21⟩] ⟨0, 12, 19, 13⟩ [] (htab.trans rfl) (fun z hz => by rcases List.mem_singleton.mp hz with rfl; exact ⟨by decide, "java/lang/IndexOutOfBoundsException", (mU 754 (by decide +kernel) rfl), hT.2.2.2.2 ("java/lang/IllegalArgumentException", "java/lang/IndexOutOfBoundsException") (by decide)⟩) (by decide) (by decide) (name := "java/lang/IllegalArgumentException") (mU 606 (by decide +kernel) rfl) (hT.2.2.2.1 _ (List.mem_filter.mpr ⟨List.mem_of_getElem? (i := 619) (by decide +kernel), rfl⟩)) (fun q => ?_)
      refine v_astore o (lv' := [(5, .ref q), (0, .ref b0), (1, .int p1), (2, .int p2), (3, .int p3), (4, .ref b4)]) dL_crossing_19 (by decide) rfl ?_
      refine v_iconst o (v := 2) dL_crossing_21 (by decide) ?_
      exact v_iretW o none rfl rfl hr dL_crossing_22 h
  · refine v_i2l o dL_crossing_10 ?_
    refine v_last o hb4.1 hb4.2 (by unfold vp_in; decide) dL_crossing_11 ?_
    refine v_goto o (tgt := 23) dL_crossing_12 (by decide) ?_
    refine v_iconst o (v := 0) dL_crossing_23 (by decide) ?_
    exact v_iretW o (some r.toInt64) rfl rfl hr dL_crossing_24 h

def kL_strand (P : Sk) (f : St) (b0 : Nat) (p1 : Int32) (p2 : Int32) (p3 : Int32) (b4 : Nat) (K : Int32 → Option Int64 → St → Prop) : Prop :=
  kX7_strand P f b0 p1 p2 p3 (fun r g => K 0 (some r.toInt64) g) (fun E g => (E = "java/lang/IndexOutOfBoundsException" ∧ K 1 none g) ∨ (E = "java/lang/IllegalArgumentException" ∧ K 2 none g))
abbrev rwL_strand : Room := { frames := 8, cells := 3, slots := 18, locals := 134 }
set_option maxRecDepth 20000 in
set_option maxHeartbeats 4000000 in
theorem metL_strand (l : Launch) (hl : l.stackTraces = false) (G : Gl) (P : Sk) (f : St) (sz : Nat) (b0 : Nat) (p1 : Int32) (p2 : Int32) (p3 : Int32) (b4 : Nat) (hb0 : IsComp P b0) (hb4 : Ob P b4 10 ∧ sN P b4 = 1) (K : Int32 → Option Int64 → St → Prop) (h : kL_strand P f b0 p1 p2 p3 b4 K) : Met l yL_strand (wW yL_strand cL_strand 6 (some .int) [(0, 12, 15, 21), (0, 12, 19, 13)]) rwL_strand (PcX G P f sz [.ref b0, .int p1, .int p2, .int p3, .ref b4]) (QcW G P b4 sz K) 3 18 (frA P sz) := by
  refine v_metw (own := RL) (hh := [(0, 12, 15, 21), (0, 12, 19, 13)]) [.ref b0, .int p1, .int p2, .int p3, .ref b4] (by decide) rfl (Nat.le_of_ble_eq_true rfl) (fun p e s m args below meth c hsz o hr hT htab => ?_)
  refine v_lv (lv2 := [(0, .ref b0), (1, .int p1), (2, .int p2), (3, .int p3), (4, .ref b4)]) rfl ?_
  unfold kL_strand at h
  refine v_aload o 4 dL_strand_0 rfl ?_
  refine v_iconst o (v := 0) dL_strand_2 (by decide) ?_
  refine v_aload_n o 0 dL_strand_3 rfl ?_
  refine v_iload_n o 1 dL_strand_4 rfl ?_
  refine v_iload_n o 2 dL_strand_5 rfl ?_
  refine v_iload_n o 3 dL_strand_6 rfl ?_
  refine v_cw o hT [.int p1, .int p2, .int p3] [.int 0, .ref b4] (fun sz => metX7_strand l hl G P f sz b0 hb0 p1 p2 p3 _ _ h) (cxL_56 o.1.2.2.2.2 (by decide)) ⟨_, _, rfl⟩ (by decide) (wfComp_o hb0) rfl (Nat.le_of_ble_eq_true rfl) ⟨Nat.le_of_ble_eq_true rfl, Nat.le_of_ble_eq_true rfl⟩ dL_strand_7 rfl (fun E g h => ?_) (fun r g h => ?_)
  · rcases h with ⟨rfl, h⟩ | ⟨rfl, h⟩
    · refine v_catch o [] ⟨0, 12, 15, 21⟩ [⟨0, 12, 19, 13⟩] (htab.trans rfl) (fun z hz => by cases hz) (by decide) (by decide) (name := "java/lang/IndexOutOfBoundsException") (mU 754 (by decide +kernel) rfl) (hT.2.2.2.1 _ (List.mem_filter.mpr ⟨List.mem_of_getElem? (i := 769) (by decide +kernel), rfl⟩)) (fun q => ?_)
      refine v_astore o (lv' := [(5, .ref q), (0, .ref b0), (1, .int p1), (2, .int p2), (3, .int p3), (4, .ref b4)]) dL_strand_15 (by decide) rfl ?_
      refine v_iconst o (v := 1) dL_strand_17 (by decide) ?_
      exact v_iretW o none rfl rfl hr dL_strand_18 h
    · refine v_catch o [⟨0, 12, 15, 21⟩] ⟨0, 12, 19, 13⟩ [] (htab.trans rfl) (fun z hz => by rcases List.mem_singleton.mp hz with rfl; exact ⟨by decide, "java/lang/IndexOutOfBoundsException", (mU 754 (by decide +kernel) rfl), hT.2.2.2.2 ("java/lang/IllegalArgumentException", "java/lang/IndexOutOfBoundsException") (by decide)⟩) (by decide) (by decide) (name := "java/lang/IllegalArgumentException") (mU 606 (by decide +kernel) rfl) (hT.2.2.2.1 _ (List.mem_filter.mpr ⟨List.mem_of_getElem? (i := 619) (by decide +kernel), rfl⟩)) (fun q => ?_)
      refine v_astore o (lv' := [(5, .ref q), (0, .ref b0), (1, .int p1), (2, .int p2), (3, .int p3), (4, .ref b4)]) dL_strand_19 (by decide) rfl ?_
      refine v_iconst o (v := 2) dL_strand_21 (by decide) ?_
      exact v_iretW o none rfl rfl hr dL_strand_22 h
  · refine v_i2l o dL_strand_10 ?_
    refine v_last o hb4.1 hb4.2 (by unfold vp_in; decide) dL_strand_11 ?_
    refine v_goto o (tgt := 23) dL_strand_12 (by decide) ?_
    refine v_iconst o (v := 0) dL_strand_23 (by decide) ?_
    exact v_iretW o (some r.toInt64) rfl rfl hr dL_strand_24 h

def kL_loaf (P : Sk) (f : St) (b0 : Nat) (p1 : Int32) (p2 : Int32) (b3 : Nat) (K : Int32 → Option Int64 → St → Prop) : Prop :=
  kX7_loaf P f b0 p1 p2 (fun r g => K 0 (some r.toInt64) g) (fun E g => (E = "java/lang/IndexOutOfBoundsException" ∧ K 1 none g) ∨ (E = "java/lang/IllegalArgumentException" ∧ K 2 none g))
abbrev rwL_loaf : Room := { frames := 8, cells := 2, slots := 12, locals := 179 }
set_option maxRecDepth 20000 in
set_option maxHeartbeats 4000000 in
theorem metL_loaf (l : Launch) (hl : l.stackTraces = false) (G : Gl) (P : Sk) (f : St) (sz : Nat) (b0 : Nat) (p1 : Int32) (p2 : Int32) (b3 : Nat) (hb0 : IsComp P b0) (hb3 : Ob P b3 10 ∧ sN P b3 = 1) (K : Int32 → Option Int64 → St → Prop) (h : kL_loaf P f b0 p1 p2 b3 K) : Met l yL_loaf (wW yL_loaf cL_loaf 5 (some .int) [(0, 10, 13, 21), (0, 10, 17, 13)]) rwL_loaf (PcX G P f sz [.ref b0, .int p1, .int p2, .ref b3]) (QcW G P b3 sz K) 2 12 (frA P sz) := by
  refine v_metw (own := RL) (hh := [(0, 10, 13, 21), (0, 10, 17, 13)]) [.ref b0, .int p1, .int p2, .ref b3] (by decide) rfl (Nat.le_of_ble_eq_true rfl) (fun p e s m args below meth c hsz o hr hT htab => ?_)
  refine v_lv (lv2 := [(0, .ref b0), (1, .int p1), (2, .int p2), (3, .ref b3)]) rfl ?_
  unfold kL_loaf at h
  refine v_aload_n o 3 dL_loaf_0 rfl ?_
  refine v_iconst o (v := 0) dL_loaf_1 (by decide) ?_
  refine v_aload_n o 0 dL_loaf_2 rfl ?_
  refine v_iload_n o 1 dL_loaf_3 rfl ?_
  refine v_iload_n o 2 dL_loaf_4 rfl ?_
  refine v_cw o hT [.int p1, .int p2] [.int 0, .ref b3] (fun sz => metX7_loaf l hl G P f sz b0 hb0 p1 p2 _ _ h) (cxL_59 o.1.2.2.2.2 (by decide)) ⟨_, _, rfl⟩ (by decide) (wfComp_o hb0) rfl (Nat.le_of_ble_eq_true rfl) ⟨Nat.le_of_ble_eq_true rfl, Nat.le_of_ble_eq_true rfl⟩ dL_loaf_5 rfl (fun E g h => ?_) (fun r g h => ?_)
  · rcases h with ⟨rfl, h⟩ | ⟨rfl, h⟩
    · refine v_catch o [] ⟨0, 10, 13, 21⟩ [⟨0, 10, 17, 13⟩] (htab.trans rfl) (fun z hz => by cases hz) (by decide) (by decide) (name := "java/lang/IndexOutOfBoundsException") (mU 754 (by decide +kernel) rfl) (hT.2.2.2.1 _ (List.mem_filter.mpr ⟨List.mem_of_getElem? (i := 769) (by decide +kernel), rfl⟩)) (fun q => ?_)
      refine v_astore o (lv' := [(4, .ref q), (0, .ref b0), (1, .int p1), (2, .int p2), (3, .ref b3)]) dL_loaf_13 (by decide) rfl ?_
      refine v_iconst o (v := 1) dL_loaf_15 (by decide) ?_
      exact v_iretW o none rfl rfl hr dL_loaf_16 h
    · refine v_catch o [⟨0, 10, 13, 21⟩] ⟨0, 10, 17, 13⟩ [] (htab.trans rfl) (fun z hz => by rcases List.mem_singleton.mp hz with rfl; exact ⟨by decide, "java/lang/IndexOutOfBoundsException", (mU 754 (by decide +kernel) rfl), hT.2.2.2.2 ("java/lang/IllegalArgumentException", "java/lang/IndexOutOfBoundsException") (by decide)⟩) (by decide) (by decide) (name := "java/lang/IllegalArgumentException") (mU 606 (by decide +kernel) rfl) (hT.2.2.2.1 _ (List.mem_filter.mpr ⟨List.mem_of_getElem? (i := 619) (by decide +kernel), rfl⟩)) (fun q => ?_)
      refine v_astore o (lv' := [(4, .ref q), (0, .ref b0), (1, .int p1), (2, .int p2), (3, .ref b3)]) dL_loaf_17 (by decide) rfl ?_
      refine v_iconst o (v := 2) dL_loaf_19 (by decide) ?_
      exact v_iretW o none rfl rfl hr dL_loaf_20 h
  · refine v_i2l o dL_loaf_8 ?_
    refine v_last o hb3.1 hb3.2 (by unfold vp_in; decide) dL_loaf_9 ?_
    refine v_goto o (tgt := 21) dL_loaf_10 (by decide) ?_
    refine v_iconst o (v := 0) dL_loaf_21 (by decide) ?_
    exact v_iretW o (some r.toInt64) rfl rfl hr dL_loaf_22 h

def kL_loose (P : Sk) (f : St) (b0 : Nat) (p1 : Int32) (p2 : Int32) (b3 : Nat) (K : Int32 → Option Int64 → St → Prop) : Prop :=
  kX7_loose P f b0 p1 p2 (fun r g => K 0 (some r.toInt64) g) (fun E g => (E = "java/lang/IndexOutOfBoundsException" ∧ K 1 none g) ∨ (E = "java/lang/IllegalArgumentException" ∧ K 2 none g))
abbrev rwL_loose : Room := { frames := 8, cells := 2, slots := 12, locals := 134 }
set_option maxRecDepth 20000 in
set_option maxHeartbeats 4000000 in
theorem metL_loose (l : Launch) (hl : l.stackTraces = false) (G : Gl) (P : Sk) (f : St) (sz : Nat) (b0 : Nat) (p1 : Int32) (p2 : Int32) (b3 : Nat) (hb0 : IsComp P b0) (hb3 : Ob P b3 10 ∧ sN P b3 = 1) (K : Int32 → Option Int64 → St → Prop) (h : kL_loose P f b0 p1 p2 b3 K) : Met l yL_loose (wW yL_loose cL_loose 5 (some .int) [(0, 10, 13, 21), (0, 10, 17, 13)]) rwL_loose (PcX G P f sz [.ref b0, .int p1, .int p2, .ref b3]) (QcW G P b3 sz K) 2 12 (frA P sz) := by
  refine v_metw (own := RL) (hh := [(0, 10, 13, 21), (0, 10, 17, 13)]) [.ref b0, .int p1, .int p2, .ref b3] (by decide) rfl (Nat.le_of_ble_eq_true rfl) (fun p e s m args below meth c hsz o hr hT htab => ?_)
  refine v_lv (lv2 := [(0, .ref b0), (1, .int p1), (2, .int p2), (3, .ref b3)]) rfl ?_
  unfold kL_loose at h
  refine v_aload_n o 3 dL_loose_0 rfl ?_
  refine v_iconst o (v := 0) dL_loose_1 (by decide) ?_
  refine v_aload_n o 0 dL_loose_2 rfl ?_
  refine v_iload_n o 1 dL_loose_3 rfl ?_
  refine v_iload_n o 2 dL_loose_4 rfl ?_
  refine v_cw o hT [.int p1, .int p2] [.int 0, .ref b3] (fun sz => metX7_loose l hl G P f sz b0 hb0 p1 p2 _ _ h) (cxL_62 o.1.2.2.2.2 (by decide)) ⟨_, _, rfl⟩ (by decide) (wfComp_o hb0) rfl (Nat.le_of_ble_eq_true rfl) ⟨Nat.le_of_ble_eq_true rfl, Nat.le_of_ble_eq_true rfl⟩ dL_loose_5 rfl (fun E g h => ?_) (fun r g h => ?_)
  · rcases h with ⟨rfl, h⟩ | ⟨rfl, h⟩
    · refine v_catch o [] ⟨0, 10, 13, 21⟩ [⟨0, 10, 17, 13⟩] (htab.trans rfl) (fun z hz => by cases hz) (by decide) (by decide) (name := "java/lang/IndexOutOfBoundsException") (mU 754 (by decide +kernel) rfl) (hT.2.2.2.1 _ (List.mem_filter.mpr ⟨List.mem_of_getElem? (i := 769) (by decide +kernel), rfl⟩)) (fun q => ?_)
      refine v_astore o (lv' := [(4, .ref q), (0, .ref b0), (1, .int p1), (2, .int p2), (3, .ref b3)]) dL_loose_13 (by decide) rfl ?_
      refine v_iconst o (v := 1) dL_loose_15 (by decide) ?_
      exact v_iretW o none rfl rfl hr dL_loose_16 h
    · refine v_catch o [⟨0, 10, 13, 21⟩] ⟨0, 10, 17, 13⟩ [] (htab.trans rfl) (fun z hz => by rcases List.mem_singleton.mp hz with rfl; exact ⟨by decide, "java/lang/IndexOutOfBoundsException", (mU 754 (by decide +kernel) rfl), hT.2.2.2.2 ("java/lang/IllegalArgumentException", "java/lang/IndexOutOfBoundsException") (by decide)⟩) (by decide) (by decide) (name := "java/lang/IllegalArgumentException") (mU 606 (by decide +kernel) rfl) (hT.2.2.2.1 _ (List.mem_filter.mpr ⟨List.mem_of_getElem? (i := 619) (by decide +kernel), rfl⟩)) (fun q => ?_)
      refine v_astore o (lv' := [(4, .ref q), (0, .ref b0), (1, .int p1), (2, .int p2), (3, .ref b3)]) dL_loose_17 (by decide) rfl ?_
      refine v_iconst o (v := 2) dL_loose_19 (by decide) ?_
      exact v_iretW o none rfl rfl hr dL_loose_20 h
  · refine v_i2l o dL_loose_8 ?_
    refine v_last o hb3.1 hb3.2 (by unfold vp_in; decide) dL_loose_9 ?_
    refine v_goto o (tgt := 21) dL_loose_10 (by decide) ?_
    refine v_iconst o (v := 0) dL_loose_21 (by decide) ?_
    exact v_iretW o (some r.toInt64) rfl rfl hr dL_loose_22 h

def kL_count (P : Sk) (f : St) (b0 : Nat) (p1 : Int32) (b2 : Nat) (K : Int32 → Option Int64 → St → Prop) : Prop :=
  kX7_count P f b0 p1 (fun r g => K 0 (some r.toInt64) g) (fun E g => (E = "java/lang/IllegalArgumentException" ∧ K 1 none g))
abbrev rwL_count : Room := { frames := 8, cells := 1, slots := 6, locals := 151 }
set_option maxRecDepth 20000 in
set_option maxHeartbeats 4000000 in
theorem metL_count (l : Launch) (hl : l.stackTraces = false) (G : Gl) (P : Sk) (f : St) (sz : Nat) (b0 : Nat) (p1 : Int32) (b2 : Nat) (hb0 : IsComp P b0) (hb2 : Ob P b2 10 ∧ sN P b2 = 1) (K : Int32 → Option Int64 → St → Prop) (h : kL_count P f b0 p1 b2 K) : Met l yL_count (wW yL_count cL_count 4 (some .int) [(0, 9, 12, 13)]) rwL_count (PcX G P f sz [.ref b0, .int p1, .ref b2]) (QcW G P b2 sz K) 1 6 (frA P sz) := by
  refine v_metw (own := RL) (hh := [(0, 9, 12, 13)]) [.ref b0, .int p1, .ref b2] (by decide) rfl (Nat.le_of_ble_eq_true rfl) (fun p e s m args below meth c hsz o hr hT htab => ?_)
  refine v_lv (lv2 := [(0, .ref b0), (1, .int p1), (2, .ref b2)]) rfl ?_
  unfold kL_count at h
  refine v_aload_n o 2 dL_count_0 rfl ?_
  refine v_iconst o (v := 0) dL_count_1 (by decide) ?_
  refine v_aload_n o 0 dL_count_2 rfl ?_
  refine v_iload_n o 1 dL_count_3 rfl ?_
  refine v_cw o hT [.int p1] [.int 0, .ref b2] (fun sz => metX7_count l hl G P f sz b0 hb0 p1 _ _ h) (cxL_65 o.1.2.2.2.2 (by decide)) ⟨_, _, rfl⟩ (by decide) (wfComp_o hb0) rfl (Nat.le_of_ble_eq_true rfl) ⟨Nat.le_of_ble_eq_true rfl, Nat.le_of_ble_eq_true rfl⟩ dL_count_4 rfl (fun E g h => ?_) (fun r g h => ?_)
  · rcases h with ⟨rfl, h⟩
    · refine v_catch o [] ⟨0, 9, 12, 13⟩ [] (htab.trans rfl) (fun z hz => by cases hz) (by decide) (by decide) (name := "java/lang/IllegalArgumentException") (mU 606 (by decide +kernel) rfl) (hT.2.2.2.1 _ (List.mem_filter.mpr ⟨List.mem_of_getElem? (i := 619) (by decide +kernel), rfl⟩)) (fun q => ?_)
      refine v_astore_n o (lv' := [(3, .ref q), (0, .ref b0), (1, .int p1), (2, .ref b2)]) dL_count_12 rfl (by decide) rfl ?_
      refine v_iconst o (v := 1) dL_count_13 (by decide) ?_
      exact v_iretW o none rfl rfl hr dL_count_14 h
  · refine v_i2l o dL_count_7 ?_
    refine v_last o hb2.1 hb2.2 (by unfold vp_in; decide) dL_count_8 ?_
    refine v_goto o (tgt := 15) dL_count_9 (by decide) ?_
    refine v_iconst o (v := 0) dL_count_15 (by decide) ?_
    exact v_iretW o (some r.toInt64) rfl rfl hr dL_count_16 h

def kL_whyNot (P : Sk) (f : St) (b0 : Nat) (p1 : Int32) (p2 : Int32) (p3 : Int32) (b4 : Nat) (K : Int32 → Option Int64 → St → Prop) : Prop :=
  kX7_whyNot P f b0 p1 p2 p3 (fun r g => K 0 (some r.toInt64) g) (fun E g => (E = "java/lang/IndexOutOfBoundsException" ∧ K 1 none g))
abbrev rwL_whyNot : Room := { frames := 9, cells := 2, slots := 12, locals := 158 }
set_option maxRecDepth 20000 in
set_option maxHeartbeats 4000000 in
theorem metL_whyNot (l : Launch) (hl : l.stackTraces = false) (G : Gl) (P : Sk) (f : St) (sz : Nat) (b0 : Nat) (p1 : Int32) (p2 : Int32) (p3 : Int32) (b4 : Nat) (hb0 : IsComp P b0) (hb4 : Ob P b4 10 ∧ sN P b4 = 1) (K : Int32 → Option Int64 → St → Prop) (h : kL_whyNot P f b0 p1 p2 p3 b4 K) : Met l yL_whyNot (wW yL_whyNot cL_whyNot 6 (some .int) [(0, 12, 15, 21)]) rwL_whyNot (PcX G P f sz [.ref b0, .int p1, .int p2, .int p3, .ref b4]) (QcW G P b4 sz K) 2 12 (frA P sz) := by
  refine v_metw (own := RL) (hh := [(0, 12, 15, 21)]) [.ref b0, .int p1, .int p2, .int p3, .ref b4] (by decide) rfl (Nat.le_of_ble_eq_true rfl) (fun p e s m args below meth c hsz o hr hT htab => ?_)
  refine v_lv (lv2 := [(0, .ref b0), (1, .int p1), (2, .int p2), (3, .int p3), (4, .ref b4)]) rfl ?_
  unfold kL_whyNot at h
  refine v_aload o 4 dL_whyNot_0 rfl ?_
  refine v_iconst o (v := 0) dL_whyNot_2 (by decide) ?_
  refine v_aload_n o 0 dL_whyNot_3 rfl ?_
  refine v_iload_n o 1 dL_whyNot_4 rfl ?_
  refine v_iload_n o 2 dL_whyNot_5 rfl ?_
  refine v_iload_n o 3 dL_whyNot_6 rfl ?_
  refine v_cw o hT [.int p1, .int p2, .int p3] [.int 0, .ref b4] (fun sz => metX7_whyNot l hl G P f sz b0 hb0 p1 p2 p3 _ _ h) (cxL_68 o.1.2.2.2.2 (by decide)) ⟨_, _, rfl⟩ (by decide) (wfComp_o hb0) rfl (Nat.le_of_ble_eq_true rfl) ⟨Nat.le_of_ble_eq_true rfl, Nat.le_of_ble_eq_true rfl⟩ dL_whyNot_7 rfl (fun E g h => ?_) (fun r g h => ?_)
  · rcases h with ⟨rfl, h⟩
    · refine v_catch o [] ⟨0, 12, 15, 21⟩ [] (htab.trans rfl) (fun z hz => by cases hz) (by decide) (by decide) (name := "java/lang/IndexOutOfBoundsException") (mU 754 (by decide +kernel) rfl) (hT.2.2.2.1 _ (List.mem_filter.mpr ⟨List.mem_of_getElem? (i := 769) (by decide +kernel), rfl⟩)) (fun q => ?_)
      refine v_astore o (lv' := [(5, .ref q), (0, .ref b0), (1, .int p1), (2, .int p2), (3, .int p3), (4, .ref b4)]) dL_whyNot_15 (by decide) rfl ?_
      refine v_iconst o (v := 1) dL_whyNot_17 (by decide) ?_
      exact v_iretW o none rfl rfl hr dL_whyNot_18 h
  · refine v_i2l o dL_whyNot_10 ?_
    refine v_last o hb4.1 hb4.2 (by unfold vp_in; decide) dL_whyNot_11 ?_
    refine v_goto o (tgt := 19) dL_whyNot_12 (by decide) ?_
    refine v_iconst o (v := 0) dL_whyNot_19 (by decide) ?_
    exact v_iretW o (some r.toInt64) rfl rfl hr dL_whyNot_20 h

def kL_ifChanged (P : Sk) (f : St) (b0 : Nat) (p1 : Int32) (p2 : Int32) (b3 : Nat) (K : Int32 → Option Int64 → St → Prop) : Prop :=
  kX7_ifChanged P f b0 p1 p2 (fun r g => K 0 (some r.toInt64) g) (fun E g => (E = "java/lang/IndexOutOfBoundsException" ∧ K 1 none g) ∨ (E = "java/lang/IllegalArgumentException" ∧ K 2 none g))
abbrev rwL_ifChanged : Room := { frames := 8, cells := 2, slots := 12, locals := 136 }
set_option maxRecDepth 20000 in
set_option maxHeartbeats 4000000 in
theorem metL_ifChanged (l : Launch) (hl : l.stackTraces = false) (G : Gl) (P : Sk) (f : St) (sz : Nat) (b0 : Nat) (p1 : Int32) (p2 : Int32) (b3 : Nat) (hb0 : IsComp P b0) (hb3 : Ob P b3 10 ∧ sN P b3 = 1) (K : Int32 → Option Int64 → St → Prop) (h : kL_ifChanged P f b0 p1 p2 b3 K) : Met l yL_ifChanged (wW yL_ifChanged cL_ifChanged 5 (some .int) [(0, 10, 13, 21), (0, 10, 17, 13)]) rwL_ifChanged (PcX G P f sz [.ref b0, .int p1, .int p2, .ref b3]) (QcW G P b3 sz K) 2 12 (frA P sz) := by
  refine v_metw (own := RL) (hh := [(0, 10, 13, 21), (0, 10, 17, 13)]) [.ref b0, .int p1, .int p2, .ref b3] (by decide) rfl (Nat.le_of_ble_eq_true rfl) (fun p e s m args below meth c hsz o hr hT htab => ?_)
  refine v_lv (lv2 := [(0, .ref b0), (1, .int p1), (2, .int p2), (3, .ref b3)]) rfl ?_
  unfold kL_ifChanged at h
  refine v_aload_n o 3 dL_ifChanged_0 rfl ?_
  refine v_iconst o (v := 0) dL_ifChanged_1 (by decide) ?_
  refine v_aload_n o 0 dL_ifChanged_2 rfl ?_
  refine v_iload_n o 1 dL_ifChanged_3 rfl ?_
  refine v_iload_n o 2 dL_ifChanged_4 rfl ?_
  refine v_cw o hT [.int p1, .int p2] [.int 0, .ref b3] (fun sz => metX7_ifChanged l hl G P f sz b0 hb0 p1 p2 _ _ h) (cxL_71 o.1.2.2.2.2 (by decide)) ⟨_, _, rfl⟩ (by decide) (wfComp_o hb0) rfl (Nat.le_of_ble_eq_true rfl) ⟨Nat.le_of_ble_eq_true rfl, Nat.le_of_ble_eq_true rfl⟩ dL_ifChanged_5 rfl (fun E g h => ?_) (fun r g h => ?_)
  · rcases h with ⟨rfl, h⟩ | ⟨rfl, h⟩
    · refine v_catch o [] ⟨0, 10, 13, 21⟩ [⟨0, 10, 17, 13⟩] (htab.trans rfl) (fun z hz => by cases hz) (by decide) (by decide) (name := "java/lang/IndexOutOfBoundsException") (mU 754 (by decide +kernel) rfl) (hT.2.2.2.1 _ (List.mem_filter.mpr ⟨List.mem_of_getElem? (i := 769) (by decide +kernel), rfl⟩)) (fun q => ?_)
      refine v_astore o (lv' := [(4, .ref q), (0, .ref b0), (1, .int p1), (2, .int p2), (3, .ref b3)]) dL_ifChanged_13 (by decide) rfl ?_
      refine v_iconst o (v := 1) dL_ifChanged_15 (by decide) ?_
      exact v_iretW o none rfl rfl hr dL_ifChanged_16 h
    · refine v_catch o [⟨0, 10, 13, 21⟩] ⟨0, 10, 17, 13⟩ [] (htab.trans rfl) (fun z hz => by rcases List.mem_singleton.mp hz with rfl; exact ⟨by decide, "java/lang/IndexOutOfBoundsException", (mU 754 (by decide +kernel) rfl), hT.2.2.2.2 ("java/lang/IllegalArgumentException", "java/lang/IndexOutOfBoundsException") (by decide)⟩) (by decide) (by decide) (name := "java/lang/IllegalArgumentException") (mU 606 (by decide +kernel) rfl) (hT.2.2.2.1 _ (List.mem_filter.mpr ⟨List.mem_of_getElem? (i := 619) (by decide +kernel), rfl⟩)) (fun q => ?_)
      refine v_astore o (lv' := [(4, .ref q), (0, .ref b0), (1, .int p1), (2, .int p2), (3, .ref b3)]) dL_ifChanged_17 (by decide) rfl ?_
      refine v_iconst o (v := 2) dL_ifChanged_19 (by decide) ?_
      exact v_iretW o none rfl rfl hr dL_ifChanged_20 h
  · refine v_i2l o dL_ifChanged_8 ?_
    refine v_last o hb3.1 hb3.2 (by unfold vp_in; decide) dL_ifChanged_9 ?_
    refine v_goto o (tgt := 21) dL_ifChanged_10 (by decide) ?_
    refine v_iconst o (v := 0) dL_ifChanged_21 (by decide) ?_
    exact v_iretW o (some r.toInt64) rfl rfl hr dL_ifChanged_22 h

def kL_alike (P : Sk) (f : St) (b0 : Nat) (p1 : Int32) (p2 : Int32) (b3 : Nat) (K : Int32 → Option Int64 → St → Prop) : Prop :=
  kX7_alike P f b0 p1 p2 (fun r g => K 0 (some r.toInt64) g) (fun E g => (E = "java/lang/IndexOutOfBoundsException" ∧ K 1 none g))
abbrev rwL_alike : Room := { frames := 8, cells := 2, slots := 12, locals := 138 }
set_option maxRecDepth 20000 in
set_option maxHeartbeats 4000000 in
theorem metL_alike (l : Launch) (hl : l.stackTraces = false) (G : Gl) (P : Sk) (f : St) (sz : Nat) (b0 : Nat) (p1 : Int32) (p2 : Int32) (b3 : Nat) (hb0 : IsComp P b0) (hb3 : Ob P b3 10 ∧ sN P b3 = 1) (K : Int32 → Option Int64 → St → Prop) (h : kL_alike P f b0 p1 p2 b3 K) : Met l yL_alike (wW yL_alike cL_alike 5 (some .int) [(0, 10, 13, 21)]) rwL_alike (PcX G P f sz [.ref b0, .int p1, .int p2, .ref b3]) (QcW G P b3 sz K) 2 12 (frA P sz) := by
  refine v_metw (own := RL) (hh := [(0, 10, 13, 21)]) [.ref b0, .int p1, .int p2, .ref b3] (by decide) rfl (Nat.le_of_ble_eq_true rfl) (fun p e s m args below meth c hsz o hr hT htab => ?_)
  refine v_lv (lv2 := [(0, .ref b0), (1, .int p1), (2, .int p2), (3, .ref b3)]) rfl ?_
  unfold kL_alike at h
  refine v_aload_n o 3 dL_alike_0 rfl ?_
  refine v_iconst o (v := 0) dL_alike_1 (by decide) ?_
  refine v_aload_n o 0 dL_alike_2 rfl ?_
  refine v_iload_n o 1 dL_alike_3 rfl ?_
  refine v_iload_n o 2 dL_alike_4 rfl ?_
  refine v_cw o hT [.int p1, .int p2] [.int 0, .ref b3] (fun sz => metX7_alike l hl G P f sz b0 hb0 p1 p2 _ _ h) (cxL_74 o.1.2.2.2.2 (by decide)) ⟨_, _, rfl⟩ (by decide) (wfComp_o hb0) rfl (Nat.le_of_ble_eq_true rfl) ⟨Nat.le_of_ble_eq_true rfl, Nat.le_of_ble_eq_true rfl⟩ dL_alike_5 rfl (fun E g h => ?_) (fun r g h => ?_)
  · rcases h with ⟨rfl, h⟩
    · refine v_catch o [] ⟨0, 10, 13, 21⟩ [] (htab.trans rfl) (fun z hz => by cases hz) (by decide) (by decide) (name := "java/lang/IndexOutOfBoundsException") (mU 754 (by decide +kernel) rfl) (hT.2.2.2.1 _ (List.mem_filter.mpr ⟨List.mem_of_getElem? (i := 769) (by decide +kernel), rfl⟩)) (fun q => ?_)
      refine v_astore o (lv' := [(4, .ref q), (0, .ref b0), (1, .int p1), (2, .int p2), (3, .ref b3)]) dL_alike_13 (by decide) rfl ?_
      refine v_iconst o (v := 1) dL_alike_15 (by decide) ?_
      exact v_iretW o none rfl rfl hr dL_alike_16 h
  · refine v_i2l o dL_alike_8 ?_
    refine v_last o hb3.1 hb3.2 (by unfold vp_in; decide) dL_alike_9 ?_
    refine v_goto o (tgt := 17) dL_alike_10 (by decide) ?_
    refine v_iconst o (v := 0) dL_alike_17 (by decide) ?_
    exact v_iretW o (some r.toInt64) rfl rfl hr dL_alike_18 h

def kL_period (P : Sk) (f : St) (b0 : Nat) (p1 : Int32) (b2 : Nat) (K : Int32 → Option Int64 → St → Prop) : Prop :=
  kX7_period P f b0 p1 (fun r g => K 0 (some r.toInt64) g) (fun E g => (E = "java/lang/IndexOutOfBoundsException" ∧ K 1 none g))
abbrev rwL_period : Room := { frames := 8, cells := 1, slots := 6, locals := 132 }
set_option maxRecDepth 20000 in
set_option maxHeartbeats 4000000 in
theorem metL_period (l : Launch) (hl : l.stackTraces = false) (G : Gl) (P : Sk) (f : St) (sz : Nat) (b0 : Nat) (p1 : Int32) (b2 : Nat) (hb0 : IsComp P b0) (hb2 : Ob P b2 10 ∧ sN P b2 = 1) (K : Int32 → Option Int64 → St → Prop) (h : kL_period P f b0 p1 b2 K) : Met l yL_period (wW yL_period cL_period 4 (some .int) [(0, 9, 12, 21)]) rwL_period (PcX G P f sz [.ref b0, .int p1, .ref b2]) (QcW G P b2 sz K) 1 6 (frA P sz) := by
  refine v_metw (own := RL) (hh := [(0, 9, 12, 21)]) [.ref b0, .int p1, .ref b2] (by decide) rfl (Nat.le_of_ble_eq_true rfl) (fun p e s m args below meth c hsz o hr hT htab => ?_)
  refine v_lv (lv2 := [(0, .ref b0), (1, .int p1), (2, .ref b2)]) rfl ?_
  unfold kL_period at h
  refine v_aload_n o 2 dL_period_0 rfl ?_
  refine v_iconst o (v := 0) dL_period_1 (by decide) ?_
  refine v_aload_n o 0 dL_period_2 rfl ?_
  refine v_iload_n o 1 dL_period_3 rfl ?_
  refine v_cw o hT [.int p1] [.int 0, .ref b2] (fun sz => metX7_period l hl G P f sz b0 hb0 p1 _ _ h) (cxL_77 o.1.2.2.2.2 (by decide)) ⟨_, _, rfl⟩ (by decide) (wfComp_o hb0) rfl (Nat.le_of_ble_eq_true rfl) ⟨Nat.le_of_ble_eq_true rfl, Nat.le_of_ble_eq_true rfl⟩ dL_period_4 rfl (fun E g h => ?_) (fun r g h => ?_)
  · rcases h with ⟨rfl, h⟩
    · refine v_catch o [] ⟨0, 9, 12, 21⟩ [] (htab.trans rfl) (fun z hz => by cases hz) (by decide) (by decide) (name := "java/lang/IndexOutOfBoundsException") (mU 754 (by decide +kernel) rfl) (hT.2.2.2.1 _ (List.mem_filter.mpr ⟨List.mem_of_getElem? (i := 769) (by decide +kernel), rfl⟩)) (fun q => ?_)
      refine v_astore_n o (lv' := [(3, .ref q), (0, .ref b0), (1, .int p1), (2, .ref b2)]) dL_period_12 rfl (by decide) rfl ?_
      refine v_iconst o (v := 1) dL_period_13 (by decide) ?_
      exact v_iretW o none rfl rfl hr dL_period_14 h
  · refine v_i2l o dL_period_7 ?_
    refine v_last o hb2.1 hb2.2 (by unfold vp_in; decide) dL_period_8 ?_
    refine v_goto o (tgt := 15) dL_period_9 (by decide) ?_
    refine v_iconst o (v := 0) dL_period_15 (by decide) ?_
    exact v_iretW o (some r.toInt64) rfl rfl hr dL_period_16 h
