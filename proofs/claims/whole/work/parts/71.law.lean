theorem cq84 {R : Room} {s : State} {args : Array Value} (ht : ∀ w ∈ lw_U, w.before args s = true) (hR : rwL_lay.frames + 1 ≤ R.frames ∧ 8 + (3 + 11) + rwL_lay.locals ≤ R.locals) : vx_CSW R s args RL 84 yL_lay cL_lay 3 (some .int) [(0, 8, 11, 13), (0, 8, 14, 15)] (wW yL_lay cL_lay 3 (some .int) [(0, 8, 11, 13), (0, 8, 14, 15)]) rwL_lay 1 6 2 := vx_cwSW 2 ht (gWS (mU 603 (by decide +kernel) rfl) (mU 604 (by decide +kernel) rfl) (mU 81 (by decide +kernel) rfl) (mU 605 (by decide +kernel) rfl)) rfl rfl rfl ⟨by decide +kernel, by decide +kernel, by decide +kernel⟩ hR
theorem cq93 {R : Room} {s : State} {args : Array Value} (ht : ∀ w ∈ lw_U, w.before args s = true) (hR : rwL_bake.frames + 1 ≤ R.frames ∧ 8 + (4 + 11) + rwL_bake.locals ≤ R.locals) : vx_CSW R s args RL 93 yL_bake cL_bake 4 (some .int) [(0, 9, 12, 21)] (wW yL_bake cL_bake 4 (some .int) [(0, 9, 12, 21)]) rwL_bake 1 6 3 := vx_cwSW 3 ht (gWS (mU 751 (by decide +kernel) rfl) (mU 752 (by decide +kernel) rfl) (mU 81 (by decide +kernel) rfl) (mU 753 (by decide +kernel) rfl)) rfl rfl rfl ⟨by decide +kernel, by decide +kernel, by decide +kernel⟩ hR
theorem cq97 {R : Room} {s : State} {args : Array Value} (ht : ∀ w ∈ lw_U, w.before args s = true) (hR : rwL_cross.frames + 1 ≤ R.frames ∧ 8 + (6 + 11) + rwL_cross.locals ≤ R.locals) : vx_CSW R s args RL 97 yL_cross cL_cross 6 (some .int) [(0, 12, 15, 21), (0, 12, 19, 15)] (wW yL_cross cL_cross 6 (some .int) [(0, 12, 15, 21), (0, 12, 19, 15)]) rwL_cross 3 18 5 := vx_cwSW 5 ht (gWS (mU 788 (by decide +kernel) rfl) (mU 789 (by decide +kernel) rfl) (mU 81 (by decide +kernel) rfl) (mU 790 (by decide +kernel) rfl)) rfl rfl rfl ⟨by decide +kernel, by decide +kernel, by decide +kernel⟩ hR
theorem cq101 {R : Room} {s : State} {args : Array Value} (ht : ∀ w ∈ lw_U, w.before args s = true) (hR : rwL_back.frames + 1 ≤ R.frames ∧ 8 + (4 + 11) + rwL_back.locals ≤ R.locals) : vx_CSW R s args RL 101 yL_back cL_back 4 (some .int) [(0, 9, 12, 21), (0, 9, 15, 15)] (wW yL_back cL_back 4 (some .int) [(0, 9, 12, 21), (0, 9, 15, 15)]) rwL_back 2 12 3 := vx_cwSW 3 ht (gWS (mU 817 (by decide +kernel) rfl) (mU 818 (by decide +kernel) rfl) (mU 81 (by decide +kernel) rfl) (mU 819 (by decide +kernel) rfl)) rfl rfl rfl ⟨by decide +kernel, by decide +kernel, by decide +kernel⟩ hR
theorem cq104 {R : Room} {s : State} {args : Array Value} (ht : ∀ w ∈ lw_U, w.before args s = true) (hR : rwL_change.frames + 1 ≤ R.frames ∧ 8 + (5 + 11) + rwL_change.locals ≤ R.locals) : vx_CSW R s args RL 104 yL_change cL_change 5 (some .int) [(0, 10, 13, 21), (0, 10, 17, 13), (0, 10, 21, 15)] (wW yL_change cL_change 5 (some .int) [(0, 10, 13, 21), (0, 10, 17, 13), (0, 10, 21, 15)]) rwL_change 3 18 4 := vx_cwSW 4 ht (gWS (mU 829 (by decide +kernel) rfl) (mU 830 (by decide +kernel) rfl) (mU 81 (by decide +kernel) rfl) (mU 831 (by decide +kernel) rfl)) rfl rfl rfl ⟨by decide +kernel, by decide +kernel, by decide +kernel⟩ hR
theorem cq108 {R : Room} {s : State} {args : Array Value} (ht : ∀ w ∈ lw_U, w.before args s = true) (hR : rwL_join.frames + 1 ≤ R.frames ∧ 8 + (5 + 11) + rwL_join.locals ≤ R.locals) : vx_CSW R s args RL 108 yL_join cL_join 5 (some .int) [(0, 10, 13, 21), (0, 10, 17, 15)] (wW yL_join cL_join 5 (some .int) [(0, 10, 13, 21), (0, 10, 17, 15)]) rwL_join 3 18 4 := vx_cwSW 4 ht (gWS (mU 848 (by decide +kernel) rfl) (mU 849 (by decide +kernel) rfl) (mU 81 (by decide +kernel) rfl) (mU 850 (by decide +kernel) rfl)) rfl rfl rfl ⟨by decide +kernel, by decide +kernel, by decide +kernel⟩ hR
theorem cq111 {R : Room} {s : State} {args : Array Value} (ht : ∀ w ∈ lw_U, w.before args s = true) (hR : rwL_append.frames + 1 ≤ R.frames ∧ 8 + (4 + 11) + rwL_append.locals ≤ R.locals) : vx_CSW R s args RL 111 yL_append cL_append 4 (some .int) [(0, 9, 12, 13), (0, 9, 15, 15)] (wW yL_append cL_append 4 (some .int) [(0, 9, 12, 13), (0, 9, 15, 15)]) rwL_append 1 6 3 := vx_cwSW 3 ht (gWS (mU 863 (by decide +kernel) rfl) (mU 864 (by decide +kernel) rfl) (mU 81 (by decide +kernel) rfl) (mU 865 (by decide +kernel) rfl)) rfl rfl rfl ⟨by decide +kernel, by decide +kernel, by decide +kernel⟩ hR
theorem cq123 {R : Room} {s : State} {args : Array Value} (ht : ∀ w ∈ lw_U, w.before args s = true) (hR : rwL_work.frames + 1 ≤ R.frames ∧ 8 + (3 + 11) + rwL_work.locals ≤ R.locals) : vx_CSW R s args RL 123 yL_work cL_work 3 (some .int) [(0, 8, 11, 13)] (wW yL_work cL_work 3 (some .int) [(0, 8, 11, 13)]) rwL_work 1 6 2 := vx_cwSW 2 ht (gWS (mU 877 (by decide +kernel) rfl) (mU 878 (by decide +kernel) rfl) (mU 81 (by decide +kernel) rfl) (mU 879 (by decide +kernel) rfl)) rfl rfl rfl ⟨by decide +kernel, by decide +kernel, by decide +kernel⟩ hR
theorem cq126 {R : Room} {s : State} {args : Array Value} (ht : ∀ w ∈ lw_U, w.before args s = true) (hR : rwL_stopped.frames + 1 ≤ R.frames ∧ 8 + (4 + 11) + rwL_stopped.locals ≤ R.locals) : vx_CSW R s args RL 126 yL_stopped cL_stopped 4 (some .int) [(0, 9, 12, 13)] (wW yL_stopped cL_stopped 4 (some .int) [(0, 9, 12, 13)]) rwL_stopped 1 6 3 := vx_cwSW 3 ht (gWS (mU 915 (by decide +kernel) rfl) (mU 916 (by decide +kernel) rfl) (mU 81 (by decide +kernel) rfl) (mU 917 (by decide +kernel) rfl)) rfl rfl rfl ⟨by decide +kernel, by decide +kernel, by decide +kernel⟩ hR
theorem cq129 {R : Room} {s : State} {args : Array Value} (ht : ∀ w ∈ lw_U, w.before args s = true) (hR : rwL_undo.frames + 1 ≤ R.frames ∧ 8 + (3 + 11) + rwL_undo.locals ≤ R.locals) : vx_CSW R s args RL 129 yL_undo cL_undo 3 (some .int) [(0, 8, 11, 15)] (wW yL_undo cL_undo 3 (some .int) [(0, 8, 11, 15)]) rwL_undo 1 6 2 := vx_cwSW 2 ht (gWS (mU 922 (by decide +kernel) rfl) (mU 923 (by decide +kernel) rfl) (mU 81 (by decide +kernel) rfl) (mU 924 (by decide +kernel) rfl)) rfl rfl rfl ⟨by decide +kernel, by decide +kernel, by decide +kernel⟩ hR
theorem cq136 {R : Room} {s : State} {args : Array Value} (ht : ∀ w ∈ lw_U, w.before args s = true) (hR : rwL_restore.frames + 1 ≤ R.frames ∧ 8 + (3 + 11) + rwL_restore.locals ≤ R.locals) : vx_CSW R s args RL 136 yL_restore cL_restore 3 (some .int) [(0, 8, 11, 15)] (wW yL_restore cL_restore 3 (some .int) [(0, 8, 11, 15)]) rwL_restore 1 6 2 := vx_cwSW 2 ht (gWS (mU 934 (by decide +kernel) rfl) (mU 935 (by decide +kernel) rfl) (mU 81 (by decide +kernel) rfl) (mU 936 (by decide +kernel) rfl)) rfl rfl rfl ⟨by decide +kernel, by decide +kernel, by decide +kernel⟩ hR
theorem cq139 {R : Room} {s : State} {args : Array Value} (ht : ∀ w ∈ lw_U, w.before args s = true) (hR : rwL_crossing.frames + 1 ≤ R.frames ∧ 8 + (6 + 11) + rwL_crossing.locals ≤ R.locals) : vx_CSW R s args RL 139 yL_crossing cL_crossing 6 (some .int) [(0, 12, 15, 21), (0, 12, 19, 13)] (wW yL_crossing cL_crossing 6 (some .int) [(0, 12, 15, 21), (0, 12, 19, 13)]) rwL_crossing 3 18 5 := vx_cwSW 5 ht (gWS (mU 942 (by decide +kernel) rfl) (mU 943 (by decide +kernel) rfl) (mU 81 (by decide +kernel) rfl) (mU 944 (by decide +kernel) rfl)) rfl rfl rfl ⟨by decide +kernel, by decide +kernel, by decide +kernel⟩ hR
theorem cq143 {R : Room} {s : State} {args : Array Value} (ht : ∀ w ∈ lw_U, w.before args s = true) (hR : rwL_strand.frames + 1 ≤ R.frames ∧ 8 + (6 + 11) + rwL_strand.locals ≤ R.locals) : vx_CSW R s args RL 143 yL_strand cL_strand 6 (some .int) [(0, 12, 15, 21), (0, 12, 19, 13)] (wW yL_strand cL_strand 6 (some .int) [(0, 12, 15, 21), (0, 12, 19, 13)]) rwL_strand 3 18 5 := vx_cwSW 5 ht (gWS (mU 950 (by decide +kernel) rfl) (mU 951 (by decide +kernel) rfl) (mU 81 (by decide +kernel) rfl) (mU 952 (by decide +kernel) rfl)) rfl rfl rfl ⟨by decide +kernel, by decide +kernel, by decide +kernel⟩ hR
theorem cq146 {R : Room} {s : State} {args : Array Value} (ht : ∀ w ∈ lw_U, w.before args s = true) (hR : rwL_loaf.frames + 1 ≤ R.frames ∧ 8 + (5 + 11) + rwL_loaf.locals ≤ R.locals) : vx_CSW R s args RL 146 yL_loaf cL_loaf 5 (some .int) [(0, 10, 13, 21), (0, 10, 17, 13)] (wW yL_loaf cL_loaf 5 (some .int) [(0, 10, 13, 21), (0, 10, 17, 13)]) rwL_loaf 2 12 4 := vx_cwSW 4 ht (gWS (mU 958 (by decide +kernel) rfl) (mU 959 (by decide +kernel) rfl) (mU 81 (by decide +kernel) rfl) (mU 960 (by decide +kernel) rfl)) rfl rfl rfl ⟨by decide +kernel, by decide +kernel, by decide +kernel⟩ hR
theorem cq149 {R : Room} {s : State} {args : Array Value} (ht : ∀ w ∈ lw_U, w.before args s = true) (hR : rwL_loose.frames + 1 ≤ R.frames ∧ 8 + (5 + 11) + rwL_loose.locals ≤ R.locals) : vx_CSW R s args RL 149 yL_loose cL_loose 5 (some .int) [(0, 10, 13, 21), (0, 10, 17, 13)] (wW yL_loose cL_loose 5 (some .int) [(0, 10, 13, 21), (0, 10, 17, 13)]) rwL_loose 2 12 4 := vx_cwSW 4 ht (gWS (mU 965 (by decide +kernel) rfl) (mU 966 (by decide +kernel) rfl) (mU 81 (by decide +kernel) rfl) (mU 967 (by decide +kernel) rfl)) rfl rfl rfl ⟨by decide +kernel, by decide +kernel, by decide +kernel⟩ hR
theorem cq152 {R : Room} {s : State} {args : Array Value} (ht : ∀ w ∈ lw_U, w.before args s = true) (hR : rwL_count.frames + 1 ≤ R.frames ∧ 8 + (4 + 11) + rwL_count.locals ≤ R.locals) : vx_CSW R s args RL 152 yL_count cL_count 4 (some .int) [(0, 9, 12, 13)] (wW yL_count cL_count 4 (some .int) [(0, 9, 12, 13)]) rwL_count 1 6 3 := vx_cwSW 3 ht (gWS (mU 973 (by decide +kernel) rfl) (mU 974 (by decide +kernel) rfl) (mU 81 (by decide +kernel) rfl) (mU 975 (by decide +kernel) rfl)) rfl rfl rfl ⟨by decide +kernel, by decide +kernel, by decide +kernel⟩ hR
theorem cq155 {R : Room} {s : State} {args : Array Value} (ht : ∀ w ∈ lw_U, w.before args s = true) (hR : rwL_whyNot.frames + 1 ≤ R.frames ∧ 8 + (6 + 11) + rwL_whyNot.locals ≤ R.locals) : vx_CSW R s args RL 155 yL_whyNot cL_whyNot 6 (some .int) [(0, 12, 15, 21)] (wW yL_whyNot cL_whyNot 6 (some .int) [(0, 12, 15, 21)]) rwL_whyNot 2 12 5 := vx_cwSW 5 ht (gWS (mU 980 (by decide +kernel) rfl) (mU 981 (by decide +kernel) rfl) (mU 81 (by decide +kernel) rfl) (mU 982 (by decide +kernel) rfl)) rfl rfl rfl ⟨by decide +kernel, by decide +kernel, by decide +kernel⟩ hR
theorem cq158 {R : Room} {s : State} {args : Array Value} (ht : ∀ w ∈ lw_U, w.before args s = true) (hR : rwL_ifChanged.frames + 1 ≤ R.frames ∧ 8 + (5 + 11) + rwL_ifChanged.locals ≤ R.locals) : vx_CSW R s args RL 158 yL_ifChanged cL_ifChanged 5 (some .int) [(0, 10, 13, 21), (0, 10, 17, 13)] (wW yL_ifChanged cL_ifChanged 5 (some .int) [(0, 10, 13, 21), (0, 10, 17, 13)]) rwL_ifChanged 2 12 4 := vx_cwSW 4 ht (gWS (mU 987 (by decide +kernel) rfl) (mU 988 (by decide +kernel) rfl) (mU 81 (by decide +kernel) rfl) (mU 989 (by decide +kernel) rfl)) rfl rfl rfl ⟨by decide +kernel, by decide +kernel, by decide +kernel⟩ hR
theorem cq161 {R : Room} {s : State} {args : Array Value} (ht : ∀ w ∈ lw_U, w.before args s = true) (hR : rwL_alike.frames + 1 ≤ R.frames ∧ 8 + (5 + 11) + rwL_alike.locals ≤ R.locals) : vx_CSW R s args RL 161 yL_alike cL_alike 5 (some .int) [(0, 10, 13, 21)] (wW yL_alike cL_alike 5 (some .int) [(0, 10, 13, 21)]) rwL_alike 2 12 4 := vx_cwSW 4 ht (gWS (mU 994 (by decide +kernel) rfl) (mU 995 (by decide +kernel) rfl) (mU 81 (by decide +kernel) rfl) (mU 996 (by decide +kernel) rfl)) rfl rfl rfl ⟨by decide +kernel, by decide +kernel, by decide +kernel⟩ hR
theorem cq164 {R : Room} {s : State} {args : Array Value} (ht : ∀ w ∈ lw_U, w.before args s = true) (hR : rwL_period.frames + 1 ≤ R.frames ∧ 8 + (4 + 11) + rwL_period.locals ≤ R.locals) : vx_CSW R s args RL 164 yL_period cL_period 4 (some .int) [(0, 9, 12, 21)] (wW yL_period cL_period 4 (some .int) [(0, 9, 12, 21)]) rwL_period 1 6 3 := vx_cwSW 3 ht (gWS (mU 1001 (by decide +kernel) rfl) (mU 1002 (by decide +kernel) rfl) (mU 81 (by decide +kernel) rfl) (mU 1003 (by decide +kernel) rfl)) rfl rfl rfl ⟨by decide +kernel, by decide +kernel, by decide +kernel⟩ hR
def fL_0 (sz Ln : Nat) (xs : Nat → Int32) (L : Sk → St → Int32 → Prop) (μ : Int32 → Nat) (P : Sk) (f : St) (x4 : Int32) : Prop :=
  kL_lay P f (sz + 0) (sz + 1449) (fun r154 j154 g154 => kX8_lay (setJO P (sz + 1449) j154) g154 (sz + 1438) (fun r160 g160 => kX8_thrown (setJO P (sz + 1449) j154) g160 (sz + 1438) (fun r166 g166 => (r166 = r154 → (¬ r154 = 0 → ∀ x4_1546 : Int32, x4_1546 = x4 + 4 → (L (setJO P (sz + 1449) j154) g166 x4_1546 ∧ x4.toNatClampNeg + 1 ≤ x4_1546.toNatClampNeg ∧ μ x4_1546 < μ x4)) ∧ (r154 = 0 → (lg_cmp (sJ (setJO P (sz + 1449) j154) (sz + 1449) ((0 : Int32)).toNatClampNeg) (r160.toInt64) = 0 → ∀ x4_1546 : Int32, x4_1546 = x4 + 4 → (L (setJO P (sz + 1449) j154) g166 x4_1546 ∧ x4.toNatClampNeg + 1 ≤ x4_1546.toNatClampNeg ∧ μ x4_1546 < μ x4)) ∧ (¬ lg_cmp (sJ (setJO P (sz + 1449) j154) (sz + 1449) ((0 : Int32)).toNatClampNeg) (r160.toInt64) = 0 → False))) ∧ (¬ r166 = r154 → False))))
def fL_1 (sz Ln : Nat) (xs : Nat → Int32) (L : Sk → St → Int32 → Prop) (μ : Int32 → Nat) (P : Sk) (f : St) (x4 : Int32) : Prop :=
  (vp_in (x4 + 1) Ln) ∧ (kL_bake P f (sz + 0) (xs (x4 + 1).toNatClampNeg) (sz + 1449) (fun r204 j204 g204 => (vp_in (x4 + 1) Ln) ∧ (kX8_bake (setJO P (sz + 1449) j204) g204 (sz + 1438) (xs (x4 + 1).toNatClampNeg) (fun r216 g216 => kX8_thrown (setJO P (sz + 1449) j204) g216 (sz + 1438) (fun r222 g222 => (r222 = r204 → (¬ r204 = 0 → ∀ x4_1546 : Int32, x4_1546 = x4 + 4 → (L (setJO P (sz + 1449) j204) g222 x4_1546 ∧ x4.toNatClampNeg + 1 ≤ x4_1546.toNatClampNeg ∧ μ x4_1546 < μ x4)) ∧ (r204 = 0 → (lg_cmp (sJ (setJO P (sz + 1449) j204) (sz + 1449) ((0 : Int32)).toNatClampNeg) (r216.toInt64) = 0 → ∀ x4_1546 : Int32, x4_1546 = x4 + 4 → (L (setJO P (sz + 1449) j204) g222 x4_1546 ∧ x4.toNatClampNeg + 1 ≤ x4_1546.toNatClampNeg ∧ μ x4_1546 < μ x4)) ∧ (¬ lg_cmp (sJ (setJO P (sz + 1449) j204) (sz + 1449) ((0 : Int32)).toNatClampNeg) (r216.toInt64) = 0 → False))) ∧ (¬ r222 = r204 → False))))))
def fL_2 (sz Ln : Nat) (xs : Nat → Int32) (L : Sk → St → Int32 → Prop) (μ : Int32 → Nat) (P : Sk) (f : St) (x4 : Int32) : Prop :=
  (vp_in (x4 + 1) Ln) ∧ ((vp_in (x4 + 2) Ln) ∧ ((vp_in (x4 + 3) Ln) ∧ ((xs (x4 + 3).toNatClampNeg = 0 → kL_cross P f (sz + 0) (xs (x4 + 1).toNatClampNeg) (xs (x4 + 2).toNatClampNeg) 0 (sz + 1449) (fun r280 j280 g280 => (vp_in (x4 + 1) Ln) ∧ ((vp_in (x4 + 2) Ln) ∧ ((vp_in (x4 + 3) Ln) ∧ ((xs (x4 + 3).toNatClampNeg = 0 → kX8_cross (setJO P (sz + 1449) j280) g280 (sz + 1438) (xs (x4 + 1).toNatClampNeg) (xs (x4 + 2).toNatClampNeg) 0 (fun r312 g312 => kX8_thrown (setJO P (sz + 1449) j280) g312 (sz + 1438) (fun r318 g318 => (r318 = r280 → (¬ r280 = 0 → ∀ x4_1546 : Int32, x4_1546 = x4 + 4 → (L (setJO P (sz + 1449) j280) g318 x4_1546 ∧ x4.toNatClampNeg + 1 ≤ x4_1546.toNatClampNeg ∧ μ x4_1546 < μ x4)) ∧ (r280 = 0 → (lg_cmp (sJ (setJO P (sz + 1449) j280) (sz + 1449) ((0 : Int32)).toNatClampNeg) (r312.toInt64) = 0 → ∀ x4_1546 : Int32, x4_1546 = x4 + 4 → (L (setJO P (sz + 1449) j280) g318 x4_1546 ∧ x4.toNatClampNeg + 1 ≤ x4_1546.toNatClampNeg ∧ μ x4_1546 < μ x4)) ∧ (¬ lg_cmp (sJ (setJO P (sz + 1449) j280) (sz + 1449) ((0 : Int32)).toNatClampNeg) (r312.toInt64) = 0 → False))) ∧ (¬ r318 = r280 → False)))) ∧ (¬ xs (x4 + 3).toNatClampNeg = 0 → kX8_cross (setJO P (sz + 1449) j280) g280 (sz + 1438) (xs (x4 + 1).toNatClampNeg) (xs (x4 + 2).toNatClampNeg) 1 (fun r312 g312 => kX8_thrown (setJO P (sz + 1449) j280) g312 (sz + 1438) (fun r318 g318 => (r318 = r280 → (¬ r280 = 0 → ∀ x4_1546 : Int32, x4_1546 = x4 + 4 → (L (setJO P (sz + 1449) j280) g318 x4_1546 ∧ x4.toNatClampNeg + 1 ≤ x4_1546.toNatClampNeg ∧ μ x4_1546 < μ x4)) ∧ (r280 = 0 → (lg_cmp (sJ (setJO P (sz + 1449) j280) (sz + 1449) ((0 : Int32)).toNatClampNeg) (r312.toInt64) = 0 → ∀ x4_1546 : Int32, x4_1546 = x4 + 4 → (L (setJO P (sz + 1449) j280) g318 x4_1546 ∧ x4.toNatClampNeg + 1 ≤ x4_1546.toNatClampNeg ∧ μ x4_1546 < μ x4)) ∧ (¬ lg_cmp (sJ (setJO P (sz + 1449) j280) (sz + 1449) ((0 : Int32)).toNatClampNeg) (r312.toInt64) = 0 → False))) ∧ (¬ r318 = r280 → False))))))))) ∧ (¬ xs (x4 + 3).toNatClampNeg = 0 → kL_cross P f (sz + 0) (xs (x4 + 1).toNatClampNeg) (xs (x4 + 2).toNatClampNeg) 1 (sz + 1449) (fun r280 j280 g280 => (vp_in (x4 + 1) Ln) ∧ ((vp_in (x4 + 2) Ln) ∧ ((vp_in (x4 + 3) Ln) ∧ ((xs (x4 + 3).toNatClampNeg = 0 → kX8_cross (setJO P (sz + 1449) j280) g280 (sz + 1438) (xs (x4 + 1).toNatClampNeg) (xs (x4 + 2).toNatClampNeg) 0 (fun r312 g312 => kX8_thrown (setJO P (sz + 1449) j280) g312 (sz + 1438) (fun r318 g318 => (r318 = r280 → (¬ r280 = 0 → ∀ x4_1546 : Int32, x4_1546 = x4 + 4 → (L (setJO P (sz + 1449) j280) g318 x4_1546 ∧ x4.toNatClampNeg + 1 ≤ x4_1546.toNatClampNeg ∧ μ x4_1546 < μ x4)) ∧ (r280 = 0 → (lg_cmp (sJ (setJO P (sz + 1449) j280) (sz + 1449) ((0 : Int32)).toNatClampNeg) (r312.toInt64) = 0 → ∀ x4_1546 : Int32, x4_1546 = x4 + 4 → (L (setJO P (sz + 1449) j280) g318 x4_1546 ∧ x4.toNatClampNeg + 1 ≤ x4_1546.toNatClampNeg ∧ μ x4_1546 < μ x4)) ∧ (¬ lg_cmp (sJ (setJO P (sz + 1449) j280) (sz + 1449) ((0 : Int32)).toNatClampNeg) (r312.toInt64) = 0 → False))) ∧ (¬ r318 = r280 → False)))) ∧ (¬ xs (x4 + 3).toNatClampNeg = 0 → kX8_cross (setJO P (sz + 1449) j280) g280 (sz + 1438) (xs (x4 + 1).toNatClampNeg) (xs (x4 + 2).toNatClampNeg) 1 (fun r312 g312 => kX8_thrown (setJO P (sz + 1449) j280) g312 (sz + 1438) (fun r318 g318 => (r318 = r280 → (¬ r280 = 0 → ∀ x4_1546 : Int32, x4_1546 = x4 + 4 → (L (setJO P (sz + 1449) j280) g318 x4_1546 ∧ x4.toNatClampNeg + 1 ≤ x4_1546.toNatClampNeg ∧ μ x4_1546 < μ x4)) ∧ (r280 = 0 → (lg_cmp (sJ (setJO P (sz + 1449) j280) (sz + 1449) ((0 : Int32)).toNatClampNeg) (r312.toInt64) = 0 → ∀ x4_1546 : Int32, x4_1546 = x4 + 4 → (L (setJO P (sz + 1449) j280) g318 x4_1546 ∧ x4.toNatClampNeg + 1 ≤ x4_1546.toNatClampNeg ∧ μ x4_1546 < μ x4)) ∧ (¬ lg_cmp (sJ (setJO P (sz + 1449) j280) (sz + 1449) ((0 : Int32)).toNatClampNeg) (r312.toInt64) = 0 → False))) ∧ (¬ r318 = r280 → False))))))))))))
def fL_3 (sz Ln : Nat) (xs : Nat → Int32) (L : Sk → St → Int32 → Prop) (μ : Int32 → Nat) (P : Sk) (f : St) (x4 : Int32) : Prop :=
  (vp_in (x4 + 1) Ln) ∧ (kL_back P f (sz + 0) (xs (x4 + 1).toNatClampNeg) (sz + 1449) (fun r356 j356 g356 => (vp_in (x4 + 1) Ln) ∧ (kX8_back (setJO P (sz + 1449) j356) g356 (sz + 1438) (xs (x4 + 1).toNatClampNeg) (fun r368 g368 => kX8_thrown (setJO P (sz + 1449) j356) g368 (sz + 1438) (fun r374 g374 => (r374 = r356 → (¬ r356 = 0 → ∀ x4_1546 : Int32, x4_1546 = x4 + 4 → (L (setJO P (sz + 1449) j356) g374 x4_1546 ∧ x4.toNatClampNeg + 1 ≤ x4_1546.toNatClampNeg ∧ μ x4_1546 < μ x4)) ∧ (r356 = 0 → (lg_cmp (sJ (setJO P (sz + 1449) j356) (sz + 1449) ((0 : Int32)).toNatClampNeg) (r368.toInt64) = 0 → ∀ x4_1546 : Int32, x4_1546 = x4 + 4 → (L (setJO P (sz + 1449) j356) g374 x4_1546 ∧ x4.toNatClampNeg + 1 ≤ x4_1546.toNatClampNeg ∧ μ x4_1546 < μ x4)) ∧ (¬ lg_cmp (sJ (setJO P (sz + 1449) j356) (sz + 1449) ((0 : Int32)).toNatClampNeg) (r368.toInt64) = 0 → False))) ∧ (¬ r374 = r356 → False))))))
def fL_4 (sz Ln : Nat) (xs : Nat → Int32) (L : Sk → St → Int32 → Prop) (μ : Int32 → Nat) (P : Sk) (f : St) (x4 : Int32) : Prop :=
  (vp_in (x4 + 1) Ln) ∧ ((vp_in (x4 + 2) Ln) ∧ (kL_change P f (sz + 0) (xs (x4 + 1).toNatClampNeg) (xs (x4 + 2).toNatClampNeg) (sz + 1449) (fun r418 j418 g418 => (vp_in (x4 + 1) Ln) ∧ ((vp_in (x4 + 2) Ln) ∧ (kX8_change (setJO P (sz + 1449) j418) g418 (sz + 1438) (xs (x4 + 1).toNatClampNeg) (xs (x4 + 2).toNatClampNeg) (fun r436 g436 => kX8_thrown (setJO P (sz + 1449) j418) g436 (sz + 1438) (fun r442 g442 => (r442 = r418 → (¬ r418 = 0 → ∀ x4_1546 : Int32, x4_1546 = x4 + 4 → (L (setJO P (sz + 1449) j418) g442 x4_1546 ∧ x4.toNatClampNeg + 1 ≤ x4_1546.toNatClampNeg ∧ μ x4_1546 < μ x4)) ∧ (r418 = 0 → (lg_cmp (sJ (setJO P (sz + 1449) j418) (sz + 1449) ((0 : Int32)).toNatClampNeg) (r436.toInt64) = 0 → ∀ x4_1546 : Int32, x4_1546 = x4 + 4 → (L (setJO P (sz + 1449) j418) g442 x4_1546 ∧ x4.toNatClampNeg + 1 ≤ x4_1546.toNatClampNeg ∧ μ x4_1546 < μ x4)) ∧ (¬ lg_cmp (sJ (setJO P (sz + 1449) j418) (sz + 1449) ((0 : Int32)).toNatClampNeg) (r436.toInt64) = 0 → False))) ∧ (¬ r442 = r418 → False))))))))
def fL_5 (sz Ln : Nat) (xs : Nat → Int32) (L : Sk → St → Int32 → Prop) (μ : Int32 → Nat) (P : Sk) (f : St) (x4 : Int32) : Prop :=
  (vp_in (x4 + 1) Ln) ∧ ((vp_in (x4 + 2) Ln) ∧ (kL_join P f (sz + 0) (xs (x4 + 1).toNatClampNeg) (xs (x4 + 2).toNatClampNeg) (sz + 1449) (fun r486 j486 g486 => (vp_in (x4 + 1) Ln) ∧ ((vp_in (x4 + 2) Ln) ∧ (kX8_join (setJO P (sz + 1449) j486) g486 (sz + 1438) (xs (x4 + 1).toNatClampNeg) (xs (x4 + 2).toNatClampNeg) (fun r504 g504 => kX8_thrown (setJO P (sz + 1449) j486) g504 (sz + 1438) (fun r510 g510 => (r510 = r486 → (¬ r486 = 0 → ∀ x4_1546 : Int32, x4_1546 = x4 + 4 → (L (setJO P (sz + 1449) j486) g510 x4_1546 ∧ x4.toNatClampNeg + 1 ≤ x4_1546.toNatClampNeg ∧ μ x4_1546 < μ x4)) ∧ (r486 = 0 → (lg_cmp (sJ (setJO P (sz + 1449) j486) (sz + 1449) ((0 : Int32)).toNatClampNeg) (r504.toInt64) = 0 → ∀ x4_1546 : Int32, x4_1546 = x4 + 4 → (L (setJO P (sz + 1449) j486) g510 x4_1546 ∧ x4.toNatClampNeg + 1 ≤ x4_1546.toNatClampNeg ∧ μ x4_1546 < μ x4)) ∧ (¬ lg_cmp (sJ (setJO P (sz + 1449) j486) (sz + 1449) ((0 : Int32)).toNatClampNeg) (r504.toInt64) = 0 → False))) ∧ (¬ r510 = r486 → False))))))))
def fL_6 (sz Ln : Nat) (xs : Nat → Int32) (L : Sk → St → Int32 → Prop) (μ : Int32 → Nat) (P : Sk) (f : St) (x4 : Int32) : Prop :=
  (vp_in (x4 + 1) Ln) ∧ (kL_append P f (sz + 0) (xs (x4 + 1).toNatClampNeg) (sz + 1449) (fun r548 j548 g548 => (vp_in (x4 + 1) Ln) ∧ (kX8_append (setJO P (sz + 1449) j548) g548 (sz + 1438) (xs (x4 + 1).toNatClampNeg) (fun r560 g560 => kX8_thrown (setJO P (sz + 1449) j548) g560 (sz + 1438) (fun r566 g566 => (r566 = r548 → (¬ r548 = 0 → ∀ x4_1546 : Int32, x4_1546 = x4 + 4 → (L (setJO P (sz + 1449) j548) g566 x4_1546 ∧ x4.toNatClampNeg + 1 ≤ x4_1546.toNatClampNeg ∧ μ x4_1546 < μ x4)) ∧ (r548 = 0 → (lg_cmp (sJ (setJO P (sz + 1449) j548) (sz + 1449) ((0 : Int32)).toNatClampNeg) (r560.toInt64) = 0 → ∀ x4_1546 : Int32, x4_1546 = x4 + 4 → (L (setJO P (sz + 1449) j548) g566 x4_1546 ∧ x4.toNatClampNeg + 1 ≤ x4_1546.toNatClampNeg ∧ μ x4_1546 < μ x4)) ∧ (¬ lg_cmp (sJ (setJO P (sz + 1449) j548) (sz + 1449) ((0 : Int32)).toNatClampNeg) (r560.toInt64) = 0 → False))) ∧ (¬ r566 = r548 → False))))))
def fL_7 (sz Ln : Nat) (xs : Nat → Int32) (L : Sk → St → Int32 → Prop) (μ : Int32 → Nat) (P : Sk) (f : St) (x4 : Int32) : Prop :=
  kX7_clearBuffer P f (sz + 0) (fun r597 g597 => kX8_clearBuffer P g597 (sz + 1438) (fun r601 g601 => (r597 = r601 → ∀ x4_1546 : Int32, x4_1546 = x4 + 4 → (L P g601 x4_1546 ∧ x4.toNatClampNeg + 1 ≤ x4_1546.toNatClampNeg ∧ μ x4_1546 < μ x4)) ∧ (¬ r597 = r601 → False)))
def fL_8 (sz Ln : Nat) (xs : Nat → Int32) (L : Sk → St → Int32 → Prop) (μ : Int32 → Nat) (P : Sk) (f : St) (x4 : Int32) : Prop :=
  (vp_in (x4 + 1) Ln) ∧ ((xs (x4 + 1).toNatClampNeg = 0 → kX7_firstError P f (sz + 0) 0 (fun r624 g624 => (vp_in (x4 + 1) Ln) ∧ ((xs (x4 + 1).toNatClampNeg = 0 → kX8_firstError P g624 (sz + 1438) 0 (fun r642 g642 => (r624 = r642 → ∀ x4_1546 : Int32, x4_1546 = x4 + 4 → (L P g642 x4_1546 ∧ x4.toNatClampNeg + 1 ≤ x4_1546.toNatClampNeg ∧ μ x4_1546 < μ x4)) ∧ (¬ r624 = r642 → False))) ∧ (¬ xs (x4 + 1).toNatClampNeg = 0 → kX8_firstError P g624 (sz + 1438) 1 (fun r642 g642 => (r624 = r642 → ∀ x4_1546 : Int32, x4_1546 = x4 + 4 → (L P g642 x4_1546 ∧ x4.toNatClampNeg + 1 ≤ x4_1546.toNatClampNeg ∧ μ x4_1546 < μ x4)) ∧ (¬ r624 = r642 → False)))))) ∧ (¬ xs (x4 + 1).toNatClampNeg = 0 → kX7_firstError P f (sz + 0) 1 (fun r624 g624 => (vp_in (x4 + 1) Ln) ∧ ((xs (x4 + 1).toNatClampNeg = 0 → kX8_firstError P g624 (sz + 1438) 0 (fun r642 g642 => (r624 = r642 → ∀ x4_1546 : Int32, x4_1546 = x4 + 4 → (L P g642 x4_1546 ∧ x4.toNatClampNeg + 1 ≤ x4_1546.toNatClampNeg ∧ μ x4_1546 < μ x4)) ∧ (¬ r624 = r642 → False))) ∧ (¬ xs (x4 + 1).toNatClampNeg = 0 → kX8_firstError P g624 (sz + 1438) 1 (fun r642 g642 => (r624 = r642 → ∀ x4_1546 : Int32, x4_1546 = x4 + 4 → (L P g642 x4_1546 ∧ x4.toNatClampNeg + 1 ≤ x4_1546.toNatClampNeg ∧ μ x4_1546 < μ x4)) ∧ (¬ r624 = r642 → False)))))))
def fL_9 (sz Ln : Nat) (xs : Nat → Int32) (L : Sk → St → Int32 → Prop) (μ : Int32 → Nat) (P : Sk) (f : St) (x4 : Int32) : Prop :=
  kL_work P f (sz + 0) (sz + 1449) (fun r652 j652 g652 => kX8_work (setJO P (sz + 1449) j652) g652 (sz + 1438) (fun r658 g658 => kX8_thrown (setJO P (sz + 1449) j652) g658 (sz + 1438) (fun r664 g664 => (r664 = r652 → (¬ r652 = 0 → ∀ x4_1546 : Int32, x4_1546 = x4 + 4 → (L (setJO P (sz + 1449) j652) g664 x4_1546 ∧ x4.toNatClampNeg + 1 ≤ x4_1546.toNatClampNeg ∧ μ x4_1546 < μ x4)) ∧ (r652 = 0 → (lg_cmp (sJ (setJO P (sz + 1449) j652) (sz + 1449) ((0 : Int32)).toNatClampNeg) (r658.toInt64) = 0 → ∀ x4_1546 : Int32, x4_1546 = x4 + 4 → (L (setJO P (sz + 1449) j652) g664 x4_1546 ∧ x4.toNatClampNeg + 1 ≤ x4_1546.toNatClampNeg ∧ μ x4_1546 < μ x4)) ∧ (¬ lg_cmp (sJ (setJO P (sz + 1449) j652) (sz + 1449) ((0 : Int32)).toNatClampNeg) (r658.toInt64) = 0 → False))) ∧ (¬ r664 = r652 → False))))
def fL_10 (sz Ln : Nat) (xs : Nat → Int32) (L : Sk → St → Int32 → Prop) (μ : Int32 → Nat) (P : Sk) (f : St) (x4 : Int32) : Prop :=
  (vp_in (x4 + 1) Ln) ∧ (kL_stopped P f (sz + 0) (xs (x4 + 1).toNatClampNeg) (sz + 1449) (fun r702 j702 g702 => (vp_in (x4 + 1) Ln) ∧ (kX8_stopped (setJO P (sz + 1449) j702) g702 (sz + 1438) (xs (x4 + 1).toNatClampNeg) (fun r714 g714 => kX8_thrown (setJO P (sz + 1449) j702) g714 (sz + 1438) (fun r720 g720 => (r720 = r702 → (¬ r702 = 0 → ∀ x4_1546 : Int32, x4_1546 = x4 + 4 → (L (setJO P (sz + 1449) j702) g720 x4_1546 ∧ x4.toNatClampNeg + 1 ≤ x4_1546.toNatClampNeg ∧ μ x4_1546 < μ x4)) ∧ (r702 = 0 → (lg_cmp (sJ (setJO P (sz + 1449) j702) (sz + 1449) ((0 : Int32)).toNatClampNeg) (r714.toInt64) = 0 → ∀ x4_1546 : Int32, x4_1546 = x4 + 4 → (L (setJO P (sz + 1449) j702) g720 x4_1546 ∧ x4.toNatClampNeg + 1 ≤ x4_1546.toNatClampNeg ∧ μ x4_1546 < μ x4)) ∧ (¬ lg_cmp (sJ (setJO P (sz + 1449) j702) (sz + 1449) ((0 : Int32)).toNatClampNeg) (r714.toInt64) = 0 → False))) ∧ (¬ r720 = r702 → False))))))
def fL_11 (sz Ln : Nat) (xs : Nat → Int32) (L : Sk → St → Int32 → Prop) (μ : Int32 → Nat) (P : Sk) (f : St) (x4 : Int32) : Prop :=
  kL_undo P f (sz + 0) (sz + 1449) (fun r752 j752 g752 => kX8_undo (setJO P (sz + 1449) j752) g752 (sz + 1438) (fun r758 g758 => kX8_thrown (setJO P (sz + 1449) j752) g758 (sz + 1438) (fun r764 g764 => (r764 = r752 → (¬ r752 = 0 → ∀ x4_1546 : Int32, x4_1546 = x4 + 4 → (L (setJO P (sz + 1449) j752) g764 x4_1546 ∧ x4.toNatClampNeg + 1 ≤ x4_1546.toNatClampNeg ∧ μ x4_1546 < μ x4)) ∧ (r752 = 0 → (lg_cmp (sJ (setJO P (sz + 1449) j752) (sz + 1449) ((0 : Int32)).toNatClampNeg) (r758.toInt64) = 0 → ∀ x4_1546 : Int32, x4_1546 = x4 + 4 → (L (setJO P (sz + 1449) j752) g764 x4_1546 ∧ x4.toNatClampNeg + 1 ≤ x4_1546.toNatClampNeg ∧ μ x4_1546 < μ x4)) ∧ (¬ lg_cmp (sJ (setJO P (sz + 1449) j752) (sz + 1449) ((0 : Int32)).toNatClampNeg) (r758.toInt64) = 0 → False))) ∧ (¬ r764 = r752 → False))))
def fL_12 (sz Ln : Nat) (xs : Nat → Int32) (L : Sk → St → Int32 → Prop) (μ : Int32 → Nat) (P : Sk) (f : St) (x4 : Int32) : Prop :=
  kX7_keep P f (sz + 0) (fun r795 g795 => kX8_keep P g795 (sz + 1438) (fun r799 g799 => (r795 = r799 → ∀ x4_1546 : Int32, x4_1546 = x4 + 4 → (L P g799 x4_1546 ∧ x4.toNatClampNeg + 1 ≤ x4_1546.toNatClampNeg ∧ μ x4_1546 < μ x4)) ∧ (¬ r795 = r799 → False)))
def fL_13 (sz Ln : Nat) (xs : Nat → Int32) (L : Sk → St → Int32 → Prop) (μ : Int32 → Nat) (P : Sk) (f : St) (x4 : Int32) : Prop :=
  kL_restore P f (sz + 0) (sz + 1449) (fun r809 j809 g809 => kX8_restore (setJO P (sz + 1449) j809) g809 (sz + 1438) (fun r815 g815 => kX8_thrown (setJO P (sz + 1449) j809) g815 (sz + 1438) (fun r821 g821 => (r821 = r809 → (¬ r809 = 0 → ∀ x4_1546 : Int32, x4_1546 = x4 + 4 → (L (setJO P (sz + 1449) j809) g821 x4_1546 ∧ x4.toNatClampNeg + 1 ≤ x4_1546.toNatClampNeg ∧ μ x4_1546 < μ x4)) ∧ (r809 = 0 → (lg_cmp (sJ (setJO P (sz + 1449) j809) (sz + 1449) ((0 : Int32)).toNatClampNeg) (r815.toInt64) = 0 → ∀ x4_1546 : Int32, x4_1546 = x4 + 4 → (L (setJO P (sz + 1449) j809) g821 x4_1546 ∧ x4.toNatClampNeg + 1 ≤ x4_1546.toNatClampNeg ∧ μ x4_1546 < μ x4)) ∧ (¬ lg_cmp (sJ (setJO P (sz + 1449) j809) (sz + 1449) ((0 : Int32)).toNatClampNeg) (r815.toInt64) = 0 → False))) ∧ (¬ r821 = r809 → False))))
def fL_14 (sz Ln : Nat) (xs : Nat → Int32) (L : Sk → St → Int32 → Prop) (μ : Int32 → Nat) (P : Sk) (f : St) (x4 : Int32) : Prop :=
  (vp_in (x4 + 1) Ln) ∧ ((vp_in (x4 + 2) Ln) ∧ ((vp_in (x4 + 3) Ln) ∧ (kL_crossing P f (sz + 0) (xs (x4 + 1).toNatClampNeg) (xs (x4 + 2).toNatClampNeg) (xs (x4 + 3).toNatClampNeg) (sz + 1449) (fun r871 j871 g871 => (vp_in (x4 + 1) Ln) ∧ ((vp_in (x4 + 2) Ln) ∧ ((vp_in (x4 + 3) Ln) ∧ (kX8_crossing (setJO P (sz + 1449) j871) g871 (sz + 1438) (xs (x4 + 1).toNatClampNeg) (xs (x4 + 2).toNatClampNeg) (xs (x4 + 3).toNatClampNeg) (fun r895 g895 => kX8_thrown (setJO P (sz + 1449) j871) g895 (sz + 1438) (fun r901 g901 => (r901 = r871 → (¬ r871 = 0 → ∀ x4_1546 : Int32, x4_1546 = x4 + 4 → (L (setJO P (sz + 1449) j871) g901 x4_1546 ∧ x4.toNatClampNeg + 1 ≤ x4_1546.toNatClampNeg ∧ μ x4_1546 < μ x4)) ∧ (r871 = 0 → (lg_cmp (sJ (setJO P (sz + 1449) j871) (sz + 1449) ((0 : Int32)).toNatClampNeg) (r895.toInt64) = 0 → ∀ x4_1546 : Int32, x4_1546 = x4 + 4 → (L (setJO P (sz + 1449) j871) g901 x4_1546 ∧ x4.toNatClampNeg + 1 ≤ x4_1546.toNatClampNeg ∧ μ x4_1546 < μ x4)) ∧ (¬ lg_cmp (sJ (setJO P (sz + 1449) j871) (sz + 1449) ((0 : Int32)).toNatClampNeg) (r895.toInt64) = 0 → False))) ∧ (¬ r901 = r871 → False))))))))))
def fL_15 (sz Ln : Nat) (xs : Nat → Int32) (L : Sk → St → Int32 → Prop) (μ : Int32 → Nat) (P : Sk) (f : St) (x4 : Int32) : Prop :=
  (vp_in (x4 + 1) Ln) ∧ ((vp_in (x4 + 2) Ln) ∧ ((vp_in (x4 + 3) Ln) ∧ (kL_strand P f (sz + 0) (xs (x4 + 1).toNatClampNeg) (xs (x4 + 2).toNatClampNeg) (xs (x4 + 3).toNatClampNeg) (sz + 1449) (fun r951 j951 g951 => (vp_in (x4 + 1) Ln) ∧ ((vp_in (x4 + 2) Ln) ∧ ((vp_in (x4 + 3) Ln) ∧ (kX8_strand (setJO P (sz + 1449) j951) g951 (sz + 1438) (xs (x4 + 1).toNatClampNeg) (xs (x4 + 2).toNatClampNeg) (xs (x4 + 3).toNatClampNeg) (fun r975 g975 => kX8_thrown (setJO P (sz + 1449) j951) g975 (sz + 1438) (fun r981 g981 => (r981 = r951 → (¬ r951 = 0 → ∀ x4_1546 : Int32, x4_1546 = x4 + 4 → (L (setJO P (sz + 1449) j951) g981 x4_1546 ∧ x4.toNatClampNeg + 1 ≤ x4_1546.toNatClampNeg ∧ μ x4_1546 < μ x4)) ∧ (r951 = 0 → (lg_cmp (sJ (setJO P (sz + 1449) j951) (sz + 1449) ((0 : Int32)).toNatClampNeg) (r975.toInt64) = 0 → ∀ x4_1546 : Int32, x4_1546 = x4 + 4 → (L (setJO P (sz + 1449) j951) g981 x4_1546 ∧ x4.toNatClampNeg + 1 ≤ x4_1546.toNatClampNeg ∧ μ x4_1546 < μ x4)) ∧ (¬ lg_cmp (sJ (setJO P (sz + 1449) j951) (sz + 1449) ((0 : Int32)).toNatClampNeg) (r975.toInt64) = 0 → False))) ∧ (¬ r981 = r951 → False))))))))))
def fL_16 (sz Ln : Nat) (xs : Nat → Int32) (L : Sk → St → Int32 → Prop) (μ : Int32 → Nat) (P : Sk) (f : St) (x4 : Int32) : Prop :=
  (vp_in (x4 + 1) Ln) ∧ ((vp_in (x4 + 2) Ln) ∧ (kL_loaf P f (sz + 0) (xs (x4 + 1).toNatClampNeg) (xs (x4 + 2).toNatClampNeg) (sz + 1449) (fun r1025 j1025 g1025 => (vp_in (x4 + 1) Ln) ∧ ((vp_in (x4 + 2) Ln) ∧ (kX8_loaf (setJO P (sz + 1449) j1025) g1025 (sz + 1438) (xs (x4 + 1).toNatClampNeg) (xs (x4 + 2).toNatClampNeg) (fun r1043 g1043 => kX8_thrown (setJO P (sz + 1449) j1025) g1043 (sz + 1438) (fun r1049 g1049 => (r1049 = r1025 → (¬ r1025 = 0 → ∀ x4_1546 : Int32, x4_1546 = x4 + 4 → (L (setJO P (sz + 1449) j1025) g1049 x4_1546 ∧ x4.toNatClampNeg + 1 ≤ x4_1546.toNatClampNeg ∧ μ x4_1546 < μ x4)) ∧ (r1025 = 0 → (lg_cmp (sJ (setJO P (sz + 1449) j1025) (sz + 1449) ((0 : Int32)).toNatClampNeg) (r1043.toInt64) = 0 → ∀ x4_1546 : Int32, x4_1546 = x4 + 4 → (L (setJO P (sz + 1449) j1025) g1049 x4_1546 ∧ x4.toNatClampNeg + 1 ≤ x4_1546.toNatClampNeg ∧ μ x4_1546 < μ x4)) ∧ (¬ lg_cmp (sJ (setJO P (sz + 1449) j1025) (sz + 1449) ((0 : Int32)).toNatClampNeg) (r1043.toInt64) = 0 → False))) ∧ (¬ r1049 = r1025 → False))))))))
def fL_17 (sz Ln : Nat) (xs : Nat → Int32) (L : Sk → St → Int32 → Prop) (μ : Int32 → Nat) (P : Sk) (f : St) (x4 : Int32) : Prop :=
  (vp_in (x4 + 1) Ln) ∧ ((vp_in (x4 + 2) Ln) ∧ (kL_loose P f (sz + 0) (xs (x4 + 1).toNatClampNeg) (xs (x4 + 2).toNatClampNeg) (sz + 1449) (fun r1093 j1093 g1093 => (vp_in (x4 + 1) Ln) ∧ ((vp_in (x4 + 2) Ln) ∧ (kX8_loose (setJO P (sz + 1449) j1093) g1093 (sz + 1438) (xs (x4 + 1).toNatClampNeg) (xs (x4 + 2).toNatClampNeg) (fun r1111 g1111 => kX8_thrown (setJO P (sz + 1449) j1093) g1111 (sz + 1438) (fun r1117 g1117 => (r1117 = r1093 → (¬ r1093 = 0 → ∀ x4_1546 : Int32, x4_1546 = x4 + 4 → (L (setJO P (sz + 1449) j1093) g1117 x4_1546 ∧ x4.toNatClampNeg + 1 ≤ x4_1546.toNatClampNeg ∧ μ x4_1546 < μ x4)) ∧ (r1093 = 0 → (lg_cmp (sJ (setJO P (sz + 1449) j1093) (sz + 1449) ((0 : Int32)).toNatClampNeg) (r1111.toInt64) = 0 → ∀ x4_1546 : Int32, x4_1546 = x4 + 4 → (L (setJO P (sz + 1449) j1093) g1117 x4_1546 ∧ x4.toNatClampNeg + 1 ≤ x4_1546.toNatClampNeg ∧ μ x4_1546 < μ x4)) ∧ (¬ lg_cmp (sJ (setJO P (sz + 1449) j1093) (sz + 1449) ((0 : Int32)).toNatClampNeg) (r1111.toInt64) = 0 → False))) ∧ (¬ r1117 = r1093 → False))))))))
def fL_18 (sz Ln : Nat) (xs : Nat → Int32) (L : Sk → St → Int32 → Prop) (μ : Int32 → Nat) (P : Sk) (f : St) (x4 : Int32) : Prop :=
  (vp_in (x4 + 1) Ln) ∧ (kL_count P f (sz + 0) (xs (x4 + 1).toNatClampNeg) (sz + 1449) (fun r1155 j1155 g1155 => (vp_in (x4 + 1) Ln) ∧ (kX8_count (setJO P (sz + 1449) j1155) g1155 (sz + 1438) (xs (x4 + 1).toNatClampNeg) (fun r1167 g1167 => kX8_thrown (setJO P (sz + 1449) j1155) g1167 (sz + 1438) (fun r1173 g1173 => (r1173 = r1155 → (¬ r1155 = 0 → ∀ x4_1546 : Int32, x4_1546 = x4 + 4 → (L (setJO P (sz + 1449) j1155) g1173 x4_1546 ∧ x4.toNatClampNeg + 1 ≤ x4_1546.toNatClampNeg ∧ μ x4_1546 < μ x4)) ∧ (r1155 = 0 → (lg_cmp (sJ (setJO P (sz + 1449) j1155) (sz + 1449) ((0 : Int32)).toNatClampNeg) (r1167.toInt64) = 0 → ∀ x4_1546 : Int32, x4_1546 = x4 + 4 → (L (setJO P (sz + 1449) j1155) g1173 x4_1546 ∧ x4.toNatClampNeg + 1 ≤ x4_1546.toNatClampNeg ∧ μ x4_1546 < μ x4)) ∧ (¬ lg_cmp (sJ (setJO P (sz + 1449) j1155) (sz + 1449) ((0 : Int32)).toNatClampNeg) (r1167.toInt64) = 0 → False))) ∧ (¬ r1173 = r1155 → False))))))
def fL_19 (sz Ln : Nat) (xs : Nat → Int32) (L : Sk → St → Int32 → Prop) (μ : Int32 → Nat) (P : Sk) (f : St) (x4 : Int32) : Prop :=
  (vp_in (x4 + 1) Ln) ∧ ((vp_in (x4 + 2) Ln) ∧ ((vp_in (x4 + 3) Ln) ∧ ((xs (x4 + 3).toNatClampNeg = 0 → kL_whyNot P f (sz + 0) (xs (x4 + 1).toNatClampNeg) (xs (x4 + 2).toNatClampNeg) 0 (sz + 1449) (fun r1231 j1231 g1231 => (vp_in (x4 + 1) Ln) ∧ ((vp_in (x4 + 2) Ln) ∧ ((vp_in (x4 + 3) Ln) ∧ ((xs (x4 + 3).toNatClampNeg = 0 → kX8_whyNot (setJO P (sz + 1449) j1231) g1231 (sz + 1438) (xs (x4 + 1).toNatClampNeg) (xs (x4 + 2).toNatClampNeg) 0 (fun r1263 g1263 => kX8_thrown (setJO P (sz + 1449) j1231) g1263 (sz + 1438) (fun r1269 g1269 => (r1269 = r1231 → (¬ r1231 = 0 → ∀ x4_1546 : Int32, x4_1546 = x4 + 4 → (L (setJO P (sz + 1449) j1231) g1269 x4_1546 ∧ x4.toNatClampNeg + 1 ≤ x4_1546.toNatClampNeg ∧ μ x4_1546 < μ x4)) ∧ (r1231 = 0 → (lg_cmp (sJ (setJO P (sz + 1449) j1231) (sz + 1449) ((0 : Int32)).toNatClampNeg) (r1263.toInt64) = 0 → ∀ x4_1546 : Int32, x4_1546 = x4 + 4 → (L (setJO P (sz + 1449) j1231) g1269 x4_1546 ∧ x4.toNatClampNeg + 1 ≤ x4_1546.toNatClampNeg ∧ μ x4_1546 < μ x4)) ∧ (¬ lg_cmp (sJ (setJO P (sz + 1449) j1231) (sz + 1449) ((0 : Int32)).toNatClampNeg) (r1263.toInt64) = 0 → False))) ∧ (¬ r1269 = r1231 → False)))) ∧ (¬ xs (x4 + 3).toNatClampNeg = 0 → kX8_whyNot (setJO P (sz + 1449) j1231) g1231 (sz + 1438) (xs (x4 + 1).toNatClampNeg) (xs (x4 + 2).toNatClampNeg) 1 (fun r1263 g1263 => kX8_thrown (setJO P (sz + 1449) j1231) g1263 (sz + 1438) (fun r1269 g1269 => (r1269 = r1231 → (¬ r1231 = 0 → ∀ x4_1546 : Int32, x4_1546 = x4 + 4 → (L (setJO P (sz + 1449) j1231) g1269 x4_1546 ∧ x4.toNatClampNeg + 1 ≤ x4_1546.toNatClampNeg ∧ μ x4_1546 < μ x4)) ∧ (r1231 = 0 → (lg_cmp (sJ (setJO P (sz + 1449) j1231) (sz + 1449) ((0 : Int32)).toNatClampNeg) (r1263.toInt64) = 0 → ∀ x4_1546 : Int32, x4_1546 = x4 + 4 → (L (setJO P (sz + 1449) j1231) g1269 x4_1546 ∧ x4.toNatClampNeg + 1 ≤ x4_1546.toNatClampNeg ∧ μ x4_1546 < μ x4)) ∧ (¬ lg_cmp (sJ (setJO P (sz + 1449) j1231) (sz + 1449) ((0 : Int32)).toNatClampNeg) (r1263.toInt64) = 0 → False))) ∧ (¬ r1269 = r1231 → False))))))))) ∧ (¬ xs (x4 + 3).toNatClampNeg = 0 → kL_whyNot P f (sz + 0) (xs (x4 + 1).toNatClampNeg) (xs (x4 + 2).toNatClampNeg) 1 (sz + 1449) (fun r1231 j1231 g1231 => (vp_in (x4 + 1) Ln) ∧ ((vp_in (x4 + 2) Ln) ∧ ((vp_in (x4 + 3) Ln) ∧ ((xs (x4 + 3).toNatClampNeg = 0 → kX8_whyNot (setJO P (sz + 1449) j1231) g1231 (sz + 1438) (xs (x4 + 1).toNatClampNeg) (xs (x4 + 2).toNatClampNeg) 0 (fun r1263 g1263 => kX8_thrown (setJO P (sz + 1449) j1231) g1263 (sz + 1438) (fun r1269 g1269 => (r1269 = r1231 → (¬ r1231 = 0 → ∀ x4_1546 : Int32, x4_1546 = x4 + 4 → (L (setJO P (sz + 1449) j1231) g1269 x4_1546 ∧ x4.toNatClampNeg + 1 ≤ x4_1546.toNatClampNeg ∧ μ x4_1546 < μ x4)) ∧ (r1231 = 0 → (lg_cmp (sJ (setJO P (sz + 1449) j1231) (sz + 1449) ((0 : Int32)).toNatClampNeg) (r1263.toInt64) = 0 → ∀ x4_1546 : Int32, x4_1546 = x4 + 4 → (L (setJO P (sz + 1449) j1231) g1269 x4_1546 ∧ x4.toNatClampNeg + 1 ≤ x4_1546.toNatClampNeg ∧ μ x4_1546 < μ x4)) ∧ (¬ lg_cmp (sJ (setJO P (sz + 1449) j1231) (sz + 1449) ((0 : Int32)).toNatClampNeg) (r1263.toInt64) = 0 → False))) ∧ (¬ r1269 = r1231 → False)))) ∧ (¬ xs (x4 + 3).toNatClampNeg = 0 → kX8_whyNot (setJO P (sz + 1449) j1231) g1231 (sz + 1438) (xs (x4 + 1).toNatClampNeg) (xs (x4 + 2).toNatClampNeg) 1 (fun r1263 g1263 => kX8_thrown (setJO P (sz + 1449) j1231) g1263 (sz + 1438) (fun r1269 g1269 => (r1269 = r1231 → (¬ r1231 = 0 → ∀ x4_1546 : Int32, x4_1546 = x4 + 4 → (L (setJO P (sz + 1449) j1231) g1269 x4_1546 ∧ x4.toNatClampNeg + 1 ≤ x4_1546.toNatClampNeg ∧ μ x4_1546 < μ x4)) ∧ (r1231 = 0 → (lg_cmp (sJ (setJO P (sz + 1449) j1231) (sz + 1449) ((0 : Int32)).toNatClampNeg) (r1263.toInt64) = 0 → ∀ x4_1546 : Int32, x4_1546 = x4 + 4 → (L (setJO P (sz + 1449) j1231) g1269 x4_1546 ∧ x4.toNatClampNeg + 1 ≤ x4_1546.toNatClampNeg ∧ μ x4_1546 < μ x4)) ∧ (¬ lg_cmp (sJ (setJO P (sz + 1449) j1231) (sz + 1449) ((0 : Int32)).toNatClampNeg) (r1263.toInt64) = 0 → False))) ∧ (¬ r1269 = r1231 → False))))))))))))
def fL_20 (sz Ln : Nat) (xs : Nat → Int32) (L : Sk → St → Int32 → Prop) (μ : Int32 → Nat) (P : Sk) (f : St) (x4 : Int32) : Prop :=
  (vp_in (x4 + 1) Ln) ∧ ((vp_in (x4 + 2) Ln) ∧ (kL_ifChanged P f (sz + 0) (xs (x4 + 1).toNatClampNeg) (xs (x4 + 2).toNatClampNeg) (sz + 1449) (fun r1313 j1313 g1313 => (vp_in (x4 + 1) Ln) ∧ ((vp_in (x4 + 2) Ln) ∧ (kX8_ifChanged (setJO P (sz + 1449) j1313) g1313 (sz + 1438) (xs (x4 + 1).toNatClampNeg) (xs (x4 + 2).toNatClampNeg) (fun r1331 g1331 => kX8_thrown (setJO P (sz + 1449) j1313) g1331 (sz + 1438) (fun r1337 g1337 => (r1337 = r1313 → (¬ r1313 = 0 → ∀ x4_1546 : Int32, x4_1546 = x4 + 4 → (L (setJO P (sz + 1449) j1313) g1337 x4_1546 ∧ x4.toNatClampNeg + 1 ≤ x4_1546.toNatClampNeg ∧ μ x4_1546 < μ x4)) ∧ (r1313 = 0 → (lg_cmp (sJ (setJO P (sz + 1449) j1313) (sz + 1449) ((0 : Int32)).toNatClampNeg) (r1331.toInt64) = 0 → ∀ x4_1546 : Int32, x4_1546 = x4 + 4 → (L (setJO P (sz + 1449) j1313) g1337 x4_1546 ∧ x4.toNatClampNeg + 1 ≤ x4_1546.toNatClampNeg ∧ μ x4_1546 < μ x4)) ∧ (¬ lg_cmp (sJ (setJO P (sz + 1449) j1313) (sz + 1449) ((0 : Int32)).toNatClampNeg) (r1331.toInt64) = 0 → False))) ∧ (¬ r1337 = r1313 → False))))))))
def fL_21 (sz Ln : Nat) (xs : Nat → Int32) (L : Sk → St → Int32 → Prop) (μ : Int32 → Nat) (P : Sk) (f : St) (x4 : Int32) : Prop :=
  (vp_in (x4 + 1) Ln) ∧ ((vp_in (x4 + 2) Ln) ∧ (kL_alike P f (sz + 0) (xs (x4 + 1).toNatClampNeg) (xs (x4 + 2).toNatClampNeg) (sz + 1449) (fun r1381 j1381 g1381 => (vp_in (x4 + 1) Ln) ∧ ((vp_in (x4 + 2) Ln) ∧ (kX8_alike (setJO P (sz + 1449) j1381) g1381 (sz + 1438) (xs (x4 + 1).toNatClampNeg) (xs (x4 + 2).toNatClampNeg) (fun r1399 g1399 => kX8_thrown (setJO P (sz + 1449) j1381) g1399 (sz + 1438) (fun r1405 g1405 => (r1405 = r1381 → (¬ r1381 = 0 → ∀ x4_1546 : Int32, x4_1546 = x4 + 4 → (L (setJO P (sz + 1449) j1381) g1405 x4_1546 ∧ x4.toNatClampNeg + 1 ≤ x4_1546.toNatClampNeg ∧ μ x4_1546 < μ x4)) ∧ (r1381 = 0 → (lg_cmp (sJ (setJO P (sz + 1449) j1381) (sz + 1449) ((0 : Int32)).toNatClampNeg) (r1399.toInt64) = 0 → ∀ x4_1546 : Int32, x4_1546 = x4 + 4 → (L (setJO P (sz + 1449) j1381) g1405 x4_1546 ∧ x4.toNatClampNeg + 1 ≤ x4_1546.toNatClampNeg ∧ μ x4_1546 < μ x4)) ∧ (¬ lg_cmp (sJ (setJO P (sz + 1449) j1381) (sz + 1449) ((0 : Int32)).toNatClampNeg) (r1399.toInt64) = 0 → False))) ∧ (¬ r1405 = r1381 → False))))))))
def fL_22 (sz Ln : Nat) (xs : Nat → Int32) (L : Sk → St → Int32 → Prop) (μ : Int32 → Nat) (P : Sk) (f : St) (x4 : Int32) : Prop :=
  (vp_in (x4 + 1) Ln) ∧ (kL_period P f (sz + 0) (xs (x4 + 1).toNatClampNeg) (sz + 1449) (fun r1443 j1443 g1443 => (vp_in (x4 + 1) Ln) ∧ (kX8_period (setJO P (sz + 1449) j1443) g1443 (sz + 1438) (xs (x4 + 1).toNatClampNeg) (fun r1455 g1455 => kX8_thrown (setJO P (sz + 1449) j1443) g1455 (sz + 1438) (fun r1461 g1461 => (r1461 = r1443 → (¬ r1443 = 0 → ∀ x4_1546 : Int32, x4_1546 = x4 + 4 → (L (setJO P (sz + 1449) j1443) g1461 x4_1546 ∧ x4.toNatClampNeg + 1 ≤ x4_1546.toNatClampNeg ∧ μ x4_1546 < μ x4)) ∧ (r1443 = 0 → (lg_cmp (sJ (setJO P (sz + 1449) j1443) (sz + 1449) ((0 : Int32)).toNatClampNeg) (r1455.toInt64) = 0 → ∀ x4_1546 : Int32, x4_1546 = x4 + 4 → (L (setJO P (sz + 1449) j1443) g1461 x4_1546 ∧ x4.toNatClampNeg + 1 ≤ x4_1546.toNatClampNeg ∧ μ x4_1546 < μ x4)) ∧ (¬ lg_cmp (sJ (setJO P (sz + 1449) j1443) (sz + 1449) ((0 : Int32)).toNatClampNeg) (r1455.toInt64) = 0 → False))) ∧ (¬ r1461 = r1443 → False))))))
def fL_23 (sz Ln : Nat) (xs : Nat → Int32) (L : Sk → St → Int32 → Prop) (μ : Int32 → Nat) (P : Sk) (f : St) (x4 : Int32) : Prop :=
  kX7_looseShare P f (sz + 0) (fun r1492 g1492 => kX8_looseShare P g1492 (sz + 1438) (fun r1498 g1498 => (Op.cmpValue (FP.dcmp r1492 r1498) .l = 0 → ∀ x4_1546 : Int32, x4_1546 = x4 + 4 → (L P g1498 x4_1546 ∧ x4.toNatClampNeg + 1 ≤ x4_1546.toNatClampNeg ∧ μ x4_1546 < μ x4)) ∧ (¬ Op.cmpValue (FP.dcmp r1492 r1498) .l = 0 → (Op.cmpValue (FP.dcmp r1492 r1492) .l = 0 → False) ∧ (¬ Op.cmpValue (FP.dcmp r1492 r1492) .l = 0 → (¬ Op.cmpValue (FP.dcmp r1498 r1498) .l = 0 → ∀ x4_1546 : Int32, x4_1546 = x4 + 4 → (L P g1498 x4_1546 ∧ x4.toNatClampNeg + 1 ≤ x4_1546.toNatClampNeg ∧ μ x4_1546 < μ x4)) ∧ (Op.cmpValue (FP.dcmp r1498 r1498) .l = 0 → False)))))
def fL_24 (sz Ln : Nat) (xs : Nat → Int32) (L : Sk → St → Int32 → Prop) (μ : Int32 → Nat) (P : Sk) (f : St) (x4 : Int32) : Prop :=
  kX7_digest P f (sz + 0) (fun r1533 g1533 => kX8_digest P g1533 (sz + 1438) (fun r1537 g1537 => (lg_cmp r1533 r1537 = 0 → ∀ x4_1546 : Int32, x4_1546 = x4 + 4 → (L P g1537 x4_1546 ∧ x4.toNatClampNeg + 1 ≤ x4_1546.toNatClampNeg ∧ μ x4_1546 < μ x4)) ∧ (¬ lg_cmp r1533 r1537 = 0 → False)))
def bL_law (sz Ln : Nat) (xs : Nat → Int32) (L : Sk → St → Int32 → Prop) (μ : Int32 → Nat) (P : Sk) (f : St) (x4 : Int32) : Prop :=
  ((nI Ln) - 4 < x4 → True) ∧ (¬ (nI Ln) - 4 < x4 → (vp_in x4 Ln) ∧ (∀ kk : Int32, kk = (xs x4.toNatClampNeg) &&& 31 → (kk = 0 → fL_0 sz Ln xs L μ P f x4) ∧ (¬ kk = 0 → (kk = 1 → fL_1 sz Ln xs L μ P f x4) ∧ (¬ kk = 1 → (kk = 2 → fL_2 sz Ln xs L μ P f x4) ∧ (¬ kk = 2 → (kk = 3 → fL_3 sz Ln xs L μ P f x4) ∧ (¬ kk = 3 → (kk = 4 → fL_4 sz Ln xs L μ P f x4) ∧ (¬ kk = 4 → (kk = 5 → fL_5 sz Ln xs L μ P f x4) ∧ (¬ kk = 5 → (kk = 6 → fL_6 sz Ln xs L μ P f x4) ∧ (¬ kk = 6 → (kk = 7 → fL_7 sz Ln xs L μ P f x4) ∧ (¬ kk = 7 → (kk = 8 → fL_8 sz Ln xs L μ P f x4) ∧ (¬ kk = 8 → (kk = 9 → fL_9 sz Ln xs L μ P f x4) ∧ (¬ kk = 9 → (kk = 10 → fL_10 sz Ln xs L μ P f x4) ∧ (¬ kk = 10 → (kk = 11 → fL_11 sz Ln xs L μ P f x4) ∧ (¬ kk = 11 → (kk = 12 → fL_12 sz Ln xs L μ P f x4) ∧ (¬ kk = 12 → (kk = 13 → fL_13 sz Ln xs L μ P f x4) ∧ (¬ kk = 13 → (kk = 14 → fL_14 sz Ln xs L μ P f x4) ∧ (¬ kk = 14 → (kk = 15 → fL_15 sz Ln xs L μ P f x4) ∧ (¬ kk = 15 → (kk = 16 → fL_16 sz Ln xs L μ P f x4) ∧ (¬ kk = 16 → (kk = 17 → fL_17 sz Ln xs L μ P f x4) ∧ (¬ kk = 17 → (kk = 18 → fL_18 sz Ln xs L μ P f x4) ∧ (¬ kk = 18 → (kk = 19 → fL_19 sz Ln xs L μ P f x4) ∧ (¬ kk = 19 → (kk = 20 → fL_20 sz Ln xs L μ P f x4) ∧ (¬ kk = 20 → (kk = 21 → fL_21 sz Ln xs L μ P f x4) ∧ (¬ kk = 21 → (kk = 22 → fL_22 sz Ln xs L μ P f x4) ∧ (¬ kk = 22 → (kk = 23 → fL_23 sz Ln xs L μ P f x4) ∧ (¬ kk = 23 → (kk = 24 → fL_24 sz Ln xs L μ P f x4) ∧ (¬ kk = 24 → ∀ x4_1546 : Int32, x4_1546 = x4 + 4 → (L P f x4_1546 ∧ x4.toNatClampNeg + 1 ≤ x4_1546.toNatClampNeg ∧ μ x4_1546 < μ x4))))))))))))))))))))))))))))
set_option maxRecDepth 20000 in
set_option maxHeartbeats 4000000 in
theorem lawc_0 {p : Program} {e : Env} {s : State} {m : MethodId} {args : Array Value} {below : List Frame} {meth : Method} {c : Code} {b : Nat} {Q : State → Prop} {Pz : Sk} (l : Launch) (hl : l.stackTraces = false) (G : Gl) (sz Ln : Nat) (xs : Nat → Int32) (o : Okk p s m args meth c cL_law RL 9 G (frA Pz sz)) (hT : TH (frA Pz sz) s s.heap) (hX : va_X b Ln xs s s.heap) (hbl : b < s.heap.size) (hbA : ¬ frA Pz sz b) (hLn : Ln ≤ 2048) (hsz : s.heap.size = sz) (L : Sk → St → Int32 → Prop) (μ : Int32 → Nat) (P : Sk) (f : St) (x4 : Int32) (hx : IsComp P (sz + 0)) (hm : IsModel P (sz + 1438)) (ho : Ob P (sz + 1449) 10 ∧ sN P (sz + 1449) = 1) (hx4 : x4.toNatClampNeg ≤ 2048) (h : fL_0 sz Ln xs L μ P f x4) {n : Nat} (ih : ∀ (P : Sk) (f : St) (x4 : Int32), L P f x4 → μ x4 < n → V p l e room_1 s m args below meth c 9 G (frA Pz sz) Q (1450 + 4 * x4.toNatClampNeg) (13000 + 24 * x4.toNatClampNeg) P [(0, .ref b), (1, .ref (sz + 0)), (2, .ref (sz + 1438)), (3, .ref (sz + 1449)), (4, .int x4)] [] 23 f) (hn : μ x4 ≤ n) : V p l e room_1 s m args below meth c 9 G (frA Pz sz) Q (1450 + 4 * x4.toNatClampNeg) (13000 + 24 * x4.toNatClampNeg) P [(0, .ref b), (1, .ref (sz + 0)), (2, .ref (sz + 1438)), (3, .ref (sz + 1449)), (4, .int x4)] [] 152 f := by
  unfold fL_0 at h
  refine v_aload_n o 1 dL_law_152 rfl ?_
  refine v_aload_n o 3 dL_law_153 rfl ?_
  refine v_cSw o hT [.ref (sz + 0), .ref (sz + 1449)] [] (fun z => metL_lay l hl G P f z (sz + 0) (sz + 1449) hx ho _ h) (cq84 o.1.2.2.2.2 (by decide)) rfl (Nat.le_of_ble_eq_true rfl) ⟨by show _ ≤ 616677; omega, by show _ ≤ 7246074; omega⟩ dL_law_154 rfl (fun r154 j154 g154 h => ?_)
  have hx154 := isComp_J (b := (sz + 1449)) (v := j154) hx
  have hm154 := isModel_J (b := (sz + 1449)) (v := j154) hm
  have ho154 : Ob (setJO P (sz + 1449) j154) (sz + 1449) 10 ∧ sN (setJO P (sz + 1449) j154) (sz + 1449) = 1 := ho
  refine v_istore o (lv' := [(5, .int r154), (0, .ref b), (1, .ref (sz + 0)), (2, .ref (sz + 1438)), (3, .ref (sz + 1449)), (4, .int x4)]) dL_law_157 (by decide) rfl ?_
  refine v_aload_n o 3 dL_law_159 rfl ?_
  refine v_cVi o [] [] (fun z => metX8_lay l G (setJO P (sz + 1449) j154) g154 z (sz + 1438) hm154 _ h) (cwL_89 o.1.2.2.2.2 (by decide)) ⟨_, _, rfl⟩ (by decide) (wfModel_o hm154) rfl (Nat.le_of_ble_eq_true rfl) ⟨by show _ ≤ 616677; omega, by show _ ≤ 7246074; omega⟩ dL_law_160 rfl (fun r160 g160 h => ?_)
  refine v_istore o (lv' := [(6, .int r160), (5, .int r154), (0, .ref b), (1, .ref (sz + 0)), (2, .ref (sz + 1438)), (3, .ref (sz + 1449)), (4, .int x4)]) dL_law_163 (by decide) rfl ?_
  refine v_aload_n o 4 dL_law_165 rfl ?_
  refine v_cVi o [] [] (fun z => metX8_thrown l G (setJO P (sz + 1449) j154) g160 z (sz + 1438) hm154 _ h) (cwL_90 o.1.2.2.2.2 (by decide)) ⟨_, _, rfl⟩ (by decide) (wfModel_o hm154) rfl (Nat.le_of_ble_eq_true rfl) ⟨by show _ ≤ 616677; omega, by show _ ≤ 7246074; omega⟩ dL_law_166 rfl (fun r166 g166 h => ?_)
  refine v_iload o 1 dL_law_169 rfl ?_
  refine v_icmp_eq o (tgt := 176) dL_law_171 (by decide) (fun c171 => ?_) (fun c171 => ?_)
  · replace h := h.1 c171
    refine v_iload o 1 dL_law_176 rfl ?_
    refine v_if_ne o (tgt := 193) dL_law_178 (by decide) (fun c178 => ?_) (fun c178 => ?_)
    · replace h := h.1 c178
      refine v_goto o (tgt := 1546) dL_law_193 (by decide) ?_
      obtain ⟨x4_1546, ex4_1546⟩ : ∃ y : Int32, y = x4 + 4 := ⟨_, rfl⟩
      replace h := h x4_1546 ex4_1546
      refine v_iinc o (v := x4_1546) (lv' := [(4, .int x4_1546), (6, .int r160), (5, .int r154), (0, .ref b), (1, .ref (sz + 0)), (2, .ref (sz + 1438)), (3, .ref (sz + 1449))]) 6 dL_law_1546 rfl (by rw [ex4_1546]; rfl) (by decide) rfl ?_
      refine v_goto o (tgt := 23) dL_law_1549 (by decide) ?_
      refine v_sub [3, 4, 5, 6, 0] (lv2 := [(0, .ref b), (1, .ref (sz + 0)), (2, .ref (sz + 1438)), (3, .ref (sz + 1449)), (4, .int x4_1546)]) rfl ?_
      refine v_widen (k := 1450 + 4 * x4_1546.toNatClampNeg) (n := 13000 + 24 * x4_1546.toNatClampNeg) (by have := h.2.1; omega) (by have := h.2.1; omega) ?_
      exact ih (setJO P (sz + 1449) j154) g166 x4_1546 h.1 (by have := h.2.2; omega)
    · replace h := h.2 c178
      refine v_aload_n o 5 dL_law_181 rfl ?_
      refine v_iconst o (v := 0) dL_law_182 (by decide) ?_
      refine v_lald o ho154.1 ho154.2 (by unfold vp_in; decide) dL_law_183 ?_
      refine v_iload o 0 dL_law_184 rfl ?_
      refine v_i2l o dL_law_186 ?_
      refine v_lcmp o dL_law_187 ?_
      refine v_if_eq o (tgt := 193) dL_law_188 (by decide) (fun c188 => ?_) (fun c188 => ?_)
      · replace h := h.1 c188
        refine v_goto o (tgt := 1546) dL_law_193 (by decide) ?_
        obtain ⟨x4_1546, ex4_1546⟩ : ∃ y : Int32, y = x4 + 4 := ⟨_, rfl⟩
        replace h := h x4_1546 ex4_1546
        refine v_iinc o (v := x4_1546) (lv' := [(4, .int x4_1546), (6, .int r160), (5, .int r154), (0, .ref b), (1, .ref (sz + 0)), (2, .ref (sz + 1438)), (3, .ref (sz + 1449))]) 6 dL_law_1546 rfl (by rw [ex4_1546]; rfl) (by decide) rfl ?_
        refine v_goto o (tgt := 23) dL_law_1549 (by decide) ?_
        refine v_sub [3, 4, 5, 6, 0] (lv2 := [(0, .ref b), (1, .ref (sz + 0)), (2, .ref (sz + 1438)), (3, .ref (sz + 1449)), (4, .int x4_1546)]) rfl ?_
        refine v_widen (k := 1450 + 4 * x4_1546.toNatClampNeg) (n := 13000 + 24 * x4_1546.toNatClampNeg) (by have := h.2.1; omega) (by have := h.2.1; omega) ?_
        exact ih (setJO P (sz + 1449) j154) g166 x4_1546 h.1 (by have := h.2.2; omega)
      · replace h := h.2 c188
        refine v_iconst o (v := 0) dL_law_191 (by decide) ?_
        exact h.elim
  · replace h := h.2 c171
    refine v_iconst o (v := 0) dL_law_174 (by decide) ?_
    exact h.elim
set_option maxRecDepth 20000 in
set_option maxHeartbeats 4000000 in
theorem lawc_1 {p : Program} {e : Env} {s : State} {m : MethodId} {args : Array Value} {below : List Frame} {meth : Method} {c : Code} {b : Nat} {Q : State → Prop} {Pz : Sk} (l : Launch) (hl : l.stackTraces = false) (G : Gl) (sz Ln : Nat) (xs : Nat → Int32) (o : Okk p s m args meth c cL_law RL 9 G (frA Pz sz)) (hT : TH (frA Pz sz) s s.heap) (hX : va_X b Ln xs s s.heap) (hbl : b < s.heap.size) (hbA : ¬ frA Pz sz b) (hLn : Ln ≤ 2048) (hsz : s.heap.size = sz) (L : Sk → St → Int32 → Prop) (μ : Int32 → Nat) (P : Sk) (f : St) (x4 : Int32) (hx : IsComp P (sz + 0)) (hm : IsModel P (sz + 1438)) (ho : Ob P (sz + 1449) 10 ∧ sN P (sz + 1449) = 1) (hx4 : x4.toNatClampNeg ≤ 2048) (h : fL_1 sz Ln xs L μ P f x4) {n : Nat} (ih : ∀ (P : Sk) (f : St) (x4 : Int32), L P f x4 → μ x4 < n → V p l e room_1 s m args below meth c 9 G (frA Pz sz) Q (1450 + 4 * x4.toNatClampNeg) (13000 + 24 * x4.toNatClampNeg) P [(0, .ref b), (1, .ref (sz + 0)), (2, .ref (sz + 1438)), (3, .ref (sz + 1449)), (4, .int x4)] [] 23 f) (hn : μ x4 ≤ n) : V p l e room_1 s m args below meth c 9 G (frA Pz sz) Q (1450 + 4 * x4.toNatClampNeg) (13000 + 24 * x4.toNatClampNeg) P [(0, .ref b), (1, .ref (sz + 0)), (2, .ref (sz + 1438)), (3, .ref (sz + 1449)), (4, .int x4)] [] 196 f := by
  unfold fL_1 at h
  refine v_aload_n o 1 dL_law_196 rfl ?_
  refine v_aload_n o 0 dL_law_197 rfl ?_
  refine v_iload o 4 dL_law_198 rfl ?_
  refine v_iconst o (v := 1) dL_law_200 (by decide) ?_
  refine v_iadd o dL_law_201 ?_
  refine v_sld o hX hbl hbA h.1 dL_law_202 ?_
  replace h := h.2
  refine v_aload_n o 3 dL_law_203 rfl ?_
  refine v_cSw o hT [.ref (sz + 0), .int (xs (x4 + 1).toNatClampNeg), .ref (sz + 1449)] [] (fun z => metL_bake l hl G P f z (sz + 0) (xs (x4 + 1).toNatClampNeg) (sz + 1449) hx ho _ h) (cq93 o.1.2.2.2.2 (by decide)) rfl (Nat.le_of_ble_eq_true rfl) ⟨by show _ ≤ 616677; omega, by show _ ≤ 7246074; omega⟩ dL_law_204 rfl (fun r204 j204 g204 h => ?_)
  have hx204 := isComp_J (b := (sz + 1449)) (v := j204) hx
  have hm204 := isModel_J (b := (sz + 1449)) (v := j204) hm
  have ho204 : Ob (setJO P (sz + 1449) j204) (sz + 1449) 10 ∧ sN (setJO P (sz + 1449) j204) (sz + 1449) = 1 := ho
  refine v_istore o (lv' := [(5, .int r204), (0, .ref b), (1, .ref (sz + 0)), (2, .ref (sz + 1438)), (3, .ref (sz + 1449)), (4, .int x4)]) dL_law_207 (by decide) rfl ?_
  refine v_aload_n o 3 dL_law_209 rfl ?_
  refine v_aload_n o 1 dL_law_210 rfl ?_
  refine v_iload o 5 dL_law_211 rfl ?_
  refine v_iconst o (v := 1) dL_law_213 (by decide) ?_
  refine v_iadd o dL_law_214 ?_
  refine v_sld o hX hbl hbA h.1 dL_law_215 ?_
  replace h := h.2
  refine v_cVi o [.int (xs (x4 + 1).toNatClampNeg)] [] (fun z => metX8_bake l G (setJO P (sz + 1449) j204) g204 z (sz + 1438) hm204 (xs (x4 + 1).toNatClampNeg) _ h) (cwL_96 o.1.2.2.2.2 (by decide)) ⟨_, _, rfl⟩ (by decide) (wfModel_o hm204) rfl (Nat.le_of_ble_eq_true rfl) ⟨by show _ ≤ 616677; omega, by show _ ≤ 7246074; omega⟩ dL_law_216 rfl (fun r216 g216 h => ?_)
  refine v_istore o (lv' := [(6, .int r216), (5, .int r204), (0, .ref b), (1, .ref (sz + 0)), (2, .ref (sz + 1438)), (3, .ref (sz + 1449)), (4, .int x4)]) dL_law_219 (by decide) rfl ?_
  refine v_aload_n o 4 dL_law_221 rfl ?_
  refine v_cVi o [] [] (fun z => metX8_thrown l G (setJO P (sz + 1449) j204) g216 z (sz + 1438) hm204 _ h) (cwL_90 o.1.2.2.2.2 (by decide)) ⟨_, _, rfl⟩ (by decide) (wfModel_o hm204) rfl (Nat.le_of_ble_eq_true rfl) ⟨by show _ ≤ 616677; omega, by show _ ≤ 7246074; omega⟩ dL_law_222 rfl (fun r222 g222 h => ?_)
  refine v_iload o 1 dL_law_225 rfl ?_
  refine v_icmp_eq o (tgt := 232) dL_law_227 (by decide) (fun c227 => ?_) (fun c227 => ?_)
  · replace h := h.1 c227
    refine v_iload o 1 dL_law_232 rfl ?_
    refine v_if_ne o (tgt := 249) dL_law_234 (by decide) (fun c234 => ?_) (fun c234 => ?_)
    · replace h := h.1 c234
      refine v_goto o (tgt := 1546) dL_law_249 (by decide) ?_
      obtain ⟨x4_1546, ex4_1546⟩ : ∃ y : Int32, y = x4 + 4 := ⟨_, rfl⟩
      replace h := h x4_1546 ex4_1546
      refine v_iinc o (v := x4_1546) (lv' := [(4, .int x4_1546), (6, .int r216), (5, .int r204), (0, .ref b), (1, .ref (sz + 0)), (2, .ref (sz + 1438)), (3, .ref (sz + 1449))]) 6 dL_law_1546 rfl (by rw [ex4_1546]; rfl) (by decide) rfl ?_
      refine v_goto o (tgt := 23) dL_law_1549 (by decide) ?_
      refine v_sub [3, 4, 5, 6, 0] (lv2 := [(0, .ref b), (1, .ref (sz + 0)), (2, .ref (sz + 1438)), (3, .ref (sz + 1449)), (4, .int x4_1546)]) rfl ?_
      refine v_widen (k := 1450 + 4 * x4_1546.toNatClampNeg) (n := 13000 + 24 * x4_1546.toNatClampNeg) (by have := h.2.1; omega) (by have := h.2.1; omega) ?_
      exact ih (setJO P (sz + 1449) j204) g222 x4_1546 h.1 (by have := h.2.2; omega)
    · replace h := h.2 c234
      refine v_aload_n o 5 dL_law_237 rfl ?_
      refine v_iconst o (v := 0) dL_law_238 (by decide) ?_
      refine v_lald o ho204.1 ho204.2 (by unfold vp_in; decide) dL_law_239 ?_
      refine v_iload o 0 dL_law_240 rfl ?_
      refine v_i2l o dL_law_242 ?_
      refine v_lcmp o dL_law_243 ?_
      refine v_if_eq o (tgt := 249) dL_law_244 (by decide) (fun c244 => ?_) (fun c244 => ?_)
      · replace h := h.1 c244
        refine v_goto o (tgt := 1546) dL_law_249 (by decide) ?_
        obtain ⟨x4_1546, ex4_1546⟩ : ∃ y : Int32, y = x4 + 4 := ⟨_, rfl⟩
        replace h := h x4_1546 ex4_1546
        refine v_iinc o (v := x4_1546) (lv' := [(4, .int x4_1546), (6, .int r216), (5, .int r204), (0, .ref b), (1, .ref (sz + 0)), (2, .ref (sz + 1438)), (3, .ref (sz + 1449))]) 6 dL_law_1546 rfl (by rw [ex4_1546]; rfl) (by decide) rfl ?_
        refine v_goto o (tgt := 23) dL_law_1549 (by decide) ?_
        refine v_sub [3, 4, 5, 6, 0] (lv2 := [(0, .ref b), (1, .ref (sz + 0)), (2, .ref (sz + 1438)), (3, .ref (sz + 1449)), (4, .int x4_1546)]) rfl ?_
        refine v_widen (k := 1450 + 4 * x4_1546.toNatClampNeg) (n := 13000 + 24 * x4_1546.toNatClampNeg) (by have := h.2.1; omega) (by have := h.2.1; omega) ?_
        exact ih (setJO P (sz + 1449) j204) g222 x4_1546 h.1 (by have := h.2.2; omega)
      · replace h := h.2 c244
        refine v_iconst o (v := 0) dL_law_247 (by decide) ?_
        exact h.elim
  · replace h := h.2 c227
    refine v_iconst o (v := 0) dL_law_230 (by decide) ?_
    exact h.elim
set_option maxRecDepth 20000 in
set_option maxHeartbeats 4000000 in
theorem lawc_2 {p : Program} {e : Env} {s : State} {m : MethodId} {args : Array Value} {below : List Frame} {meth : Method} {c : Code} {b : Nat} {Q : State → Prop} {Pz : Sk} (l : Launch) (hl : l.stackTraces = false) (G : Gl) (sz Ln : Nat) (xs : Nat → Int32) (o : Okk p s m args meth c cL_law RL 9 G (frA Pz sz)) (hT : TH (frA Pz sz) s s.heap) (hX : va_X b Ln xs s s.heap) (hbl : b < s.heap.size) (hbA : ¬ frA Pz sz b) (hLn : Ln ≤ 2048) (hsz : s.heap.size = sz) (L : Sk → St → Int32 → Prop) (μ : Int32 → Nat) (P : Sk) (f : St) (x4 : Int32) (hx : IsComp P (sz + 0)) (hm : IsModel P (sz + 1438)) (ho : Ob P (sz + 1449) 10 ∧ sN P (sz + 1449) = 1) (hx4 : x4.toNatClampNeg ≤ 2048) (h : fL_2 sz Ln xs L μ P f x4) {n : Nat} (ih : ∀ (P : Sk) (f : St) (x4 : Int32), L P f x4 → μ x4 < n → V p l e room_1 s m args below meth c 9 G (frA Pz sz) Q (1450 + 4 * x4.toNatClampNeg) (13000 + 24 * x4.toNatClampNeg) P [(0, .ref b), (1, .ref (sz + 0)), (2, .ref (sz + 1438)), (3, .ref (sz + 1449)), (4, .int x4)] [] 23 f) (hn : μ x4 ≤ n) : V p l e room_1 s m args below meth c 9 G (frA Pz sz) Q (1450 + 4 * x4.toNatClampNeg) (13000 + 24 * x4.toNatClampNeg) P [(0, .ref b), (1, .ref (sz + 0)), (2, .ref (sz + 1438)), (3, .ref (sz + 1449)), (4, .int x4)] [] 252 f := by
  unfold fL_2 at h
  refine v_aload_n o 1 dL_law_252 rfl ?_
  refine v_aload_n o 0 dL_law_253 rfl ?_
  refine v_iload o 4 dL_law_254 rfl ?_
  refine v_iconst o (v := 1) dL_law_256 (by decide) ?_
  refine v_iadd o dL_law_257 ?_
  refine v_sld o hX hbl hbA h.1 dL_law_258 ?_
  replace h := h.2
  refine v_aload_n o 0 dL_law_259 rfl ?_
  refine v_iload o 4 dL_law_260 rfl ?_
  refine v_iconst o (v := 2) dL_law_262 (by decide) ?_
  refine v_iadd o dL_law_263 ?_
  refine v_sld o hX hbl hbA h.1 dL_law_264 ?_
  replace h := h.2
  refine v_aload_n o 0 dL_law_265 rfl ?_
  refine v_iload o 4 dL_law_266 rfl ?_
  refine v_iconst o (v := 3) dL_law_268 (by decide) ?_
  refine v_iadd o dL_law_269 ?_
  refine v_sld o hX hbl hbA h.1 dL_law_270 ?_
  replace h := h.2
  refine v_if_eq o (tgt := 278) dL_law_271 (by decide) (fun c271 => ?_) (fun c271 => ?_)
  · replace h := h.1 c271
    refine v_iconst o (v := 0) dL_law_278 (by decide) ?_
    refine v_aload_n o 3 dL_law_279 rfl ?_
    refine v_cSw o hT [.ref (sz + 0), .int (xs (x4 + 1).toNatClampNeg), .int (xs (x4 + 2).toNatClampNeg), .int 0, .ref (sz + 1449)] [] (fun z => metL_cross l hl G P f z (sz + 0) (xs (x4 + 1).toNatClampNeg) (xs (x4 + 2).toNatClampNeg) 0 (sz + 1449) hx ho _ h) (cq97 o.1.2.2.2.2 (by decide)) rfl (Nat.le_of_ble_eq_true rfl) ⟨by show _ ≤ 616677; omega, by show _ ≤ 7246074; omega⟩ dL_law_280 rfl (fun r280 j280 g280 h => ?_)
    have hx280 := isComp_J (b := (sz + 1449)) (v := j280) hx
    have hm280 := isModel_J (b := (sz + 1449)) (v := j280) hm
    have ho280 : Ob (setJO P (sz + 1449) j280) (sz + 1449) 10 ∧ sN (setJO P (sz + 1449) j280) (sz + 1449) = 1 := ho
    refine v_istore o (lv' := [(5, .int r280), (0, .ref b), (1, .ref (sz + 0)), (2, .ref (sz + 1438)), (3, .ref (sz + 1449)), (4, .int x4)]) dL_law_283 (by decide) rfl ?_
    refine v_aload_n o 3 dL_law_285 rfl ?_
    refine v_aload_n o 1 dL_law_286 rfl ?_
    refine v_iload o 5 dL_law_287 rfl ?_
    refine v_iconst o (v := 1) dL_law_289 (by decide) ?_
    refine v_iadd o dL_law_290 ?_
    refine v_sld o hX hbl hbA h.1 dL_law_291 ?_
    replace h := h.2
    refine v_aload_n o 1 dL_law_292 rfl ?_
    refine v_iload o 5 dL_law_293 rfl ?_
    refine v_iconst o (v := 2) dL_law_295 (by decide) ?_
    refine v_iadd o dL_law_296 ?_
    refine v_sld o hX hbl hbA h.1 dL_law_297 ?_
    replace h := h.2
    refine v_aload_n o 1 dL_law_298 rfl ?_
    refine v_iload o 5 dL_law_299 rfl ?_
    refine v_iconst o (v := 3) dL_law_301 (by decide) ?_
    refine v_iadd o dL_law_302 ?_
    refine v_sld o hX hbl hbA h.1 dL_law_303 ?_
    replace h := h.2
    refine v_if_eq o (tgt := 311) dL_law_304 (by decide) (fun c304 => ?_) (fun c304 => ?_)
    · replace h := h.1 c304
      refine v_iconst o (v := 0) dL_law_311 (by decide) ?_
      refine v_cVi o [.int (xs (x4 + 1).toNatClampNeg), .int (xs (x4 + 2).toNatClampNeg), .int 0] [] (fun z => metX8_cross l G (setJO P (sz + 1449) j280) g280 z (sz + 1438) hm280 (xs (x4 + 1).toNatClampNeg) (xs (x4 + 2).toNatClampNeg) 0 _ h) (cwL_100 o.1.2.2.2.2 (by decide)) ⟨_, _, rfl⟩ (by decide) (wfModel_o hm280) rfl (Nat.le_of_ble_eq_true rfl) ⟨by show _ ≤ 616677; omega, by show _ ≤ 7246074; omega⟩ dL_law_312 rfl (fun r312 g312 h => ?_)
      refine v_istore o (lv' := [(6, .int r312), (5, .int r280), (0, .ref b), (1, .ref (sz + 0)), (2, .ref (sz + 1438)), (3, .ref (sz + 1449)), (4, .int x4)]) dL_law_315 (by decide) rfl ?_
      refine v_aload_n o 4 dL_law_317 rfl ?_
      refine v_cVi o [] [] (fun z => metX8_thrown l G (setJO P (sz + 1449) j280) g312 z (sz + 1438) hm280 _ h) (cwL_90 o.1.2.2.2.2 (by decide)) ⟨_, _, rfl⟩ (by decide) (wfModel_o hm280) rfl (Nat.le_of_ble_eq_true rfl) ⟨by show _ ≤ 616677; omega, by show _ ≤ 7246074; omega⟩ dL_law_318 rfl (fun r318 g318 h => ?_)
      refine v_iload o 1 dL_law_321 rfl ?_
      refine v_icmp_eq o (tgt := 328) dL_law_323 (by decide) (fun c323 => ?_) (fun c323 => ?_)
      · replace h := h.1 c323
        refine v_iload o 1 dL_law_328 rfl ?_
        refine v_if_ne o (tgt := 345) dL_law_330 (by decide) (fun c330 => ?_) (fun c330 => ?_)
        · replace h := h.1 c330
          refine v_goto o (tgt := 1546) dL_law_345 (by decide) ?_
          obtain ⟨x4_1546, ex4_1546⟩ : ∃ y : Int32, y = x4 + 4 := ⟨_, rfl⟩
          replace h := h x4_1546 ex4_1546
          refine v_iinc o (v := x4_1546) (lv' := [(4, .int x4_1546), (6, .int r312), (5, .int r280), (0, .ref b), (1, .ref (sz + 0)), (2, .ref (sz + 1438)), (3, .ref (sz + 1449))]) 6 dL_law_1546 rfl (by rw [ex4_1546]; rfl) (by decide) rfl ?_
          refine v_goto o (tgt := 23) dL_law_1549 (by decide) ?_
          refine v_sub [3, 4, 5, 6, 0] (lv2 := [(0, .ref b), (1, .ref (sz + 0)), (2, .ref (sz + 1438)), (3, .ref (sz + 1449)), (4, .int x4_1546)]) rfl ?_
          refine v_widen (k := 1450 + 4 * x4_1546.toNatClampNeg) (n := 13000 + 24 * x4_1546.toNatClampNeg) (by have := h.2.1; omega) (by have := h.2.1; omega) ?_
          exact ih (setJO P (sz + 1449) j280) g318 x4_1546 h.1 (by have := h.2.2; omega)
        · replace h := h.2 c330
          refine v_aload_n o 5 dL_law_333 rfl ?_
          refine v_iconst o (v := 0) dL_law_334 (by decide) ?_
          refine v_lald o ho280.1 ho280.2 (by unfold vp_in; decide) dL_law_335 ?_
          refine v_iload o 0 dL_law_336 rfl ?_
          refine v_i2l o dL_law_338 ?_
          refine v_lcmp o dL_law_339 ?_
          refine v_if_eq o (tgt := 345) dL_law_340 (by decide) (fun c340 => ?_) (fun c340 => ?_)
          · replace h := h.1 c340
            refine v_goto o (tgt := 1546) dL_law_345 (by decide) ?_
            obtain ⟨x4_1546, ex4_1546⟩ : ∃ y : Int32, y = x4 + 4 := ⟨_, rfl⟩
            replace h := h x4_1546 ex4_1546
            refine v_iinc o (v := x4_1546) (lv' := [(4, .int x4_1546), (6, .int r312), (5, .int r280), (0, .ref b), (1, .ref (sz + 0)), (2, .ref (sz + 1438)), (3, .ref (sz + 1449))]) 6 dL_law_1546 rfl (by rw [ex4_1546]; rfl) (by decide) rfl ?_
            refine v_goto o (tgt := 23) dL_law_1549 (by decide) ?_
            refine v_sub [3, 4, 5, 6, 0] (lv2 := [(0, .ref b), (1, .ref (sz + 0)), (2, .ref (sz + 1438)), (3, .ref (sz + 1449)), (4, .int x4_1546)]) rfl ?_
            refine v_widen (k := 1450 + 4 * x4_1546.toNatClampNeg) (n := 13000 + 24 * x4_1546.toNatClampNeg) (by have := h.2.1; omega) (by have := h.2.1; omega) ?_
            exact ih (setJO P (sz + 1449) j280) g318 x4_1546 h.1 (by have := h.2.2; omega)
          · replace h := h.2 c340
            refine v_iconst o (v := 0) dL_law_343 (by decide) ?_
            exact h.elim
      · replace h := h.2 c323
        refine v_iconst o (v := 0) dL_law_326 (by decide) ?_
        exact h.elim
    · replace h := h.2 c304
      refine v_iconst o (v := 1) dL_law_307 (by decide) ?_
      refine v_goto o (tgt := 312) dL_law_308 (by decide) ?_
      refine v_cVi o [.int (xs (x4 + 1).toNatClampNeg), .int (xs (x4 + 2).toNatClampNeg), .int 1] [] (fun z => metX8_cross l G (setJO P (sz + 1449) j280) g280 z (sz + 1438) hm280 (xs (x4 + 1).toNatClampNeg) (xs (x4 + 2).toNatClampNeg) 1 _ h) (cwL_100 o.1.2.2.2.2 (by decide)) ⟨_, _, rfl⟩ (by decide) (wfModel_o hm280) rfl (Nat.le_of_ble_eq_true rfl) ⟨by show _ ≤ 616677; omega, by show _ ≤ 7246074; omega⟩ dL_law_312 rfl (fun r312 g312 h => ?_)
      refine v_istore o (lv' := [(6, .int r312), (5, .int r280), (0, .ref b), (1, .ref (sz + 0)), (2, .ref (sz + 1438)), (3, .ref (sz + 1449)), (4, .int x4)]) dL_law_315 (by decide) rfl ?_
      refine v_aload_n o 4 dL_law_317 rfl ?_
      refine v_cVi o [] [] (fun z => metX8_thrown l G (setJO P (sz + 1449) j280) g312 z (sz + 1438) hm280 _ h) (cwL_90 o.1.2.2.2.2 (by decide)) ⟨_, _, rfl⟩ (by decide) (wfModel_o hm280) rfl (Nat.le_of_ble_eq_true rfl) ⟨by show _ ≤ 616677; omega, by show _ ≤ 7246074; omega⟩ dL_law_318 rfl (fun r318 g318 h => ?_)
      refine v_iload o 1 dL_law_321 rfl ?_
      refine v_icmp_eq o (tgt := 328) dL_law_323 (by decide) (fun c323 => ?_) (fun c323 => ?_)
      · replace h := h.1 c323
        refine v_iload o 1 dL_law_328 rfl ?_
        refine v_if_ne o (tgt := 345) dL_law_330 (by decide) (fun c330 => ?_) (fun c330 => ?_)
        · replace h := h.1 c330
          refine v_goto o (tgt := 1546) dL_law_345 (by decide) ?_
          obtain ⟨x4_1546, ex4_1546⟩ : ∃ y : Int32, y = x4 + 4 := ⟨_, rfl⟩
          replace h := h x4_1546 ex4_1546
          refine v_iinc o (v := x4_1546) (lv' := [(4, .int x4_1546), (6, .int r312), (5, .int r280), (0, .ref b), (1, .ref (sz + 0)), (2, .ref (sz + 1438)), (3, .ref (sz + 1449))]) 6 dL_law_1546 rfl (by rw [ex4_1546]; rfl) (by decide) rfl ?_
          refine v_goto o (tgt := 23) dL_law_1549 (by decide) ?_
          refine v_sub [3, 4, 5, 6, 0] (lv2 := [(0, .ref b), (1, .ref (sz + 0)), (2, .ref (sz + 1438)), (3, .ref (sz + 1449)), (4, .int x4_1546)]) rfl ?_
          refine v_widen (k := 1450 + 4 * x4_1546.toNatClampNeg) (n := 13000 + 24 * x4_1546.toNatClampNeg) (by have := h.2.1; omega) (by have := h.2.1; omega) ?_
          exact ih (setJO P (sz + 1449) j280) g318 x4_1546 h.1 (by have := h.2.2; omega)
        · replace h := h.2 c330
          refine v_aload_n o 5 dL_law_333 rfl ?_
          refine v_iconst o (v := 0) dL_law_334 (by decide) ?_
          refine v_lald o ho280.1 ho280.2 (by unfold vp_in; decide) dL_law_335 ?_
          refine v_iload o 0 dL_law_336 rfl ?_
          refine v_i2l o dL_law_338 ?_
          refine v_lcmp o dL_law_339 ?_
          refine v_if_eq o (tgt := 345) dL_law_340 (by decide) (fun c340 => ?_) (fun c340 => ?_)
          · replace h := h.1 c340
            refine v_goto o (tgt := 1546) dL_law_345 (by decide) ?_
            obtain ⟨x4_1546, ex4_1546⟩ : ∃ y : Int32, y = x4 + 4 := ⟨_, rfl⟩
            replace h := h x4_1546 ex4_1546
            refine v_iinc o (v := x4_1546) (lv' := [(4, .int x4_1546), (6, .int r312), (5, .int r280), (0, .ref b), (1, .ref (sz + 0)), (2, .ref (sz + 1438)), (3, .ref (sz + 1449))]) 6 dL_law_1546 rfl (by rw [ex4_1546]; rfl) (by decide) rfl ?_
            refine v_goto o (tgt := 23) dL_law_1549 (by decide) ?_
            refine v_sub [3, 4, 5, 6, 0] (lv2 := [(0, .ref b), (1, .ref (sz + 0)), (2, .ref (sz + 1438)), (3, .ref (sz + 1449)), (4, .int x4_1546)]) rfl ?_
            refine v_widen (k := 1450 + 4 * x4_1546.toNatClampNeg) (n := 13000 + 24 * x4_1546.toNatClampNeg) (by have := h.2.1; omega) (by have := h.2.1; omega) ?_
            exact ih (setJO P (sz + 1449) j280) g318 x4_1546 h.1 (by have := h.2.2; omega)
          · replace h := h.2 c340
            refine v_iconst o (v := 0) dL_law_343 (by decide) ?_
            exact h.elim
      · replace h := h.2 c323
        refine v_iconst o (v := 0) dL_law_326 (by decide) ?_
        exact h.elim
  · replace h := h.2 c271
    refine v_iconst o (v := 1) dL_law_274 (by decide) ?_
    refine v_goto o (tgt := 279) dL_law_275 (by decide) ?_
    refine v_aload_n o 3 dL_law_279 rfl ?_
    refine v_cSw o hT [.ref (sz + 0), .int (xs (x4 + 1).toNatClampNeg), .int (xs (x4 + 2).toNatClampNeg), .int 1, .ref (sz + 1449)] [] (fun z => metL_cross l hl G P f z (sz + 0) (xs (x4 + 1).toNatClampNeg) (xs (x4 + 2).toNatClampNeg) 1 (sz + 1449) hx ho _ h) (cq97 o.1.2.2.2.2 (by decide)) rfl (Nat.le_of_ble_eq_true rfl) ⟨by show _ ≤ 616677; omega, by show _ ≤ 7246074; omega⟩ dL_law_280 rfl (fun r280 j280 g280 h => ?_)
    have hx280 := isComp_J (b := (sz + 1449)) (v := j280) hx
    have hm280 := isModel_J (b := (sz + 1449)) (v := j280) hm
    have ho280 : Ob (setJO P (sz + 1449) j280) (sz + 1449) 10 ∧ sN (setJO P (sz + 1449) j280) (sz + 1449) = 1 := ho
    refine v_istore o (lv' := [(5, .int r280), (0, .ref b), (1, .ref (sz + 0)), (2, .ref (sz + 1438)), (3, .ref (sz + 1449)), (4, .int x4)]) dL_law_283 (by decide) rfl ?_
    refine v_aload_n o 3 dL_law_285 rfl ?_
    refine v_aload_n o 1 dL_law_286 rfl ?_
    refine v_iload o 5 dL_law_287 rfl ?_
    refine v_iconst o (v := 1) dL_law_289 (by decide) ?_
    refine v_iadd o dL_law_290 ?_
    refine v_sld o hX hbl hbA h.1 dL_law_291 ?_
    replace h := h.2
    refine v_aload_n o 1 dL_law_292 rfl ?_
    refine v_iload o 5 dL_law_293 rfl ?_
    refine v_iconst o (v := 2) dL_law_295 (by decide) ?_
    refine v_iadd o dL_law_296 ?_
    refine v_sld o hX hbl hbA h.1 dL_law_297 ?_
    replace h := h.2
    refine v_aload_n o 1 dL_law_298 rfl ?_
    refine v_iload o 5 dL_law_299 rfl ?_
    refine v_iconst o (v := 3) dL_law_301 (by decide) ?_
    refine v_iadd o dL_law_302 ?_
    refine v_sld o hX hbl hbA h.1 dL_law_303 ?_
    replace h := h.2
    refine v_if_eq o (tgt := 311) dL_law_304 (by decide) (fun c304 => ?_) (fun c304 => ?_)
    · replace h := h.1 c304
      refine v_iconst o (v := 0) dL_law_311 (by decide) ?_
      refine v_cVi o [.int (xs (x4 + 1).toNatClampNeg), .int (xs (x4 + 2).toNatClampNeg), .int 0] [] (fun z => metX8_cross l G (setJO P (sz + 1449) j280) g280 z (sz + 1438) hm280 (xs (x4 + 1).toNatClampNeg) (xs (x4 + 2).toNatClampNeg) 0 _ h) (cwL_100 o.1.2.2.2.2 (by decide)) ⟨_, _, rfl⟩ (by decide) (wfModel_o hm280) rfl (Nat.le_of_ble_eq_true rfl) ⟨by show _ ≤ 616677; omega, by show _ ≤ 7246074; omega⟩ dL_law_312 rfl (fun r312 g312 h => ?_)
      refine v_istore o (lv' := [(6, .int r312), (5, .int r280), (0, .ref b), (1, .ref (sz + 0)), (2, .ref (sz + 1438)), (3, .ref (sz + 1449)), (4, .int x4)]) dL_law_315 (by decide) rfl ?_
      refine v_aload_n o 4 dL_law_317 rfl ?_
      refine v_cVi o [] [] (fun z => metX8_thrown l G (setJO P (sz + 1449) j280) g312 z (sz + 1438) hm280 _ h) (cwL_90 o.1.2.2.2.2 (by decide)) ⟨_, _, rfl⟩ (by decide) (wfModel_o hm280) rfl (Nat.le_of_ble_eq_true rfl) ⟨by show _ ≤ 616677; omega, by show _ ≤ 7246074; omega⟩ dL_law_318 rfl (fun r318 g318 h => ?_)
      refine v_iload o 1 dL_law_321 rfl ?_
      refine v_icmp_eq o (tgt := 328) dL_law_323 (by decide) (fun c323 => ?_) (fun c323 => ?_)
      · replace h := h.1 c323
        refine v_iload o 1 dL_law_328 rfl ?_
        refine v_if_ne o (tgt := 345) dL_law_330 (by decide) (fun c330 => ?_) (fun c330 => ?_)
        · replace h := h.1 c330
          refine v_goto o (tgt := 1546) dL_law_345 (by decide) ?_
          obtain ⟨x4_1546, ex4_1546⟩ : ∃ y : Int32, y = x4 + 4 := ⟨_, rfl⟩
          replace h := h x4_1546 ex4_1546
          refine v_iinc o (v := x4_1546) (lv' := [(4, .int x4_1546), (6, .int r312), (5, .int r280), (0, .ref b), (1, .ref (sz + 0)), (2, .ref (sz + 1438)), (3, .ref (sz + 1449))]) 6 dL_law_1546 rfl (by rw [ex4_1546]; rfl) (by decide) rfl ?_
          refine v_goto o (tgt := 23) dL_law_1549 (by decide) ?_
          refine v_sub [3, 4, 5, 6, 0] (lv2 := [(0, .ref b), (1, .ref (sz + 0)), (2, .ref (sz + 1438)), (3, .ref (sz + 1449)), (4, .int x4_1546)]) rfl ?_
          refine v_widen (k := 1450 + 4 * x4_1546.toNatClampNeg) (n := 13000 + 24 * x4_1546.toNatClampNeg) (by have := h.2.1; omega) (by have := h.2.1; omega) ?_
          exact ih (setJO P (sz + 1449) j280) g318 x4_1546 h.1 (by have := h.2.2; omega)
        · replace h := h.2 c330
          refine v_aload_n o 5 dL_law_333 rfl ?_
          refine v_iconst o (v := 0) dL_law_334 (by decide) ?_
          refine v_lald o ho280.1 ho280.2 (by unfold vp_in; decide) dL_law_335 ?_
          refine v_iload o 0 dL_law_336 rfl ?_
          refine v_i2l o dL_law_338 ?_
          refine v_lcmp o dL_law_339 ?_
          refine v_if_eq o (tgt := 345) dL_law_340 (by decide) (fun c340 => ?_) (fun c340 => ?_)
          · replace h := h.1 c340
            refine v_goto o (tgt := 1546) dL_law_345 (by decide) ?_
            obtain ⟨x4_1546, ex4_1546⟩ : ∃ y : Int32, y = x4 + 4 := ⟨_, rfl⟩
            replace h := h x4_1546 ex4_1546
            refine v_iinc o (v := x4_1546) (lv' := [(4, .int x4_1546), (6, .int r312), (5, .int r280), (0, .ref b), (1, .ref (sz + 0)), (2, .ref (sz + 1438)), (3, .ref (sz + 1449))]) 6 dL_law_1546 rfl (by rw [ex4_1546]; rfl) (by decide) rfl ?_
            refine v_goto o (tgt := 23) dL_law_1549 (by decide) ?_
            refine v_sub [3, 4, 5, 6, 0] (lv2 := [(0, .ref b), (1, .ref (sz + 0)), (2, .ref (sz + 1438)), (3, .ref (sz + 1449)), (4, .int x4_1546)]) rfl ?_
            refine v_widen (k := 1450 + 4 * x4_1546.toNatClampNeg) (n := 13000 + 24 * x4_1546.toNatClampNeg) (by have := h.2.1; omega) (by have := h.2.1; omega) ?_
            exact ih (setJO P (sz + 1449) j280) g318 x4_1546 h.1 (by have := h.2.2; omega)
          · replace h := h.2 c340
            refine v_iconst o (v := 0) dL_law_343 (by decide) ?_
            exact h.elim
      · replace h := h.2 c323
        refine v_iconst o (v := 0) dL_law_326 (by decide) ?_
        exact h.elim
    · replace h := h.2 c304
      refine v_iconst o (v := 1) dL_law_307 (by decide) ?_
      refine v_goto o (tgt := 312) dL_law_308 (by decide) ?_
      refine v_cVi o [.int (xs (x4 + 1).toNatClampNeg), .int (xs (x4 + 2).toNatClampNeg), .int 1] [] (fun z => metX8_cross l G (setJO P (sz + 1449) j280) g280 z (sz + 1438) hm280 (xs (x4 + 1).toNatClampNeg) (xs (x4 + 2).toNatClampNeg) 1 _ h) (cwL_100 o.1.2.2.2.2 (by decide)) ⟨_, _, rfl⟩ (by decide) (wfModel_o hm280) rfl (Nat.le_of_ble_eq_true rfl) ⟨by show _ ≤ 616677; omega, by show _ ≤ 7246074; omega⟩ dL_law_312 rfl (fun r312 g312 h => ?_)
      refine v_istore o (lv' := [(6, .int r312), (5, .int r280), (0, .ref b), (1, .ref (sz + 0)), (2, .ref (sz + 1438)), (3, .ref (sz + 1449)), (4, .int x4)]) dL_law_315 (by decide) rfl ?_
      refine v_aload_n o 4 dL_law_317 rfl ?_
      refine v_cVi o [] [] (fun z => metX8_thrown l G (setJO P (sz + 1449) j280) g312 z (sz + 1438) hm280 _ h) (cwL_90 o.1.2.2.2.2 (by decide)) ⟨_, _, rfl⟩ (by decide) (wfModel_o hm280) rfl (Nat.le_of_ble_eq_true rfl) ⟨by show _ ≤ 616677; omega, by show _ ≤ 7246074; omega⟩ dL_law_318 rfl (fun r318 g318 h => ?_)
      refine v_iload o 1 dL_law_321 rfl ?_
      refine v_icmp_eq o (tgt := 328) dL_law_323 (by decide) (fun c323 => ?_) (fun c323 => ?_)
      · replace h := h.1 c323
        refine v_iload o 1 dL_law_328 rfl ?_
        refine v_if_ne o (tgt := 345) dL_law_330 (by decide) (fun c330 => ?_) (fun c330 => ?_)
        · replace h := h.1 c330
          refine v_goto o (tgt := 1546) dL_law_345 (by decide) ?_
          obtain ⟨x4_1546, ex4_1546⟩ : ∃ y : Int32, y = x4 + 4 := ⟨_, rfl⟩
          replace h := h x4_1546 ex4_1546
          refine v_iinc o (v := x4_1546) (lv' := [(4, .int x4_1546), (6, .int r312), (5, .int r280), (0, .ref b), (1, .ref (sz + 0)), (2, .ref (sz + 1438)), (3, .ref (sz + 1449))]) 6 dL_law_1546 rfl (by rw [ex4_1546]; rfl) (by decide) rfl ?_
          refine v_goto o (tgt := 23) dL_law_1549 (by decide) ?_
          refine v_sub [3, 4, 5, 6, 0] (lv2 := [(0, .ref b), (1, .ref (sz + 0)), (2, .ref (sz + 1438)), (3, .ref (sz + 1449)), (4, .int x4_1546)]) rfl ?_
          refine v_widen (k := 1450 + 4 * x4_1546.toNatClampNeg) (n := 13000 + 24 * x4_1546.toNatClampNeg) (by have := h.2.1; omega) (by have := h.2.1; omega) ?_
          exact ih (setJO P (sz + 1449) j280) g318 x4_1546 h.1 (by have := h.2.2; omega)
        · replace h := h.2 c330
          refine v_aload_n o 5 dL_law_333 rfl ?_
          refine v_iconst o (v := 0) dL_law_334 (by decide) ?_
          refine v_lald o ho280.1 ho280.2 (by unfold vp_in; decide) dL_law_335 ?_
          refine v_iload o 0 dL_law_336 rfl ?_
          refine v_i2l o dL_law_338 ?_
          refine v_lcmp o dL_law_339 ?_
          refine v_if_eq o (tgt := 345) dL_law_340 (by decide) (fun c340 => ?_) (fun c340 => ?_)
          · replace h := h.1 c340
            refine v_goto o (tgt := 1546) dL_law_345 (by decide) ?_
            obtain ⟨x4_1546, ex4_1546⟩ : ∃ y : Int32, y = x4 + 4 := ⟨_, rfl⟩
            replace h := h x4_1546 ex4_1546
            refine v_iinc o (v := x4_1546) (lv' := [(4, .int x4_1546), (6, .int r312), (5, .int r280), (0, .ref b), (1, .ref (sz + 0)), (2, .ref (sz + 1438)), (3, .ref (sz + 1449))]) 6 dL_law_1546 rfl (by rw [ex4_1546]; rfl) (by decide) rfl ?_
            refine v_goto o (tgt := 23) dL_law_1549 (by decide) ?_
            refine v_sub [3, 4, 5, 6, 0] (lv2 := [(0, .ref b), (1, .ref (sz + 0)), (2, .ref (sz + 1438)), (3, .ref (sz + 1449)), (4, .int x4_1546)]) rfl ?_
            refine v_widen (k := 1450 + 4 * x4_1546.toNatClampNeg) (n := 13000 + 24 * x4_1546.toNatClampNeg) (by have := h.2.1; omega) (by have := h.2.1; omega) ?_
            exact ih (setJO P (sz + 1449) j280) g318 x4_1546 h.1 (by have := h.2.2; omega)
          · replace h := h.2 c340
            refine v_iconst o (v := 0) dL_law_343 (by decide) ?_
            exact h.elim
      · replace h := h.2 c323
        refine v_iconst o (v := 0) dL_law_326 (by decide) ?_
        exact h.elim
set_option maxRecDepth 20000 in
set_option maxHeartbeats 4000000 in
theorem lawc_3 {p : Program} {e : Env} {s : State} {m : MethodId} {args : Array Value} {below : List Frame} {meth : Method} {c : Code} {b : Nat} {Q : State → Prop} {Pz : Sk} (l : Launch) (hl : l.stackTraces = false) (G : Gl) (sz Ln : Nat) (xs : Nat → Int32) (o : Okk p s m args meth c cL_law RL 9 G (frA Pz sz)) (hT : TH (frA Pz sz) s s.heap) (hX : va_X b Ln xs s s.heap) (hbl : b < s.heap.size) (hbA : ¬ frA Pz sz b) (hLn : Ln ≤ 2048) (hsz : s.heap.size = sz) (L : Sk → St → Int32 → Prop) (μ : Int32 → Nat) (P : Sk) (f : St) (x4 : Int32) (hx : IsComp P (sz + 0)) (hm : IsModel P (sz + 1438)) (ho : Ob P (sz + 1449) 10 ∧ sN P (sz + 1449) = 1) (hx4 : x4.toNatClampNeg ≤ 2048) (h : fL_3 sz Ln xs L μ P f x4) {n : Nat} (ih : ∀ (P : Sk) (f : St) (x4 : Int32), L P f x4 → μ x4 < n → V p l e room_1 s m args below meth c 9 G (frA Pz sz) Q (1450 + 4 * x4.toNatClampNeg) (13000 + 24 * x4.toNatClampNeg) P [(0, .ref b), (1, .ref (sz + 0)), (2, .ref (sz + 1438)), (3, .ref (sz + 1449)), (4, .int x4)] [] 23 f) (hn : μ x4 ≤ n) : V p l e room_1 s m args below meth c 9 G (frA Pz sz) Q (1450 + 4 * x4.toNatClampNeg) (13000 + 24 * x4.toNatClampNeg) P [(0, .ref b), (1, .ref (sz + 0)), (2, .ref (sz + 1438)), (3, .ref (sz + 1449)), (4, .int x4)] [] 348 f := by
  unfold fL_3 at h
  refine v_aload_n o 1 dL_law_348 rfl ?_
  refine v_aload_n o 0 dL_law_349 rfl ?_
  refine v_iload o 4 dL_law_350 rfl ?_
  refine v_iconst o (v := 1) dL_law_352 (by decide) ?_
  refine v_iadd o dL_law_353 ?_
  refine v_sld o hX hbl hbA h.1 dL_law_354 ?_
  replace h := h.2
  refine v_aload_n o 3 dL_law_355 rfl ?_
  refine v_cSw o hT [.ref (sz + 0), .int (xs (x4 + 1).toNatClampNeg), .ref (sz + 1449)] [] (fun z => metL_back l hl G P f z (sz + 0) (xs (x4 + 1).toNatClampNeg) (sz + 1449) hx ho _ h) (cq101 o.1.2.2.2.2 (by decide)) rfl (Nat.le_of_ble_eq_true rfl) ⟨by show _ ≤ 616677; omega, by show _ ≤ 7246074; omega⟩ dL_law_356 rfl (fun r356 j356 g356 h => ?_)
  have hx356 := isComp_J (b := (sz + 1449)) (v := j356) hx
  have hm356 := isModel_J (b := (sz + 1449)) (v := j356) hm
  have ho356 : Ob (setJO P (sz + 1449) j356) (sz + 1449) 10 ∧ sN (setJO P (sz + 1449) j356) (sz + 1449) = 1 := ho
  refine v_istore o (lv' := [(5, .int r356), (0, .ref b), (1, .ref (sz + 0)), (2, .ref (sz + 1438)), (3, .ref (sz + 1449)), (4, .int x4)]) dL_law_359 (by decide) rfl ?_
  refine v_aload_n o 3 dL_law_361 rfl ?_
  refine v_aload_n o 1 dL_law_362 rfl ?_
  refine v_iload o 5 dL_law_363 rfl ?_
  refine v_iconst o (v := 1) dL_law_365 (by decide) ?_
  refine v_iadd o dL_law_366 ?_
  refine v_sld o hX hbl hbA h.1 dL_law_367 ?_
  replace h := h.2
  refine v_cVi o [.int (xs (x4 + 1).toNatClampNeg)] [] (fun z => metX8_back l G (setJO P (sz + 1449) j356) g356 z (sz + 1438) hm356 (xs (x4 + 1).toNatClampNeg) _ h) (cwL_103 o.1.2.2.2.2 (by decide)) ⟨_, _, rfl⟩ (by decide) (wfModel_o hm356) rfl (Nat.le_of_ble_eq_true rfl) ⟨by show _ ≤ 616677; omega, by show _ ≤ 7246074; omega⟩ dL_law_368 rfl (fun r368 g368 h => ?_)
  refine v_istore o (lv' := [(6, .int r368), (5, .int r356), (0, .ref b), (1, .ref (sz + 0)), (2, .ref (sz + 1438)), (3, .ref (sz + 1449)), (4, .int x4)]) dL_law_371 (by decide) rfl ?_
  refine v_aload_n o 4 dL_law_373 rfl ?_
  refine v_cVi o [] [] (fun z => metX8_thrown l G (setJO P (sz + 1449) j356) g368 z (sz + 1438) hm356 _ h) (cwL_90 o.1.2.2.2.2 (by decide)) ⟨_, _, rfl⟩ (by decide) (wfModel_o hm356) rfl (Nat.le_of_ble_eq_true rfl) ⟨by show _ ≤ 616677; omega, by show _ ≤ 7246074; omega⟩ dL_law_374 rfl (fun r374 g374 h => ?_)
  refine v_iload o 1 dL_law_377 rfl ?_
  refine v_icmp_eq o (tgt := 384) dL_law_379 (by decide) (fun c379 => ?_) (fun c379 => ?_)
  · replace h := h.1 c379
    refine v_iload o 1 dL_law_384 rfl ?_
    refine v_if_ne o (tgt := 401) dL_law_386 (by decide) (fun c386 => ?_) (fun c386 => ?_)
    · replace h := h.1 c386
      refine v_goto o (tgt := 1546) dL_law_401 (by decide) ?_
      obtain ⟨x4_1546, ex4_1546⟩ : ∃ y : Int32, y = x4 + 4 := ⟨_, rfl⟩
      replace h := h x4_1546 ex4_1546
      refine v_iinc o (v := x4_1546) (lv' := [(4, .int x4_1546), (6, .int r368), (5, .int r356), (0, .ref b), (1, .ref (sz + 0)), (2, .ref (sz + 1438)), (3, .ref (sz + 1449))]) 6 dL_law_1546 rfl (by rw [ex4_1546]; rfl) (by decide) rfl ?_
      refine v_goto o (tgt := 23) dL_law_1549 (by decide) ?_
      refine v_sub [3, 4, 5, 6, 0] (lv2 := [(0, .ref b), (1, .ref (sz + 0)), (2, .ref (sz + 1438)), (3, .ref (sz + 1449)), (4, .int x4_1546)]) rfl ?_
      refine v_widen (k := 1450 + 4 * x4_1546.toNatClampNeg) (n := 13000 + 24 * x4_1546.toNatClampNeg) (by have := h.2.1; omega) (by have := h.2.1; omega) ?_
      exact ih (setJO P (sz + 1449) j356) g374 x4_1546 h.1 (by have := h.2.2; omega)
    · replace h := h.2 c386
      refine v_aload_n o 5 dL_law_389 rfl ?_
      refine v_iconst o (v := 0) dL_law_390 (by decide) ?_
      refine v_lald o ho356.1 ho356.2 (by unfold vp_in; decide) dL_law_391 ?_
      refine v_iload o 0 dL_law_392 rfl ?_
      refine v_i2l o dL_law_394 ?_
      refine v_lcmp o dL_law_395 ?_
      refine v_if_eq o (tgt := 401) dL_law_396 (by decide) (fun c396 => ?_) (fun c396 => ?_)
      · replace h := h.1 c396
        refine v_goto o (tgt := 1546) dL_law_401 (by decide) ?_
        obtain ⟨x4_1546, ex4_1546⟩ : ∃ y : Int32, y = x4 + 4 := ⟨_, rfl⟩
        replace h := h x4_1546 ex4_1546
        refine v_iinc o (v := x4_1546) (lv' := [(4, .int x4_1546), (6, .int r368), (5, .int r356), (0, .ref b), (1, .ref (sz + 0)), (2, .ref (sz + 1438)), (3, .ref (sz + 1449))]) 6 dL_law_1546 rfl (by rw [ex4_1546]; rfl) (by decide) rfl ?_
        refine v_goto o (tgt := 23) dL_law_1549 (by decide) ?_
        refine v_sub [3, 4, 5, 6, 0] (lv2 := [(0, .ref b), (1, .ref (sz + 0)), (2, .ref (sz + 1438)), (3, .ref (sz + 1449)), (4, .int x4_1546)]) rfl ?_
        refine v_widen (k := 1450 + 4 * x4_1546.toNatClampNeg) (n := 13000 + 24 * x4_1546.toNatClampNeg) (by have := h.2.1; omega) (by have := h.2.1; omega) ?_
        exact ih (setJO P (sz + 1449) j356) g374 x4_1546 h.1 (by have := h.2.2; omega)
      · replace h := h.2 c396
        refine v_iconst o (v := 0) dL_law_399 (by decide) ?_
        exact h.elim
  · replace h := h.2 c379
    refine v_iconst o (v := 0) dL_law_382 (by decide) ?_
    exact h.elim
set_option maxRecDepth 20000 in
set_option maxHeartbeats 4000000 in
theorem lawc_4 {p : Program} {e : Env} {s : State} {m : MethodId} {args : Array Value} {below : List Frame} {meth : Method} {c : Code} {b : Nat} {Q : State → Prop} {Pz : Sk} (l : Launch) (hl : l.stackTraces = false) (G : Gl) (sz Ln : Nat) (xs : Nat → Int32) (o : Okk p s m args meth c cL_law RL 9 G (frA Pz sz)) (hT : TH (frA Pz sz) s s.heap) (hX : va_X b Ln xs s s.heap) (hbl : b < s.heap.size) (hbA : ¬ frA Pz sz b) (hLn : Ln ≤ 2048) (hsz : s.heap.size = sz) (L : Sk → St → Int32 → Prop) (μ : Int32 → Nat) (P : Sk) (f : St) (x4 : Int32) (hx : IsComp P (sz + 0)) (hm : IsModel P (sz + 1438)) (ho : Ob P (sz + 1449) 10 ∧ sN P (sz + 1449) = 1) (hx4 : x4.toNatClampNeg ≤ 2048) (h : fL_4 sz Ln xs L μ P f x4) {n : Nat} (ih : ∀ (P : Sk) (f : St) (x4 : Int32), L P f x4 → μ x4 < n → V p l e room_1 s m args below meth c 9 G (frA Pz sz) Q (1450 + 4 * x4.toNatClampNeg) (13000 + 24 * x4.toNatClampNeg) P [(0, .ref b), (1, .ref (sz + 0)), (2, .ref (sz + 1438)), (3, .ref (sz + 1449)), (4, .int x4)] [] 23 f) (hn : μ x4 ≤ n) : V p l e room_1 s m args below meth c 9 G (frA Pz sz) Q (1450 + 4 * x4.toNatClampNeg) (13000 + 24 * x4.toNatClampNeg) P [(0, .ref b), (1, .ref (sz + 0)), (2, .ref (sz + 1438)), (3, .ref (sz + 1449)), (4, .int x4)] [] 404 f := by
  unfold fL_4 at h
  refine v_aload_n o 1 dL_law_404 rfl ?_
  refine v_aload_n o 0 dL_law_405 rfl ?_
  refine v_iload o 4 dL_law_406 rfl ?_
  refine v_iconst o (v := 1) dL_law_408 (by decide) ?_
  refine v_iadd o dL_law_409 ?_
  refine v_sld o hX hbl hbA h.1 dL_law_410 ?_
  replace h := h.2
  refine v_aload_n o 0 dL_law_411 rfl ?_
  refine v_iload o 4 dL_law_412 rfl ?_
  refine v_iconst o (v := 2) dL_law_414 (by decide) ?_
  refine v_iadd o dL_law_415 ?_
  refine v_sld o hX hbl hbA h.1 dL_law_416 ?_
  replace h := h.2
  refine v_aload_n o 3 dL_law_417 rfl ?_
  refine v_cSw o hT [.ref (sz + 0), .int (xs (x4 + 1).toNatClampNeg), .int (xs (x4 + 2).toNatClampNeg), .ref (sz + 1449)] [] (fun z => metL_change l hl G P f z (sz + 0) (xs (x4 + 1).toNatClampNeg) (xs (x4 + 2).toNatClampNeg) (sz + 1449) hx ho _ h) (cq104 o.1.2.2.2.2 (by decide)) rfl (Nat.le_of_ble_eq_true rfl) ⟨by show _ ≤ 616677; omega, by show _ ≤ 7246074; omega⟩ dL_law_418 rfl (fun r418 j418 g418 h => ?_)
  have hx418 := isComp_J (b := (sz + 1449)) (v := j418) hx
  have hm418 := isModel_J (b := (sz + 1449)) (v := j418) hm
  have ho418 : Ob (setJO P (sz + 1449) j418) (sz + 1449) 10 ∧ sN (setJO P (sz + 1449) j418) (sz + 1449) = 1 := ho
  refine v_istore o (lv' := [(5, .int r418), (0, .ref b), (1, .ref (sz + 0)), (2, .ref (sz + 1438)), (3, .ref (sz + 1449)), (4, .int x4)]) dL_law_421 (by decide) rfl ?_
  refine v_aload_n o 3 dL_law_423 rfl ?_
  refine v_aload_n o 1 dL_law_424 rfl ?_
  refine v_iload o 5 dL_law_425 rfl ?_
  refine v_iconst o (v := 1) dL_law_427 (by decide) ?_
  refine v_iadd o dL_law_428 ?_
  refine v_sld o hX hbl hbA h.1 dL_law_429 ?_
  replace h := h.2
  refine v_aload_n o 1 dL_law_430 rfl ?_
  refine v_iload o 5 dL_law_431 rfl ?_
  refine v_iconst o (v := 2) dL_law_433 (by decide) ?_
  refine v_iadd o dL_law_434 ?_
  refine v_sld o hX hbl hbA h.1 dL_law_435 ?_
  replace h := h.2
  refine v_cVi o [.int (xs (x4 + 1).toNatClampNeg), .int (xs (x4 + 2).toNatClampNeg)] [] (fun z => metX8_change l G (setJO P (sz + 1449) j418) g418 z (sz + 1438) hm418 (xs (x4 + 1).toNatClampNeg) (xs (x4 + 2).toNatClampNeg) _ h) (cwL_107 o.1.2.2.2.2 (by decide)) ⟨_, _, rfl⟩ (by decide) (wfModel_o hm418) rfl (Nat.le_of_ble_eq_true rfl) ⟨by show _ ≤ 616677; omega, by show _ ≤ 7246074; omega⟩ dL_law_436 rfl (fun r436 g436 h => ?_)
  refine v_istore o (lv' := [(6, .int r436), (5, .int r418), (0, .ref b), (1, .ref (sz + 0)), (2, .ref (sz + 1438)), (3, .ref (sz + 1449)), (4, .int x4)]) dL_law_439 (by decide) rfl ?_
  refine v_aload_n o 4 dL_law_441 rfl ?_
  refine v_cVi o [] [] (fun z => metX8_thrown l G (setJO P (sz + 1449) j418) g436 z (sz + 1438) hm418 _ h) (cwL_90 o.1.2.2.2.2 (by decide)) ⟨_, _, rfl⟩ (by decide) (wfModel_o hm418) rfl (Nat.le_of_ble_eq_true rfl) ⟨by show _ ≤ 616677; omega, by show _ ≤ 7246074; omega⟩ dL_law_442 rfl (fun r442 g442 h => ?_)
  refine v_iload o 1 dL_law_445 rfl ?_
  refine v_icmp_eq o (tgt := 452) dL_law_447 (by decide) (fun c447 => ?_) (fun c447 => ?_)
  · replace h := h.1 c447
    refine v_iload o 1 dL_law_452 rfl ?_
    refine v_if_ne o (tgt := 469) dL_law_454 (by decide) (fun c454 => ?_) (fun c454 => ?_)
    · replace h := h.1 c454
      refine v_goto o (tgt := 1546) dL_law_469 (by decide) ?_
      obtain ⟨x4_1546, ex4_1546⟩ : ∃ y : Int32, y = x4 + 4 := ⟨_, rfl⟩
      replace h := h x4_1546 ex4_1546
      refine v_iinc o (v := x4_1546) (lv' := [(4, .int x4_1546), (6, .int r436), (5, .int r418), (0, .ref b), (1, .ref (sz + 0)), (2, .ref (sz + 1438)), (3, .ref (sz + 1449))]) 6 dL_law_1546 rfl (by rw [ex4_1546]; rfl) (by decide) rfl ?_
      refine v_goto o (tgt := 23) dL_law_1549 (by decide) ?_
      refine v_sub [3, 4, 5, 6, 0] (lv2 := [(0, .ref b), (1, .ref (sz + 0)), (2, .ref (sz + 1438)), (3, .ref (sz + 1449)), (4, .int x4_1546)]) rfl ?_
      refine v_widen (k := 1450 + 4 * x4_1546.toNatClampNeg) (n := 13000 + 24 * x4_1546.toNatClampNeg) (by have := h.2.1; omega) (by have := h.2.1; omega) ?_
      exact ih (setJO P (sz + 1449) j418) g442 x4_1546 h.1 (by have := h.2.2; omega)
    · replace h := h.2 c454
      refine v_aload_n o 5 dL_law_457 rfl ?_
      refine v_iconst o (v := 0) dL_law_458 (by decide) ?_
      refine v_lald o ho418.1 ho418.2 (by unfold vp_in; decide) dL_law_459 ?_
      refine v_iload o 0 dL_law_460 rfl ?_
      refine v_i2l o dL_law_462 ?_
      refine v_lcmp o dL_law_463 ?_
      refine v_if_eq o (tgt := 469) dL_law_464 (by decide) (fun c464 => ?_) (fun c464 => ?_)
      · replace h := h.1 c464
        refine v_goto o (tgt := 1546) dL_law_469 (by decide) ?_
        obtain ⟨x4_1546, ex4_1546⟩ : ∃ y : Int32, y = x4 + 4 := ⟨_, rfl⟩
        replace h := h x4_1546 ex4_1546
        refine v_iinc o (v := x4_1546) (lv' := [(4, .int x4_1546), (6, .int r436), (5, .int r418), (0, .ref b), (1, .ref (sz + 0)), (2, .ref (sz + 1438)), (3, .ref (sz + 1449))]) 6 dL_law_1546 rfl (by rw [ex4_1546]; rfl) (by decide) rfl ?_
        refine v_goto o (tgt := 23) dL_law_1549 (by decide) ?_
        refine v_sub [3, 4, 5, 6, 0] (lv2 := [(0, .ref b), (1, .ref (sz + 0)), (2, .ref (sz + 1438)), (3, .ref (sz + 1449)), (4, .int x4_1546)]) rfl ?_
        refine v_widen (k := 1450 + 4 * x4_1546.toNatClampNeg) (n := 13000 + 24 * x4_1546.toNatClampNeg) (by have := h.2.1; omega) (by have := h.2.1; omega) ?_
        exact ih (setJO P (sz + 1449) j418) g442 x4_1546 h.1 (by have := h.2.2; omega)
      · replace h := h.2 c464
        refine v_iconst o (v := 0) dL_law_467 (by decide) ?_
        exact h.elim
  · replace h := h.2 c447
    refine v_iconst o (v := 0) dL_law_450 (by decide) ?_
    exact h.elim
set_option maxRecDepth 20000 in
set_option maxHeartbeats 4000000 in
theorem lawc_5 {p : Program} {e : Env} {s : State} {m : MethodId} {args : Array Value} {below : List Frame} {meth : Method} {c : Code} {b : Nat} {Q : State → Prop} {Pz : Sk} (l : Launch) (hl : l.stackTraces = false) (G : Gl) (sz Ln : Nat) (xs : Nat → Int32) (o : Okk p s m args meth c cL_law RL 9 G (frA Pz sz)) (hT : TH (frA Pz sz) s s.heap) (hX : va_X b Ln xs s s.heap) (hbl : b < s.heap.size) (hbA : ¬ frA Pz sz b) (hLn : Ln ≤ 2048) (hsz : s.heap.size = sz) (L : Sk → St → Int32 → Prop) (μ : Int32 → Nat) (P : Sk) (f : St) (x4 : Int32) (hx : IsComp P (sz + 0)) (hm : IsModel P (sz + 1438)) (ho : Ob P (sz + 1449) 10 ∧ sN P (sz + 1449) = 1) (hx4 : x4.toNatClampNeg ≤ 2048) (h : fL_5 sz Ln xs L μ P f x4) {n : Nat} (ih : ∀ (P : Sk) (f : St) (x4 : Int32), L P f x4 → μ x4 < n → V p l e room_1 s m args below meth c 9 G (frA Pz sz) Q (1450 + 4 * x4.toNatClampNeg) (13000 + 24 * x4.toNatClampNeg) P [(0, .ref b), (1, .ref (sz + 0)), (2, .ref (sz + 1438)), (3, .ref (sz + 1449)), (4, .int x4)] [] 23 f) (hn : μ x4 ≤ n) : V p l e room_1 s m args below meth c 9 G (frA Pz sz) Q (1450 + 4 * x4.toNatClampNeg) (13000 + 24 * x4.toNatClampNeg) P [(0, .ref b), (1, .ref (sz + 0)), (2, .ref (sz + 1438)), (3, .ref (sz + 1449)), (4, .int x4)] [] 472 f := by
  unfold fL_5 at h
  refine v_aload_n o 1 dL_law_472 rfl ?_
  refine v_aload_n o 0 dL_law_473 rfl ?_
  refine v_iload o 4 dL_law_474 rfl ?_
  refine v_iconst o (v := 1) dL_law_476 (by decide) ?_
  refine v_iadd o dL_law_477 ?_
  refine v_sld o hX hbl hbA h.1 dL_law_478 ?_
  replace h := h.2
  refine v_aload_n o 0 dL_law_479 rfl ?_
  refine v_iload o 4 dL_law_480 rfl ?_
  refine v_iconst o (v := 2) dL_law_482 (by decide) ?_
  refine v_iadd o dL_law_483 ?_
  refine v_sld o hX hbl hbA h.1 dL_law_484 ?_
  replace h := h.2
  refine v_aload_n o 3 dL_law_485 rfl ?_
  refine v_cSw o hT [.ref (sz + 0), .int (xs (x4 + 1).toNatClampNeg), .int (xs (x4 + 2).toNatClampNeg), .ref (sz + 1449)] [] (fun z => metL_join l hl G P f z (sz + 0) (xs (x4 + 1).toNatClampNeg) (xs (x4 + 2).toNatClampNeg) (sz + 1449) hx ho _ h) (cq108 o.1.2.2.2.2 (by decide)) rfl (Nat.le_of_ble_eq_true rfl) ⟨by show _ ≤ 616677; omega, by show _ ≤ 7246074; omega⟩ dL_law_486 rfl (fun r486 j486 g486 h => ?_)
  have hx486 := isComp_J (b := (sz + 1449)) (v := j486) hx
  have hm486 := isModel_J (b := (sz + 1449)) (v := j486) hm
  have ho486 : Ob (setJO P (sz + 1449) j486) (sz + 1449) 10 ∧ sN (setJO P (sz + 1449) j486) (sz + 1449) = 1 := ho
  refine v_istore o (lv' := [(5, .int r486), (0, .ref b), (1, .ref (sz + 0)), (2, .ref (sz + 1438)), (3, .ref (sz + 1449)), (4, .int x4)]) dL_law_489 (by decide) rfl ?_
  refine v_aload_n o 3 dL_law_491 rfl ?_
  refine v_aload_n o 1 dL_law_492 rfl ?_
  refine v_iload o 5 dL_law_493 rfl ?_
  refine v_iconst o (v := 1) dL_law_495 (by decide) ?_
  refine v_iadd o dL_law_496 ?_
  refine v_sld o hX hbl hbA h.1 dL_law_497 ?_
  replace h := h.2
  refine v_aload_n o 1 dL_law_498 rfl ?_
  refine v_iload o 5 dL_law_499 rfl ?_
  refine v_iconst o (v := 2) dL_law_501 (by decide) ?_
  refine v_iadd o dL_law_502 ?_
  refine v_sld o hX hbl hbA h.1 dL_law_503 ?_
  replace h := h.2
  refine v_cVi o [.int (xs (x4 + 1).toNatClampNeg), .int (xs (x4 + 2).toNatClampNeg)] [] (fun z => metX8_join l G (setJO P (sz + 1449) j486) g486 z (sz + 1438) hm486 (xs (x4 + 1).toNatClampNeg) (xs (x4 + 2).toNatClampNeg) _ h) (cwL_110 o.1.2.2.2.2 (by decide)) ⟨_, _, rfl⟩ (by decide) (wfModel_o hm486) rfl (Nat.le_of_ble_eq_true rfl) ⟨by show _ ≤ 616677; omega, by show _ ≤ 7246074; omega⟩ dL_law_504 rfl (fun r504 g504 h => ?_)
  refine v_istore o (lv' := [(6, .int r504), (5, .int r486), (0, .ref b), (1, .ref (sz + 0)), (2, .ref (sz + 1438)), (3, .ref (sz + 1449)), (4, .int x4)]) dL_law_507 (by decide) rfl ?_
  refine v_aload_n o 4 dL_law_509 rfl ?_
  refine v_cVi o [] [] (fun z => metX8_thrown l G (setJO P (sz + 1449) j486) g504 z (sz + 1438) hm486 _ h) (cwL_90 o.1.2.2.2.2 (by decide)) ⟨_, _, rfl⟩ (by decide) (wfModel_o hm486) rfl (Nat.le_of_ble_eq_true rfl) ⟨by show _ ≤ 616677; omega, by show _ ≤ 7246074; omega⟩ dL_law_510 rfl (fun r510 g510 h => ?_)
  refine v_iload o 1 dL_law_513 rfl ?_
  refine v_icmp_eq o (tgt := 520) dL_law_515 (by decide) (fun c515 => ?_) (fun c515 => ?_)
  · replace h := h.1 c515
    refine v_iload o 1 dL_law_520 rfl ?_
    refine v_if_ne o (tgt := 537) dL_law_522 (by decide) (fun c522 => ?_) (fun c522 => ?_)
    · replace h := h.1 c522
      refine v_goto o (tgt := 1546) dL_law_537 (by decide) ?_
      obtain ⟨x4_1546, ex4_1546⟩ : ∃ y : Int32, y = x4 + 4 := ⟨_, rfl⟩
      replace h := h x4_1546 ex4_1546
      refine v_iinc o (v := x4_1546) (lv' := [(4, .int x4_1546), (6, .int r504), (5, .int r486), (0, .ref b), (1, .ref (sz + 0)), (2, .ref (sz + 1438)), (3, .ref (sz + 1449))]) 6 dL_law_1546 rfl (by rw [ex4_1546]; rfl) (by decide) rfl ?_
      refine v_goto o (tgt := 23) dL_law_1549 (by decide) ?_
      refine v_sub [3, 4, 5, 6, 0] (lv2 := [(0, .ref b), (1, .ref (sz + 0)), (2, .ref (sz + 1438)), (3, .ref (sz + 1449)), (4, .int x4_1546)]) rfl ?_
      refine v_widen (k := 1450 + 4 * x4_1546.toNatClampNeg) (n := 13000 + 24 * x4_1546.toNatClampNeg) (by have := h.2.1; omega) (by have := h.2.1; omega) ?_
      exact ih (setJO P (sz + 1449) j486) g510 x4_1546 h.1 (by have := h.2.2; omega)
    · replace h := h.2 c522
      refine v_aload_n o 5 dL_law_525 rfl ?_
      refine v_iconst o (v := 0) dL_law_526 (by decide) ?_
      refine v_lald o ho486.1 ho486.2 (by unfold vp_in; decide) dL_law_527 ?_
      refine v_iload o 0 dL_law_528 rfl ?_
      refine v_i2l o dL_law_530 ?_
      refine v_lcmp o dL_law_531 ?_
      refine v_if_eq o (tgt := 537) dL_law_532 (by decide) (fun c532 => ?_) (fun c532 => ?_)
      · replace h := h.1 c532
        refine v_goto o (tgt := 1546) dL_law_537 (by decide) ?_
        obtain ⟨x4_1546, ex4_1546⟩ : ∃ y : Int32, y = x4 + 4 := ⟨_, rfl⟩
        replace h := h x4_1546 ex4_1546
        refine v_iinc o (v := x4_1546) (lv' := [(4, .int x4_1546), (6, .int r504), (5, .int r486), (0, .ref b), (1, .ref (sz + 0)), (2, .ref (sz + 1438)), (3, .ref (sz + 1449))]) 6 dL_law_1546 rfl (by rw [ex4_1546]; rfl) (by decide) rfl ?_
        refine v_goto o (tgt := 23) dL_law_1549 (by decide) ?_
        refine v_sub [3, 4, 5, 6, 0] (lv2 := [(0, .ref b), (1, .ref (sz + 0)), (2, .ref (sz + 1438)), (3, .ref (sz + 1449)), (4, .int x4_1546)]) rfl ?_
        refine v_widen (k := 1450 + 4 * x4_1546.toNatClampNeg) (n := 13000 + 24 * x4_1546.toNatClampNeg) (by have := h.2.1; omega) (by have := h.2.1; omega) ?_
        exact ih (setJO P (sz + 1449) j486) g510 x4_1546 h.1 (by have := h.2.2; omega)
      · replace h := h.2 c532
        refine v_iconst o (v := 0) dL_law_535 (by decide) ?_
        exact h.elim
  · replace h := h.2 c515
    refine v_iconst o (v := 0) dL_law_518 (by decide) ?_
    exact h.elim
set_option maxRecDepth 20000 in
set_option maxHeartbeats 4000000 in
theorem lawc_6 {p : Program} {e : Env} {s : State} {m : MethodId} {args : Array Value} {below : List Frame} {meth : Method} {c : Code} {b : Nat} {Q : State → Prop} {Pz : Sk} (l : Launch) (hl : l.stackTraces = false) (G : Gl) (sz Ln : Nat) (xs : Nat → Int32) (o : Okk p s m args meth c cL_law RL 9 G (frA Pz sz)) (hT : TH (frA Pz sz) s s.heap) (hX : va_X b Ln xs s s.heap) (hbl : b < s.heap.size) (hbA : ¬ frA Pz sz b) (hLn : Ln ≤ 2048) (hsz : s.heap.size = sz) (L : Sk → St → Int32 → Prop) (μ : Int32 → Nat) (P : Sk) (f : St) (x4 : Int32) (hx : IsComp P (sz + 0)) (hm : IsModel P (sz + 1438)) (ho : Ob P (sz + 1449) 10 ∧ sN P (sz + 1449) = 1) (hx4 : x4.toNatClampNeg ≤ 2048) (h : fL_6 sz Ln xs L μ P f x4) {n : Nat} (ih : ∀ (P : Sk) (f : St) (x4 : Int32), L P f x4 → μ x4 < n → V p l e room_1 s m args below meth c 9 G (frA Pz sz) Q (1450 + 4 * x4.toNatClampNeg) (13000 + 24 * x4.toNatClampNeg) P [(0, .ref b), (1, .ref (sz + 0)), (2, .ref (sz + 1438)), (3, .ref (sz + 1449)), (4, .int x4)] [] 23 f) (hn : μ x4 ≤ n) : V p l e room_1 s m args below meth c 9 G (frA Pz sz) Q (1450 + 4 * x4.toNatClampNeg) (13000 + 24 * x4.toNatClampNeg) P [(0, .ref b), (1, .ref (sz + 0)), (2, .ref (sz + 1438)), (3, .ref (sz + 1449)), (4, .int x4)] [] 540 f := by
  unfold fL_6 at h
  refine v_aload_n o 1 dL_law_540 rfl ?_
  refine v_aload_n o 0 dL_law_541 rfl ?_
  refine v_iload o 4 dL_law_542 rfl ?_
  refine v_iconst o (v := 1) dL_law_544 (by decide) ?_
  refine v_iadd o dL_law_545 ?_
  refine v_sld o hX hbl hbA h.1 dL_law_546 ?_
  replace h := h.2
  refine v_aload_n o 3 dL_law_547 rfl ?_
  refine v_cSw o hT [.ref (sz + 0), .int (xs (x4 + 1).toNatClampNeg), .ref (sz + 1449)] [] (fun z => metL_append l hl G P f z (sz + 0) (xs (x4 + 1).toNatClampNeg) (sz + 1449) hx ho _ h) (cq111 o.1.2.2.2.2 (by decide)) rfl (Nat.le_of_ble_eq_true rfl) ⟨by show _ ≤ 616677; omega, by show _ ≤ 7246074; omega⟩ dL_law_548 rfl (fun r548 j548 g548 h => ?_)
  have hx548 := isComp_J (b := (sz + 1449)) (v := j548) hx
  have hm548 := isModel_J (b := (sz + 1449)) (v := j548) hm
  have ho548 : Ob (setJO P (sz + 1449) j548) (sz + 1449) 10 ∧ sN (setJO P (sz + 1449) j548) (sz + 1449) = 1 := ho
  refine v_istore o (lv' := [(5, .int r548), (0, .ref b), (1, .ref (sz + 0)), (2, .ref (sz + 1438)), (3, .ref (sz + 1449)), (4, .int x4)]) dL_law_551 (by decide) rfl ?_
  refine v_aload_n o 3 dL_law_553 rfl ?_
  refine v_aload_n o 1 dL_law_554 rfl ?_
  refine v_iload o 5 dL_law_555 rfl ?_
  refine v_iconst o (v := 1) dL_law_557 (by decide) ?_
  refine v_iadd o dL_law_558 ?_
  refine v_sld o hX hbl hbA h.1 dL_law_559 ?_
  replace h := h.2
  refine v_cVi o [.int (xs (x4 + 1).toNatClampNeg)] [] (fun z => metX8_append l G (setJO P (sz + 1449) j548) g548 z (sz + 1438) hm548 (xs (x4 + 1).toNatClampNeg) _ h) (cwL_113 o.1.2.2.2.2 (by decide)) ⟨_, _, rfl⟩ (by decide) (wfModel_o hm548) rfl (Nat.le_of_ble_eq_true rfl) ⟨by show _ ≤ 616677; omega, by show _ ≤ 7246074; omega⟩ dL_law_560 rfl (fun r560 g560 h => ?_)
  refine v_istore o (lv' := [(6, .int r560), (5, .int r548), (0, .ref b), (1, .ref (sz + 0)), (2, .ref (sz + 1438)), (3, .ref (sz + 1449)), (4, .int x4)]) dL_law_563 (by decide) rfl ?_
  refine v_aload_n o 4 dL_law_565 rfl ?_
  refine v_cVi o [] [] (fun z => metX8_thrown l G (setJO P (sz + 1449) j548) g560 z (sz + 1438) hm548 _ h) (cwL_90 o.1.2.2.2.2 (by decide)) ⟨_, _, rfl⟩ (by decide) (wfModel_o hm548) rfl (Nat.le_of_ble_eq_true rfl) ⟨by show _ ≤ 616677; omega, by show _ ≤ 7246074; omega⟩ dL_law_566 rfl (fun r566 g566 h => ?_)
  refine v_iload o 1 dL_law_569 rfl ?_
  refine v_icmp_eq o (tgt := 576) dL_law_571 (by decide) (fun c571 => ?_) (fun c571 => ?_)
  · replace h := h.1 c571
    refine v_iload o 1 dL_law_576 rfl ?_
    refine v_if_ne o (tgt := 593) dL_law_578 (by decide) (fun c578 => ?_) (fun c578 => ?_)
    · replace h := h.1 c578
      refine v_goto o (tgt := 1546) dL_law_593 (by decide) ?_
      obtain ⟨x4_1546, ex4_1546⟩ : ∃ y : Int32, y = x4 + 4 := ⟨_, rfl⟩
      replace h := h x4_1546 ex4_1546
      refine v_iinc o (v := x4_1546) (lv' := [(4, .int x4_1546), (6, .int r560), (5, .int r548), (0, .ref b), (1, .ref (sz + 0)), (2, .ref (sz + 1438)), (3, .ref (sz + 1449))]) 6 dL_law_1546 rfl (by rw [ex4_1546]; rfl) (by decide) rfl ?_
      refine v_goto o (tgt := 23) dL_law_1549 (by decide) ?_
      refine v_sub [3, 4, 5, 6, 0] (lv2 := [(0, .ref b), (1, .ref (sz + 0)), (2, .ref (sz + 1438)), (3, .ref (sz + 1449)), (4, .int x4_1546)]) rfl ?_
      refine v_widen (k := 1450 + 4 * x4_1546.toNatClampNeg) (n := 13000 + 24 * x4_1546.toNatClampNeg) (by have := h.2.1; omega) (by have := h.2.1; omega) ?_
      exact ih (setJO P (sz + 1449) j548) g566 x4_1546 h.1 (by have := h.2.2; omega)
    · replace h := h.2 c578
      refine v_aload_n o 5 dL_law_581 rfl ?_
      refine v_iconst o (v := 0) dL_law_582 (by decide) ?_
      refine v_lald o ho548.1 ho548.2 (by unfold vp_in; decide) dL_law_583 ?_
      refine v_iload o 0 dL_law_584 rfl ?_
      refine v_i2l o dL_law_586 ?_
      refine v_lcmp o dL_law_587 ?_
      refine v_if_eq o (tgt := 593) dL_law_588 (by decide) (fun c588 => ?_) (fun c588 => ?_)
      · replace h := h.1 c588
        refine v_goto o (tgt := 1546) dL_law_593 (by decide) ?_
        obtain ⟨x4_1546, ex4_1546⟩ : ∃ y : Int32, y = x4 + 4 := ⟨_, rfl⟩
        replace h := h x4_1546 ex4_1546
        refine v_iinc o (v := x4_1546) (lv' := [(4, .int x4_1546), (6, .int r560), (5, .int r548), (0, .ref b), (1, .ref (sz + 0)), (2, .ref (sz + 1438)), (3, .ref (sz + 1449))]) 6 dL_law_1546 rfl (by rw [ex4_1546]; rfl) (by decide) rfl ?_
        refine v_goto o (tgt := 23) dL_law_1549 (by decide) ?_
        refine v_sub [3, 4, 5, 6, 0] (lv2 := [(0, .ref b), (1, .ref (sz + 0)), (2, .ref (sz + 1438)), (3, .ref (sz + 1449)), (4, .int x4_1546)]) rfl ?_
        refine v_widen (k := 1450 + 4 * x4_1546.toNatClampNeg) (n := 13000 + 24 * x4_1546.toNatClampNeg) (by have := h.2.1; omega) (by have := h.2.1; omega) ?_
        exact ih (setJO P (sz + 1449) j548) g566 x4_1546 h.1 (by have := h.2.2; omega)
      · replace h := h.2 c588
        refine v_iconst o (v := 0) dL_law_591 (by decide) ?_
        exact h.elim
  · replace h := h.2 c571
    refine v_iconst o (v := 0) dL_law_574 (by decide) ?_
    exact h.elim
set_option maxRecDepth 20000 in
set_option maxHeartbeats 4000000 in
theorem lawc_7 {p : Program} {e : Env} {s : State} {m : MethodId} {args : Array Value} {below : List Frame} {meth : Method} {c : Code} {b : Nat} {Q : State → Prop} {Pz : Sk} (l : Launch) (hl : l.stackTraces = false) (G : Gl) (sz Ln : Nat) (xs : Nat → Int32) (o : Okk p s m args meth c cL_law RL 9 G (frA Pz sz)) (hT : TH (frA Pz sz) s s.heap) (hX : va_X b Ln xs s s.heap) (hbl : b < s.heap.size) (hbA : ¬ frA Pz sz b) (hLn : Ln ≤ 2048) (hsz : s.heap.size = sz) (L : Sk → St → Int32 → Prop) (μ : Int32 → Nat) (P : Sk) (f : St) (x4 : Int32) (hx : IsComp P (sz + 0)) (hm : IsModel P (sz + 1438)) (ho : Ob P (sz + 1449) 10 ∧ sN P (sz + 1449) = 1) (hx4 : x4.toNatClampNeg ≤ 2048) (h : fL_7 sz Ln xs L μ P f x4) {n : Nat} (ih : ∀ (P : Sk) (f : St) (x4 : Int32), L P f x4 → μ x4 < n → V p l e room_1 s m args below meth c 9 G (frA Pz sz) Q (1450 + 4 * x4.toNatClampNeg) (13000 + 24 * x4.toNatClampNeg) P [(0, .ref b), (1, .ref (sz + 0)), (2, .ref (sz + 1438)), (3, .ref (sz + 1449)), (4, .int x4)] [] 23 f) (hn : μ x4 ≤ n) : V p l e room_1 s m args below meth c 9 G (frA Pz sz) Q (1450 + 4 * x4.toNatClampNeg) (13000 + 24 * x4.toNatClampNeg) P [(0, .ref b), (1, .ref (sz + 0)), (2, .ref (sz + 1438)), (3, .ref (sz + 1449)), (4, .int x4)] [] 596 f := by
  unfold fL_7 at h
  refine v_aload_n o 1 dL_law_596 rfl ?_
  refine v_cVi o [] [] (fun z => metX7_clearBuffer l G P f z (sz + 0) hx _ h) (cwL_114 o.1.2.2.2.2 (by decide)) ⟨_, _, rfl⟩ (by decide) (wfComp_o hx) rfl (Nat.le_of_ble_eq_true rfl) ⟨by show _ ≤ 616677; omega, by show _ ≤ 7246074; omega⟩ dL_law_597 rfl (fun r597 g597 h => ?_)
  refine v_aload_n o 2 dL_law_600 rfl ?_
  refine v_cVi o [] [.int r597] (fun z => metX8_clearBuffer l G P g597 z (sz + 1438) hm _ h) (cwL_117 o.1.2.2.2.2 (by decide)) ⟨_, _, rfl⟩ (by decide) (wfModel_o hm) rfl (Nat.le_of_ble_eq_true rfl) ⟨by show _ ≤ 616677; omega, by show _ ≤ 7246074; omega⟩ dL_law_601 rfl (fun r601 g601 h => ?_)
  refine v_icmp_eq o (tgt := 1546) dL_law_604 (by decide) (fun c604 => ?_) (fun c604 => ?_)
  · replace h := h.1 c604
    obtain ⟨x4_1546, ex4_1546⟩ : ∃ y : Int32, y = x4 + 4 := ⟨_, rfl⟩
    replace h := h x4_1546 ex4_1546
    refine v_iinc o (v := x4_1546) (lv' := [(4, .int x4_1546), (0, .ref b), (1, .ref (sz + 0)), (2, .ref (sz + 1438)), (3, .ref (sz + 1449))]) 4 dL_law_1546 rfl (by rw [ex4_1546]; rfl) (by decide) rfl ?_
    refine v_goto o (tgt := 23) dL_law_1549 (by decide) ?_
    refine v_sub [1, 2, 3, 4, 0] (lv2 := [(0, .ref b), (1, .ref (sz + 0)), (2, .ref (sz + 1438)), (3, .ref (sz + 1449)), (4, .int x4_1546)]) rfl ?_
    refine v_widen (k := 1450 + 4 * x4_1546.toNatClampNeg) (n := 13000 + 24 * x4_1546.toNatClampNeg) (by have := h.2.1; omega) (by have := h.2.1; omega) ?_
    exact ih P g601 x4_1546 h.1 (by have := h.2.2; omega)
  · replace h := h.2 c604
    refine v_iconst o (v := 0) dL_law_607 (by decide) ?_
    exact h.elim
set_option maxRecDepth 20000 in
set_option maxHeartbeats 4000000 in
theorem lawc_8 {p : Program} {e : Env} {s : State} {m : MethodId} {args : Array Value} {below : List Frame} {meth : Method} {c : Code} {b : Nat} {Q : State → Prop} {Pz : Sk} (l : Launch) (hl : l.stackTraces = false) (G : Gl) (sz Ln : Nat) (xs : Nat → Int32) (o : Okk p s m args meth c cL_law RL 9 G (frA Pz sz)) (hT : TH (frA Pz sz) s s.heap) (hX : va_X b Ln xs s s.heap) (hbl : b < s.heap.size) (hbA : ¬ frA Pz sz b) (hLn : Ln ≤ 2048) (hsz : s.heap.size = sz) (L : Sk → St → Int32 → Prop) (μ : Int32 → Nat) (P : Sk) (f : St) (x4 : Int32) (hx : IsComp P (sz + 0)) (hm : IsModel P (sz + 1438)) (ho : Ob P (sz + 1449) 10 ∧ sN P (sz + 1449) = 1) (hx4 : x4.toNatClampNeg ≤ 2048) (h : fL_8 sz Ln xs L μ P f x4) {n : Nat} (ih : ∀ (P : Sk) (f : St) (x4 : Int32), L P f x4 → μ x4 < n → V p l e room_1 s m args below meth c 9 G (frA Pz sz) Q (1450 + 4 * x4.toNatClampNeg) (13000 + 24 * x4.toNatClampNeg) P [(0, .ref b), (1, .ref (sz + 0)), (2, .ref (sz + 1438)), (3, .ref (sz + 1449)), (4, .int x4)] [] 23 f) (hn : μ x4 ≤ n) : V p l e room_1 s m args below meth c 9 G (frA Pz sz) Q (1450 + 4 * x4.toNatClampNeg) (13000 + 24 * x4.toNatClampNeg) P [(0, .ref b), (1, .ref (sz + 0)), (2, .ref (sz + 1438)), (3, .ref (sz + 1449)), (4, .int x4)] [] 609 f := by
  unfold fL_8 at h
  refine v_aload_n o 1 dL_law_609 rfl ?_
  refine v_aload_n o 0 dL_law_610 rfl ?_
  refine v_iload o 4 dL_law_611 rfl ?_
  refine v_iconst o (v := 1) dL_law_613 (by decide) ?_
  refine v_iadd o dL_law_614 ?_
  refine v_sld o hX hbl hbA h.1 dL_law_615 ?_
  replace h := h.2
  refine v_if_eq o (tgt := 623) dL_law_616 (by decide) (fun c616 => ?_) (fun c616 => ?_)
  · replace h := h.1 c616
    refine v_iconst o (v := 0) dL_law_623 (by decide) ?_
    refine v_cVi o [.int 0] [] (fun z => metX7_firstError l G P f z (sz + 0) hx 0 _ h) (cwL_118 o.1.2.2.2.2 (by decide)) ⟨_, _, rfl⟩ (by decide) (wfComp_o hx) rfl (Nat.le_of_ble_eq_true rfl) ⟨by show _ ≤ 616677; omega, by show _ ≤ 7246074; omega⟩ dL_law_624 rfl (fun r624 g624 h => ?_)
    refine v_aload_n o 2 dL_law_627 rfl ?_
    refine v_aload_n o 0 dL_law_628 rfl ?_
    refine v_iload o 4 dL_law_629 rfl ?_
    refine v_iconst o (v := 1) dL_law_631 (by decide) ?_
    refine v_iadd o dL_law_632 ?_
    refine v_sld o hX hbl hbA h.1 dL_law_633 ?_
    replace h := h.2
    refine v_if_eq o (tgt := 641) dL_law_634 (by decide) (fun c634 => ?_) (fun c634 => ?_)
    · replace h := h.1 c634
      refine v_iconst o (v := 0) dL_law_641 (by decide) ?_
      refine v_cVi o [.int 0] [.int r624] (fun z => metX8_firstError l G P g624 z (sz + 1438) hm 0 _ h) (cwL_122 o.1.2.2.2.2 (by decide)) ⟨_, _, rfl⟩ (by decide) (wfModel_o hm) rfl (Nat.le_of_ble_eq_true rfl) ⟨by show _ ≤ 616677; omega, by show _ ≤ 7246074; omega⟩ dL_law_642 rfl (fun r642 g642 h => ?_)
      refine v_icmp_eq o (tgt := 1546) dL_law_645 (by decide) (fun c645 => ?_) (fun c645 => ?_)
      · replace h := h.1 c645
        obtain ⟨x4_1546, ex4_1546⟩ : ∃ y : Int32, y = x4 + 4 := ⟨_, rfl⟩
        replace h := h x4_1546 ex4_1546
        refine v_iinc o (v := x4_1546) (lv' := [(4, .int x4_1546), (0, .ref b), (1, .ref (sz + 0)), (2, .ref (sz + 1438)), (3, .ref (sz + 1449))]) 4 dL_law_1546 rfl (by rw [ex4_1546]; rfl) (by decide) rfl ?_
        refine v_goto o (tgt := 23) dL_law_1549 (by decide) ?_
        refine v_sub [1, 2, 3, 4, 0] (lv2 := [(0, .ref b), (1, .ref (sz + 0)), (2, .ref (sz + 1438)), (3, .ref (sz + 1449)), (4, .int x4_1546)]) rfl ?_
        refine v_widen (k := 1450 + 4 * x4_1546.toNatClampNeg) (n := 13000 + 24 * x4_1546.toNatClampNeg) (by have := h.2.1; omega) (by have := h.2.1; omega) ?_
        exact ih P g642 x4_1546 h.1 (by have := h.2.2; omega)
      · replace h := h.2 c645
        refine v_iconst o (v := 0) dL_law_648 (by decide) ?_
        exact h.elim
    · replace h := h.2 c634
      refine v_iconst o (v := 1) dL_law_637 (by decide) ?_
      refine v_goto o (tgt := 642) dL_law_638 (by decide) ?_
      refine v_cVi o [.int 1] [.int r624] (fun z => metX8_firstError l G P g624 z (sz + 1438) hm 1 _ h) (cwL_122 o.1.2.2.2.2 (by decide)) ⟨_, _, rfl⟩ (by decide) (wfModel_o hm) rfl (Nat.le_of_ble_eq_true rfl) ⟨by show _ ≤ 616677; omega, by show _ ≤ 7246074; omega⟩ dL_law_642 rfl (fun r642 g642 h => ?_)
      refine v_icmp_eq o (tgt := 1546) dL_law_645 (by decide) (fun c645 => ?_) (fun c645 => ?_)
      · replace h := h.1 c645
        obtain ⟨x4_1546, ex4_1546⟩ : ∃ y : Int32, y = x4 + 4 := ⟨_, rfl⟩
        replace h := h x4_1546 ex4_1546
        refine v_iinc o (v := x4_1546) (lv' := [(4, .int x4_1546), (0, .ref b), (1, .ref (sz + 0)), (2, .ref (sz + 1438)), (3, .ref (sz + 1449))]) 4 dL_law_1546 rfl (by rw [ex4_1546]; rfl) (by decide) rfl ?_
        refine v_goto o (tgt := 23) dL_law_1549 (by decide) ?_
        refine v_sub [1, 2, 3, 4, 0] (lv2 := [(0, .ref b), (1, .ref (sz + 0)), (2, .ref (sz + 1438)), (3, .ref (sz + 1449)), (4, .int x4_1546)]) rfl ?_
        refine v_widen (k := 1450 + 4 * x4_1546.toNatClampNeg) (n := 13000 + 24 * x4_1546.toNatClampNeg) (by have := h.2.1; omega) (by have := h.2.1; omega) ?_
        exact ih P g642 x4_1546 h.1 (by have := h.2.2; omega)
      · replace h := h.2 c645
        refine v_iconst o (v := 0) dL_law_648 (by decide) ?_
        exact h.elim
  · replace h := h.2 c616
    refine v_iconst o (v := 1) dL_law_619 (by decide) ?_
    refine v_goto o (tgt := 624) dL_law_620 (by decide) ?_
    refine v_cVi o [.int 1] [] (fun z => metX7_firstError l G P f z (sz + 0) hx 1 _ h) (cwL_118 o.1.2.2.2.2 (by decide)) ⟨_, _, rfl⟩ (by decide) (wfComp_o hx) rfl (Nat.le_of_ble_eq_true rfl) ⟨by show _ ≤ 616677; omega, by show _ ≤ 7246074; omega⟩ dL_law_624 rfl (fun r624 g624 h => ?_)
    refine v_aload_n o 2 dL_law_627 rfl ?_
    refine v_aload_n o 0 dL_law_628 rfl ?_
    refine v_iload o 4 dL_law_629 rfl ?_
    refine v_iconst o (v := 1) dL_law_631 (by decide) ?_
    refine v_iadd o dL_law_632 ?_
    refine v_sld o hX hbl hbA h.1 dL_law_633 ?_
    replace h := h.2
    refine v_if_eq o (tgt := 641) dL_law_634 (by decide) (fun c634 => ?_) (fun c634 => ?_)
    · replace h := h.1 c634
      refine v_iconst o (v := 0) dL_law_641 (by decide) ?_
      refine v_cVi o [.int 0] [.int r624] (fun z => metX8_firstError l G P g624 z (sz + 1438) hm 0 _ h) (cwL_122 o.1.2.2.2.2 (by decide)) ⟨_, _, rfl⟩ (by decide) (wfModel_o hm) rfl (Nat.le_of_ble_eq_true rfl) ⟨by show _ ≤ 616677; omega, by show _ ≤ 7246074; omega⟩ dL_law_642 rfl (fun r642 g642 h => ?_)
      refine v_icmp_eq o (tgt := 1546) dL_law_645 (by decide) (fun c645 => ?_) (fun c645 => ?_)
      · replace h := h.1 c645
        obtain ⟨x4_1546, ex4_1546⟩ : ∃ y : Int32, y = x4 + 4 := ⟨_, rfl⟩
        replace h := h x4_1546 ex4_1546
        refine v_iinc o (v := x4_1546) (lv' := [(4, .int x4_1546), (0, .ref b), (1, .ref (sz + 0)), (2, .ref (sz + 1438)), (3, .ref (sz + 1449))]) 4 dL_law_1546 rfl (by rw [ex4_1546]; rfl) (by decide) rfl ?_
        refine v_goto o (tgt := 23) dL_law_1549 (by decide) ?_
        refine v_sub [1, 2, 3, 4, 0] (lv2 := [(0, .ref b), (1, .ref (sz + 0)), (2, .ref (sz + 1438)), (3, .ref (sz + 1449)), (4, .int x4_1546)]) rfl ?_
        refine v_widen (k := 1450 + 4 * x4_1546.toNatClampNeg) (n := 13000 + 24 * x4_1546.toNatClampNeg) (by have := h.2.1; omega) (by have := h.2.1; omega) ?_
        exact ih P g642 x4_1546 h.1 (by have := h.2.2; omega)
      · replace h := h.2 c645
        refine v_iconst o (v := 0) dL_law_648 (by decide) ?_
        exact h.elim
    · replace h := h.2 c634
      refine v_iconst o (v := 1) dL_law_637 (by decide) ?_
      refine v_goto o (tgt := 642) dL_law_638 (by decide) ?_
      refine v_cVi o [.int 1] [.int r624] (fun z => metX8_firstError l G P g624 z (sz + 1438) hm 1 _ h) (cwL_122 o.1.2.2.2.2 (by decide)) ⟨_, _, rfl⟩ (by decide) (wfModel_o hm) rfl (Nat.le_of_ble_eq_true rfl) ⟨by show _ ≤ 616677; omega, by show _ ≤ 7246074; omega⟩ dL_law_642 rfl (fun r642 g642 h => ?_)
      refine v_icmp_eq o (tgt := 1546) dL_law_645 (by decide) (fun c645 => ?_) (fun c645 => ?_)
      · replace h := h.1 c645
        obtain ⟨x4_1546, ex4_1546⟩ : ∃ y : Int32, y = x4 + 4 := ⟨_, rfl⟩
        replace h := h x4_1546 ex4_1546
        refine v_iinc o (v := x4_1546) (lv' := [(4, .int x4_1546), (0, .ref b), (1, .ref (sz + 0)), (2, .ref (sz + 1438)), (3, .ref (sz + 1449))]) 4 dL_law_1546 rfl (by rw [ex4_1546]; rfl) (by decide) rfl ?_
        refine v_goto o (tgt := 23) dL_law_1549 (by decide) ?_
        refine v_sub [1, 2, 3, 4, 0] (lv2 := [(0, .ref b), (1, .ref (sz + 0)), (2, .ref (sz + 1438)), (3, .ref (sz + 1449)), (4, .int x4_1546)]) rfl ?_
        refine v_widen (k := 1450 + 4 * x4_1546.toNatClampNeg) (n := 13000 + 24 * x4_1546.toNatClampNeg) (by have := h.2.1; omega) (by have := h.2.1; omega) ?_
        exact ih P g642 x4_1546 h.1 (by have := h.2.2; omega)
      · replace h := h.2 c645
        refine v_iconst o (v := 0) dL_law_648 (by decide) ?_
        exact h.elim
set_option maxRecDepth 20000 in
set_option maxHeartbeats 4000000 in
theorem lawc_9 {p : Program} {e : Env} {s : State} {m : MethodId} {args : Array Value} {below : List Frame} {meth : Method} {c : Code} {b : Nat} {Q : State → Prop} {Pz : Sk} (l : Launch) (hl : l.stackTraces = false) (G : Gl) (sz Ln : Nat) (xs : Nat → Int32) (o : Okk p s m args meth c cL_law RL 9 G (frA Pz sz)) (hT : TH (frA Pz sz) s s.heap) (hX : va_X b Ln xs s s.heap) (hbl : b < s.heap.size) (hbA : ¬ frA Pz sz b) (hLn : Ln ≤ 2048) (hsz : s.heap.size = sz) (L : Sk → St → Int32 → Prop) (μ : Int32 → Nat) (P : Sk) (f : St) (x4 : Int32) (hx : IsComp P (sz + 0)) (hm : IsModel P (sz + 1438)) (ho : Ob P (sz + 1449) 10 ∧ sN P (sz + 1449) = 1) (hx4 : x4.toNatClampNeg ≤ 2048) (h : fL_9 sz Ln xs L μ P f x4) {n : Nat} (ih : ∀ (P : Sk) (f : St) (x4 : Int32), L P f x4 → μ x4 < n → V p l e room_1 s m args below meth c 9 G (frA Pz sz) Q (1450 + 4 * x4.toNatClampNeg) (13000 + 24 * x4.toNatClampNeg) P [(0, .ref b), (1, .ref (sz + 0)), (2, .ref (sz + 1438)), (3, .ref (sz + 1449)), (4, .int x4)] [] 23 f) (hn : μ x4 ≤ n) : V p l e room_1 s m args below meth c 9 G (frA Pz sz) Q (1450 + 4 * x4.toNatClampNeg) (13000 + 24 * x4.toNatClampNeg) P [(0, .ref b), (1, .ref (sz + 0)), (2, .ref (sz + 1438)), (3, .ref (sz + 1449)), (4, .int x4)] [] 650 f := by
  unfold fL_9 at h
  refine v_aload_n o 1 dL_law_650 rfl ?_
  refine v_aload_n o 3 dL_law_651 rfl ?_
  refine v_cSw o hT [.ref (sz + 0), .ref (sz + 1449)] [] (fun z => metL_work l hl G P f z (sz + 0) (sz + 1449) hx ho _ h) (cq123 o.1.2.2.2.2 (by decide)) rfl (Nat.le_of_ble_eq_true rfl) ⟨by show _ ≤ 616677; omega, by show _ ≤ 7246074; omega⟩ dL_law_652 rfl (fun r652 j652 g652 h => ?_)
  have hx652 := isComp_J (b := (sz + 1449)) (v := j652) hx
  have hm652 := isModel_J (b := (sz + 1449)) (v := j652) hm
  have ho652 : Ob (setJO P (sz + 1449) j652) (sz + 1449) 10 ∧ sN (setJO P (sz + 1449) j652) (sz + 1449) = 1 := ho
  refine v_istore o (lv' := [(5, .int r652), (0, .ref b), (1, .ref (sz + 0)), (2, .ref (sz + 1438)), (3, .ref (sz + 1449)), (4, .int x4)]) dL_law_655 (by decide) rfl ?_
  refine v_aload_n o 3 dL_law_657 rfl ?_
  refine v_cVi o [] [] (fun z => metX8_work l G (setJO P (sz + 1449) j652) g652 z (sz + 1438) hm652 _ h) (cwL_125 o.1.2.2.2.2 (by decide)) ⟨_, _, rfl⟩ (by decide) (wfModel_o hm652) rfl (Nat.le_of_ble_eq_true rfl) ⟨by show _ ≤ 616677; omega, by show _ ≤ 7246074; omega⟩ dL_law_658 rfl (fun r658 g658 h => ?_)
  refine v_istore o (lv' := [(6, .int r658), (5, .int r652), (0, .ref b), (1, .ref (sz + 0)), (2, .ref (sz + 1438)), (3, .ref (sz + 1449)), (4, .int x4)]) dL_law_661 (by decide) rfl ?_
  refine v_aload_n o 4 dL_law_663 rfl ?_
  refine v_cVi o [] [] (fun z => metX8_thrown l G (setJO P (sz + 1449) j652) g658 z (sz + 1438) hm652 _ h) (cwL_90 o.1.2.2.2.2 (by decide)) ⟨_, _, rfl⟩ (by decide) (wfModel_o hm652) rfl (Nat.le_of_ble_eq_true rfl) ⟨by show _ ≤ 616677; omega, by show _ ≤ 7246074; omega⟩ dL_law_664 rfl (fun r664 g664 h => ?_)
  refine v_iload o 1 dL_law_667 rfl ?_
  refine v_icmp_eq o (tgt := 674) dL_law_669 (by decide) (fun c669 => ?_) (fun c669 => ?_)
  · replace h := h.1 c669
    refine v_iload o 1 dL_law_674 rfl ?_
    refine v_if_ne o (tgt := 691) dL_law_676 (by decide) (fun c676 => ?_) (fun c676 => ?_)
    · replace h := h.1 c676
      refine v_goto o (tgt := 1546) dL_law_691 (by decide) ?_
      obtain ⟨x4_1546, ex4_1546⟩ : ∃ y : Int32, y = x4 + 4 := ⟨_, rfl⟩
      replace h := h x4_1546 ex4_1546
      refine v_iinc o (v := x4_1546) (lv' := [(4, .int x4_1546), (6, .int r658), (5, .int r652), (0, .ref b), (1, .ref (sz + 0)), (2, .ref (sz + 1438)), (3, .ref (sz + 1449))]) 6 dL_law_1546 rfl (by rw [ex4_1546]; rfl) (by decide) rfl ?_
      refine v_goto o (tgt := 23) dL_law_1549 (by decide) ?_
      refine v_sub [3, 4, 5, 6, 0] (lv2 := [(0, .ref b), (1, .ref (sz + 0)), (2, .ref (sz + 1438)), (3, .ref (sz + 1449)), (4, .int x4_1546)]) rfl ?_
      refine v_widen (k := 1450 + 4 * x4_1546.toNatClampNeg) (n := 13000 + 24 * x4_1546.toNatClampNeg) (by have := h.2.1; omega) (by have := h.2.1; omega) ?_
      exact ih (setJO P (sz + 1449) j652) g664 x4_1546 h.1 (by have := h.2.2; omega)
    · replace h := h.2 c676
      refine v_aload_n o 5 dL_law_679 rfl ?_
      refine v_iconst o (v := 0) dL_law_680 (by decide) ?_
      refine v_lald o ho652.1 ho652.2 (by unfold vp_in; decide) dL_law_681 ?_
      refine v_iload o 0 dL_law_682 rfl ?_
      refine v_i2l o dL_law_684 ?_
      refine v_lcmp o dL_law_685 ?_
      refine v_if_eq o (tgt := 691) dL_law_686 (by decide) (fun c686 => ?_) (fun c686 => ?_)
      · replace h := h.1 c686
        refine v_goto o (tgt := 1546) dL_law_691 (by decide) ?_
        obtain ⟨x4_1546, ex4_1546⟩ : ∃ y : Int32, y = x4 + 4 := ⟨_, rfl⟩
        replace h := h x4_1546 ex4_1546
        refine v_iinc o (v := x4_1546) (lv' := [(4, .int x4_1546), (6, .int r658), (5, .int r652), (0, .ref b), (1, .ref (sz + 0)), (2, .ref (sz + 1438)), (3, .ref (sz + 1449))]) 6 dL_law_1546 rfl (by rw [ex4_1546]; rfl) (by decide) rfl ?_
        refine v_goto o (tgt := 23) dL_law_1549 (by decide) ?_
        refine v_sub [3, 4, 5, 6, 0] (lv2 := [(0, .ref b), (1, .ref (sz + 0)), (2, .ref (sz + 1438)), (3, .ref (sz + 1449)), (4, .int x4_1546)]) rfl ?_
        refine v_widen (k := 1450 + 4 * x4_1546.toNatClampNeg) (n := 13000 + 24 * x4_1546.toNatClampNeg) (by have := h.2.1; omega) (by have := h.2.1; omega) ?_
        exact ih (setJO P (sz + 1449) j652) g664 x4_1546 h.1 (by have := h.2.2; omega)
      · replace h := h.2 c686
        refine v_iconst o (v := 0) dL_law_689 (by decide) ?_
        exact h.elim
  · replace h := h.2 c669
    refine v_iconst o (v := 0) dL_law_672 (by decide) ?_
    exact h.elim
set_option maxRecDepth 20000 in
set_option maxHeartbeats 4000000 in
theorem lawc_10 {p : Program} {e : Env} {s : State} {m : MethodId} {args : Array Value} {below : List Frame} {meth : Method} {c : Code} {b : Nat} {Q : State → Prop} {Pz : Sk} (l : Launch) (hl : l.stackTraces = false) (G : Gl) (sz Ln : Nat) (xs : Nat → Int32) (o : Okk p s m args meth c cL_law RL 9 G (frA Pz sz)) (hT : TH (frA Pz sz) s s.heap) (hX : va_X b Ln xs s s.heap) (hbl : b < s.heap.size) (hbA : ¬ frA Pz sz b) (hLn : Ln ≤ 2048) (hsz : s.heap.size = sz) (L : Sk → St → Int32 → Prop) (μ : Int32 → Nat) (P : Sk) (f : St) (x4 : Int32) (hx : IsComp P (sz + 0)) (hm : IsModel P (sz + 1438)) (ho : Ob P (sz + 1449) 10 ∧ sN P (sz + 1449) = 1) (hx4 : x4.toNatClampNeg ≤ 2048) (h : fL_10 sz Ln xs L μ P f x4) {n : Nat} (ih : ∀ (P : Sk) (f : St) (x4 : Int32), L P f x4 → μ x4 < n → V p l e room_1 s m args below meth c 9 G (frA Pz sz) Q (1450 + 4 * x4.toNatClampNeg) (13000 + 24 * x4.toNatClampNeg) P [(0, .ref b), (1, .ref (sz + 0)), (2, .ref (sz + 1438)), (3, .ref (sz + 1449)), (4, .int x4)] [] 23 f) (hn : μ x4 ≤ n) : V p l e room_1 s m args below meth c 9 G (frA Pz sz) Q (1450 + 4 * x4.toNatClampNeg) (13000 + 24 * x4.toNatClampNeg) P [(0, .ref b), (1, .ref (sz + 0)), (2, .ref (sz + 1438)), (3, .ref (sz + 1449)), (4, .int x4)] [] 694 f := by
  unfold fL_10 at h
  refine v_aload_n o 1 dL_law_694 rfl ?_
  refine v_aload_n o 0 dL_law_695 rfl ?_
  refine v_iload o 4 dL_law_696 rfl ?_
  refine v_iconst o (v := 1) dL_law_698 (by decide) ?_
  refine v_iadd o dL_law_699 ?_
  refine v_sld o hX hbl hbA h.1 dL_law_700 ?_
  replace h := h.2
  refine v_aload_n o 3 dL_law_701 rfl ?_
  refine v_cSw o hT [.ref (sz + 0), .int (xs (x4 + 1).toNatClampNeg), .ref (sz + 1449)] [] (fun z => metL_stopped l hl G P f z (sz + 0) (xs (x4 + 1).toNatClampNeg) (sz + 1449) hx ho _ h) (cq126 o.1.2.2.2.2 (by decide)) rfl (Nat.le_of_ble_eq_true rfl) ⟨by show _ ≤ 616677; omega, by show _ ≤ 7246074; omega⟩ dL_law_702 rfl (fun r702 j702 g702 h => ?_)
  have hx702 := isComp_J (b := (sz + 1449)) (v := j702) hx
  have hm702 := isModel_J (b := (sz + 1449)) (v := j702) hm
  have ho702 : Ob (setJO P (sz + 1449) j702) (sz + 1449) 10 ∧ sN (setJO P (sz + 1449) j702) (sz + 1449) = 1 := ho
  refine v_istore o (lv' := [(5, .int r702), (0, .ref b), (1, .ref (sz + 0)), (2, .ref (sz + 1438)), (3, .ref (sz + 1449)), (4, .int x4)]) dL_law_705 (by decide) rfl ?_
  refine v_aload_n o 3 dL_law_707 rfl ?_
  refine v_aload_n o 1 dL_law_708 rfl ?_
  refine v_iload o 5 dL_law_709 rfl ?_
  refine v_iconst o (v := 1) dL_law_711 (by decide) ?_
  refine v_iadd o dL_law_712 ?_
  refine v_sld o hX hbl hbA h.1 dL_law_713 ?_
  replace h := h.2
  refine v_cVi o [.int (xs (x4 + 1).toNatClampNeg)] [] (fun z => metX8_stopped l G (setJO P (sz + 1449) j702) g702 z (sz + 1438) hm702 (xs (x4 + 1).toNatClampNeg) _ h) (cwL_128 o.1.2.2.2.2 (by decide)) ⟨_, _, rfl⟩ (by decide) (wfModel_o hm702) rfl (Nat.le_of_ble_eq_true rfl) ⟨by show _ ≤ 616677; omega, by show _ ≤ 7246074; omega⟩ dL_law_714 rfl (fun r714 g714 h => ?_)
  refine v_istore o (lv' := [(6, .int r714), (5, .int r702), (0, .ref b), (1, .ref (sz + 0)), (2, .ref (sz + 1438)), (3, .ref (sz + 1449)), (4, .int x4)]) dL_law_717 (by decide) rfl ?_
  refine v_aload_n o 4 dL_law_719 rfl ?_
  refine v_cVi o [] [] (fun z => metX8_thrown l G (setJO P (sz + 1449) j702) g714 z (sz + 1438) hm702 _ h) (cwL_90 o.1.2.2.2.2 (by decide)) ⟨_, _, rfl⟩ (by decide) (wfModel_o hm702) rfl (Nat.le_of_ble_eq_true rfl) ⟨by show _ ≤ 616677; omega, by show _ ≤ 7246074; omega⟩ dL_law_720 rfl (fun r720 g720 h => ?_)
  refine v_iload o 1 dL_law_723 rfl ?_
  refine v_icmp_eq o (tgt := 730) dL_law_725 (by decide) (fun c725 => ?_) (fun c725 => ?_)
  · replace h := h.1 c725
    refine v_iload o 1 dL_law_730 rfl ?_
    refine v_if_ne o (tgt := 747) dL_law_732 (by decide) (fun c732 => ?_) (fun c732 => ?_)
    · replace h := h.1 c732
      refine v_goto o (tgt := 1546) dL_law_747 (by decide) ?_
      obtain ⟨x4_1546, ex4_1546⟩ : ∃ y : Int32, y = x4 + 4 := ⟨_, rfl⟩
      replace h := h x4_1546 ex4_1546
      refine v_iinc o (v := x4_1546) (lv' := [(4, .int x4_1546), (6, .int r714), (5, .int r702), (0, .ref b), (1, .ref (sz + 0)), (2, .ref (sz + 1438)), (3, .ref (sz + 1449))]) 6 dL_law_1546 rfl (by rw [ex4_1546]; rfl) (by decide) rfl ?_
      refine v_goto o (tgt := 23) dL_law_1549 (by decide) ?_
      refine v_sub [3, 4, 5, 6, 0] (lv2 := [(0, .ref b), (1, .ref (sz + 0)), (2, .ref (sz + 1438)), (3, .ref (sz + 1449)), (4, .int x4_1546)]) rfl ?_
      refine v_widen (k := 1450 + 4 * x4_1546.toNatClampNeg) (n := 13000 + 24 * x4_1546.toNatClampNeg) (by have := h.2.1; omega) (by have := h.2.1; omega) ?_
      exact ih (setJO P (sz + 1449) j702) g720 x4_1546 h.1 (by have := h.2.2; omega)
    · replace h := h.2 c732
      refine v_aload_n o 5 dL_law_735 rfl ?_
      refine v_iconst o (v := 0) dL_law_736 (by decide) ?_
      refine v_lald o ho702.1 ho702.2 (by unfold vp_in; decide) dL_law_737 ?_
      refine v_iload o 0 dL_law_738 rfl ?_
      refine v_i2l o dL_law_740 ?_
      refine v_lcmp o dL_law_741 ?_
      refine v_if_eq o (tgt := 747) dL_law_742 (by decide) (fun c742 => ?_) (fun c742 => ?_)
      · replace h := h.1 c742
        refine v_goto o (tgt := 1546) dL_law_747 (by decide) ?_
        obtain ⟨x4_1546, ex4_1546⟩ : ∃ y : Int32, y = x4 + 4 := ⟨_, rfl⟩
        replace h := h x4_1546 ex4_1546
        refine v_iinc o (v := x4_1546) (lv' := [(4, .int x4_1546), (6, .int r714), (5, .int r702), (0, .ref b), (1, .ref (sz + 0)), (2, .ref (sz + 1438)), (3, .ref (sz + 1449))]) 6 dL_law_1546 rfl (by rw [ex4_1546]; rfl) (by decide) rfl ?_
        refine v_goto o (tgt := 23) dL_law_1549 (by decide) ?_
        refine v_sub [3, 4, 5, 6, 0] (lv2 := [(0, .ref b), (1, .ref (sz + 0)), (2, .ref (sz + 1438)), (3, .ref (sz + 1449)), (4, .int x4_1546)]) rfl ?_
        refine v_widen (k := 1450 + 4 * x4_1546.toNatClampNeg) (n := 13000 + 24 * x4_1546.toNatClampNeg) (by have := h.2.1; omega) (by have := h.2.1; omega) ?_
        exact ih (setJO P (sz + 1449) j702) g720 x4_1546 h.1 (by have := h.2.2; omega)
      · replace h := h.2 c742
        refine v_iconst o (v := 0) dL_law_745 (by decide) ?_
        exact h.elim
  · replace h := h.2 c725
    refine v_iconst o (v := 0) dL_law_728 (by decide) ?_
    exact h.elim
set_option maxRecDepth 20000 in
set_option maxHeartbeats 4000000 in
theorem lawc_11 {p : Program} {e : Env} {s : State} {m : MethodId} {args : Array Value} {below : List Frame} {meth : Method} {c : Code} {b : Nat} {Q : State → Prop} {Pz : Sk} (l : Launch) (hl : l.stackTraces = false) (G : Gl) (sz Ln : Nat) (xs : Nat → Int32) (o : Okk p s m args meth c cL_law RL 9 G (frA Pz sz)) (hT : TH (frA Pz sz) s s.heap) (hX : va_X b Ln xs s s.heap) (hbl : b < s.heap.size) (hbA : ¬ frA Pz sz b) (hLn : Ln ≤ 2048) (hsz : s.heap.size = sz) (L : Sk → St → Int32 → Prop) (μ : Int32 → Nat) (P : Sk) (f : St) (x4 : Int32) (hx : IsComp P (sz + 0)) (hm : IsModel P (sz + 1438)) (ho : Ob P (sz + 1449) 10 ∧ sN P (sz + 1449) = 1) (hx4 : x4.toNatClampNeg ≤ 2048) (h : fL_11 sz Ln xs L μ P f x4) {n : Nat} (ih : ∀ (P : Sk) (f : St) (x4 : Int32), L P f x4 → μ x4 < n → V p l e room_1 s m args below meth c 9 G (frA Pz sz) Q (1450 + 4 * x4.toNatClampNeg) (13000 + 24 * x4.toNatClampNeg) P [(0, .ref b), (1, .ref (sz + 0)), (2, .ref (sz + 1438)), (3, .ref (sz + 1449)), (4, .int x4)] [] 23 f) (hn : μ x4 ≤ n) : V p l e room_1 s m args below meth c 9 G (frA Pz sz) Q (1450 + 4 * x4.toNatClampNeg) (13000 + 24 * x4.toNatClampNeg) P [(0, .ref b), (1, .ref (sz + 0)), (2, .ref (sz + 1438)), (3, .ref (sz + 1449)), (4, .int x4)] [] 750 f := by
  unfold fL_11 at h
  refine v_aload_n o 1 dL_law_750 rfl ?_
  refine v_aload_n o 3 dL_law_751 rfl ?_
  refine v_cSw o hT [.ref (sz + 0), .ref (sz + 1449)] [] (fun z => metL_undo l hl G P f z (sz + 0) (sz + 1449) hx ho _ h) (cq129 o.1.2.2.2.2 (by decide)) rfl (Nat.le_of_ble_eq_true rfl) ⟨by show _ ≤ 616677; omega, by show _ ≤ 7246074; omega⟩ dL_law_752 rfl (fun r752 j752 g752 h => ?_)
  have hx752 := isComp_J (b := (sz + 1449)) (v := j752) hx
  have hm752 := isModel_J (b := (sz + 1449)) (v := j752) hm
  have ho752 : Ob (setJO P (sz + 1449) j752) (sz + 1449) 10 ∧ sN (setJO P (sz + 1449) j752) (sz + 1449) = 1 := ho
  refine v_istore o (lv' := [(5, .int r752), (0, .ref b), (1, .ref (sz + 0)), (2, .ref (sz + 1438)), (3, .ref (sz + 1449)), (4, .int x4)]) dL_law_755 (by decide) rfl ?_
  refine v_aload_n o 3 dL_law_757 rfl ?_
  refine v_cVi o [] [] (fun z => metX8_undo l G (setJO P (sz + 1449) j752) g752 z (sz + 1438) hm752 _ h) (cwL_131 o.1.2.2.2.2 (by decide)) ⟨_, _, rfl⟩ (by decide) (wfModel_o hm752) rfl (Nat.le_of_ble_eq_true rfl) ⟨by show _ ≤ 616677; omega, by show _ ≤ 7246074; omega⟩ dL_law_758 rfl (fun r758 g758 h => ?_)
  refine v_istore o (lv' := [(6, .int r758), (5, .int r752), (0, .ref b), (1, .ref (sz + 0)), (2, .ref (sz + 1438)), (3, .ref (sz + 1449)), (4, .int x4)]) dL_law_761 (by decide) rfl ?_
  refine v_aload_n o 4 dL_law_763 rfl ?_
  refine v_cVi o [] [] (fun z => metX8_thrown l G (setJO P (sz + 1449) j752) g758 z (sz + 1438) hm752 _ h) (cwL_90 o.1.2.2.2.2 (by decide)) ⟨_, _, rfl⟩ (by decide) (wfModel_o hm752) rfl (Nat.le_of_ble_eq_true rfl) ⟨by show _ ≤ 616677; omega, by show _ ≤ 7246074; omega⟩ dL_law_764 rfl (fun r764 g764 h => ?_)
  refine v_iload o 1 dL_law_767 rfl ?_
  refine v_icmp_eq o (tgt := 774) dL_law_769 (by decide) (fun c769 => ?_) (fun c769 => ?_)
  · replace h := h.1 c769
    refine v_iload o 1 dL_law_774 rfl ?_
    refine v_if_ne o (tgt := 791) dL_law_776 (by decide) (fun c776 => ?_) (fun c776 => ?_)
    · replace h := h.1 c776
      refine v_goto o (tgt := 1546) dL_law_791 (by decide) ?_
      obtain ⟨x4_1546, ex4_1546⟩ : ∃ y : Int32, y = x4 + 4 := ⟨_, rfl⟩
      replace h := h x4_1546 ex4_1546
      refine v_iinc o (v := x4_1546) (lv' := [(4, .int x4_1546), (6, .int r758), (5, .int r752), (0, .ref b), (1, .ref (sz + 0)), (2, .ref (sz + 1438)), (3, .ref (sz + 1449))]) 6 dL_law_1546 rfl (by rw [ex4_1546]; rfl) (by decide) rfl ?_
      refine v_goto o (tgt := 23) dL_law_1549 (by decide) ?_
      refine v_sub [3, 4, 5, 6, 0] (lv2 := [(0, .ref b), (1, .ref (sz + 0)), (2, .ref (sz + 1438)), (3, .ref (sz + 1449)), (4, .int x4_1546)]) rfl ?_
      refine v_widen (k := 1450 + 4 * x4_1546.toNatClampNeg) (n := 13000 + 24 * x4_1546.toNatClampNeg) (by have := h.2.1; omega) (by have := h.2.1; omega) ?_
      exact ih (setJO P (sz + 1449) j752) g764 x4_1546 h.1 (by have := h.2.2; omega)
    · replace h := h.2 c776
      refine v_aload_n o 5 dL_law_779 rfl ?_
      refine v_iconst o (v := 0) dL_law_780 (by decide) ?_
      refine v_lald o ho752.1 ho752.2 (by unfold vp_in; decide) dL_law_781 ?_
      refine v_iload o 0 dL_law_782 rfl ?_
      refine v_i2l o dL_law_784 ?_
      refine v_lcmp o dL_law_785 ?_
      refine v_if_eq o (tgt := 791) dL_law_786 (by decide) (fun c786 => ?_) (fun c786 => ?_)
      · replace h := h.1 c786
        refine v_goto o (tgt := 1546) dL_law_791 (by decide) ?_
        obtain ⟨x4_1546, ex4_1546⟩ : ∃ y : Int32, y = x4 + 4 := ⟨_, rfl⟩
        replace h := h x4_1546 ex4_1546
        refine v_iinc o (v := x4_1546) (lv' := [(4, .int x4_1546), (6, .int r758), (5, .int r752), (0, .ref b), (1, .ref (sz + 0)), (2, .ref (sz + 1438)), (3, .ref (sz + 1449))]) 6 dL_law_1546 rfl (by rw [ex4_1546]; rfl) (by decide) rfl ?_
        refine v_goto o (tgt := 23) dL_law_1549 (by decide) ?_
        refine v_sub [3, 4, 5, 6, 0] (lv2 := [(0, .ref b), (1, .ref (sz + 0)), (2, .ref (sz + 1438)), (3, .ref (sz + 1449)), (4, .int x4_1546)]) rfl ?_
        refine v_widen (k := 1450 + 4 * x4_1546.toNatClampNeg) (n := 13000 + 24 * x4_1546.toNatClampNeg) (by have := h.2.1; omega) (by have := h.2.1; omega) ?_
        exact ih (setJO P (sz + 1449) j752) g764 x4_1546 h.1 (by have := h.2.2; omega)
      · replace h := h.2 c786
        refine v_iconst o (v := 0) dL_law_789 (by decide) ?_
        exact h.elim
  · replace h := h.2 c769
    refine v_iconst o (v := 0) dL_law_772 (by decide) ?_
    exact h.elim
set_option maxRecDepth 20000 in
set_option maxHeartbeats 4000000 in
theorem lawc_12 {p : Program} {e : Env} {s : State} {m : MethodId} {args : Array Value} {below : List Frame} {meth : Method} {c : Code} {b : Nat} {Q : State → Prop} {Pz : Sk} (l : Launch) (hl : l.stackTraces = false) (G : Gl) (sz Ln : Nat) (xs : Nat → Int32) (o : Okk p s m args meth c cL_law RL 9 G (frA Pz sz)) (hT : TH (frA Pz sz) s s.heap) (hX : va_X b Ln xs s s.heap) (hbl : b < s.heap.size) (hbA : ¬ frA Pz sz b) (hLn : Ln ≤ 2048) (hsz : s.heap.size = sz) (L : Sk → St → Int32 → Prop) (μ : Int32 → Nat) (P : Sk) (f : St) (x4 : Int32) (hx : IsComp P (sz + 0)) (hm : IsModel P (sz + 1438)) (ho : Ob P (sz + 1449) 10 ∧ sN P (sz + 1449) = 1) (hx4 : x4.toNatClampNeg ≤ 2048) (h : fL_12 sz Ln xs L μ P f x4) {n : Nat} (ih : ∀ (P : Sk) (f : St) (x4 : Int32), L P f x4 → μ x4 < n → V p l e room_1 s m args below meth c 9 G (frA Pz sz) Q (1450 + 4 * x4.toNatClampNeg) (13000 + 24 * x4.toNatClampNeg) P [(0, .ref b), (1, .ref (sz + 0)), (2, .ref (sz + 1438)), (3, .ref (sz + 1449)), (4, .int x4)] [] 23 f) (hn : μ x4 ≤ n) : V p l e room_1 s m args below meth c 9 G (frA Pz sz) Q (1450 + 4 * x4.toNatClampNeg) (13000 + 24 * x4.toNatClampNeg) P [(0, .ref b), (1, .ref (sz + 0)), (2, .ref (sz + 1438)), (3, .ref (sz + 1449)), (4, .int x4)] [] 794 f := by
  unfold fL_12 at h
  refine v_aload_n o 1 dL_law_794 rfl ?_
  refine v_cVi o [] [] (fun z => metX7_keep l G P f z (sz + 0) hx _ h) (cwL_132 o.1.2.2.2.2 (by decide)) ⟨_, _, rfl⟩ (by decide) (wfComp_o hx) rfl (Nat.le_of_ble_eq_true rfl) ⟨by show _ ≤ 616677; omega, by show _ ≤ 7246074; omega⟩ dL_law_795 rfl (fun r795 g795 h => ?_)
  refine v_aload_n o 2 dL_law_798 rfl ?_
  refine v_cVi o [] [.int r795] (fun z => metX8_keep l G P g795 z (sz + 1438) hm _ h) (cwL_135 o.1.2.2.2.2 (by decide)) ⟨_, _, rfl⟩ (by decide) (wfModel_o hm) rfl (Nat.le_of_ble_eq_true rfl) ⟨by show _ ≤ 616677; omega, by show _ ≤ 7246074; omega⟩ dL_law_799 rfl (fun r799 g799 h => ?_)
  refine v_icmp_eq o (tgt := 1546) dL_law_802 (by decide) (fun c802 => ?_) (fun c802 => ?_)
  · replace h := h.1 c802
    obtain ⟨x4_1546, ex4_1546⟩ : ∃ y : Int32, y = x4 + 4 := ⟨_, rfl⟩
    replace h := h x4_1546 ex4_1546
    refine v_iinc o (v := x4_1546) (lv' := [(4, .int x4_1546), (0, .ref b), (1, .ref (sz + 0)), (2, .ref (sz + 1438)), (3, .ref (sz + 1449))]) 4 dL_law_1546 rfl (by rw [ex4_1546]; rfl) (by decide) rfl ?_
    refine v_goto o (tgt := 23) dL_law_1549 (by decide) ?_
    refine v_sub [1, 2, 3, 4, 0] (lv2 := [(0, .ref b), (1, .ref (sz + 0)), (2, .ref (sz + 1438)), (3, .ref (sz + 1449)), (4, .int x4_1546)]) rfl ?_
    refine v_widen (k := 1450 + 4 * x4_1546.toNatClampNeg) (n := 13000 + 24 * x4_1546.toNatClampNeg) (by have := h.2.1; omega) (by have := h.2.1; omega) ?_
    exact ih P g799 x4_1546 h.1 (by have := h.2.2; omega)
  · replace h := h.2 c802
    refine v_iconst o (v := 0) dL_law_805 (by decide) ?_
    exact h.elim
set_option maxRecDepth 20000 in
set_option maxHeartbeats 4000000 in
theorem lawc_13 {p : Program} {e : Env} {s : State} {m : MethodId} {args : Array Value} {below : List Frame} {meth : Method} {c : Code} {b : Nat} {Q : State → Prop} {Pz : Sk} (l : Launch) (hl : l.stackTraces = false) (G : Gl) (sz Ln : Nat) (xs : Nat → Int32) (o : Okk p s m args meth c cL_law RL 9 G (frA Pz sz)) (hT : TH (frA Pz sz) s s.heap) (hX : va_X b Ln xs s s.heap) (hbl : b < s.heap.size) (hbA : ¬ frA Pz sz b) (hLn : Ln ≤ 2048) (hsz : s.heap.size = sz) (L : Sk → St → Int32 → Prop) (μ : Int32 → Nat) (P : Sk) (f : St) (x4 : Int32) (hx : IsComp P (sz + 0)) (hm : IsModel P (sz + 1438)) (ho : Ob P (sz + 1449) 10 ∧ sN P (sz + 1449) = 1) (hx4 : x4.toNatClampNeg ≤ 2048) (h : fL_13 sz Ln xs L μ P f x4) {n : Nat} (ih : ∀ (P : Sk) (f : St) (x4 : Int32), L P f x4 → μ x4 < n → V p l e room_1 s m args below meth c 9 G (frA Pz sz) Q (1450 + 4 * x4.toNatClampNeg) (13000 + 24 * x4.toNatClampNeg) P [(0, .ref b), (1, .ref (sz + 0)), (2, .ref (sz + 1438)), (3, .ref (sz + 1449)), (4, .int x4)] [] 23 f) (hn : μ x4 ≤ n) : V p l e room_1 s m args below meth c 9 G (frA Pz sz) Q (1450 + 4 * x4.toNatClampNeg) (13000 + 24 * x4.toNatClampNeg) P [(0, .ref b), (1, .ref (sz + 0)), (2, .ref (sz + 1438)), (3, .ref (sz + 1449)), (4, .int x4)] [] 807 f := by
  unfold fL_13 at h
  refine v_aload_n o 1 dL_law_807 rfl ?_
  refine v_aload_n o 3 dL_law_808 rfl ?_
  refine v_cSw o hT [.ref (sz + 0), .ref (sz + 1449)] [] (fun z => metL_restore l hl G P f z (sz + 0) (sz + 1449) hx ho _ h) (cq136 o.1.2.2.2.2 (by decide)) rfl (Nat.le_of_ble_eq_true rfl) ⟨by show _ ≤ 616677; omega, by show _ ≤ 7246074; omega⟩ dL_law_809 rfl (fun r809 j809 g809 h => ?_)
  have hx809 := isComp_J (b := (sz + 1449)) (v := j809) hx
  have hm809 := isModel_J (b := (sz + 1449)) (v := j809) hm
  have ho809 : Ob (setJO P (sz + 1449) j809) (sz + 1449) 10 ∧ sN (setJO P (sz + 1449) j809) (sz + 1449) = 1 := ho
  refine v_istore o (lv' := [(5, .int r809), (0, .ref b), (1, .ref (sz + 0)), (2, .ref (sz + 1438)), (3, .ref (sz + 1449)), (4, .int x4)]) dL_law_812 (by decide) rfl ?_
  refine v_aload_n o 3 dL_law_814 rfl ?_
  refine v_cVi o [] [] (fun z => metX8_restore l G (setJO P (sz + 1449) j809) g809 z (sz + 1438) hm809 _ h) (cwL_138 o.1.2.2.2.2 (by decide)) ⟨_, _, rfl⟩ (by decide) (wfModel_o hm809) rfl (Nat.le_of_ble_eq_true rfl) ⟨by show _ ≤ 616677; omega, by show _ ≤ 7246074; omega⟩ dL_law_815 rfl (fun r815 g815 h => ?_)
  refine v_istore o (lv' := [(6, .int r815), (5, .int r809), (0, .ref b), (1, .ref (sz + 0)), (2, .ref (sz + 1438)), (3, .ref (sz + 1449)), (4, .int x4)]) dL_law_818 (by decide) rfl ?_
  refine v_aload_n o 4 dL_law_820 rfl ?_
  refine v_cVi o [] [] (fun z => metX8_thrown l G (setJO P (sz + 1449) j809) g815 z (sz + 1438) hm809 _ h) (cwL_90 o.1.2.2.2.2 (by decide)) ⟨_, _, rfl⟩ (by decide) (wfModel_o hm809) rfl (Nat.le_of_ble_eq_true rfl) ⟨by show _ ≤ 616677; omega, by show _ ≤ 7246074; omega⟩ dL_law_821 rfl (fun r821 g821 h => ?_)
  refine v_iload o 1 dL_law_824 rfl ?_
  refine v_icmp_eq o (tgt := 831) dL_law_826 (by decide) (fun c826 => ?_) (fun c826 => ?_)
  · replace h := h.1 c826
    refine v_iload o 1 dL_law_831 rfl ?_
    refine v_if_ne o (tgt := 848) dL_law_833 (by decide) (fun c833 => ?_) (fun c833 => ?_)
    · replace h := h.1 c833
      refine v_goto o (tgt := 1546) dL_law_848 (by decide) ?_
      obtain ⟨x4_1546, ex4_1546⟩ : ∃ y : Int32, y = x4 + 4 := ⟨_, rfl⟩
      replace h := h x4_1546 ex4_1546
      refine v_iinc o (v := x4_1546) (lv' := [(4, .int x4_1546), (6, .int r815), (5, .int r809), (0, .ref b), (1, .ref (sz + 0)), (2, .ref (sz + 1438)), (3, .ref (sz + 1449))]) 6 dL_law_1546 rfl (by rw [ex4_1546]; rfl) (by decide) rfl ?_
      refine v_goto o (tgt := 23) dL_law_1549 (by decide) ?_
      refine v_sub [3, 4, 5, 6, 0] (lv2 := [(0, .ref b), (1, .ref (sz + 0)), (2, .ref (sz + 1438)), (3, .ref (sz + 1449)), (4, .int x4_1546)]) rfl ?_
      refine v_widen (k := 1450 + 4 * x4_1546.toNatClampNeg) (n := 13000 + 24 * x4_1546.toNatClampNeg) (by have := h.2.1; omega) (by have := h.2.1; omega) ?_
      exact ih (setJO P (sz + 1449) j809) g821 x4_1546 h.1 (by have := h.2.2; omega)
    · replace h := h.2 c833
      refine v_aload_n o 5 dL_law_836 rfl ?_
      refine v_iconst o (v := 0) dL_law_837 (by decide) ?_
      refine v_lald o ho809.1 ho809.2 (by unfold vp_in; decide) dL_law_838 ?_
      refine v_iload o 0 dL_law_839 rfl ?_
      refine v_i2l o dL_law_841 ?_
      refine v_lcmp o dL_law_842 ?_
      refine v_if_eq o (tgt := 848) dL_law_843 (by decide) (fun c843 => ?_) (fun c843 => ?_)
      · replace h := h.1 c843
        refine v_goto o (tgt := 1546) dL_law_848 (by decide) ?_
        obtain ⟨x4_1546, ex4_1546⟩ : ∃ y : Int32, y = x4 + 4 := ⟨_, rfl⟩
        replace h := h x4_1546 ex4_1546
        refine v_iinc o (v := x4_1546) (lv' := [(4, .int x4_1546), (6, .int r815), (5, .int r809), (0, .ref b), (1, .ref (sz + 0)), (2, .ref (sz + 1438)), (3, .ref (sz + 1449))]) 6 dL_law_1546 rfl (by rw [ex4_1546]; rfl) (by decide) rfl ?_
        refine v_goto o (tgt := 23) dL_law_1549 (by decide) ?_
        refine v_sub [3, 4, 5, 6, 0] (lv2 := [(0, .ref b), (1, .ref (sz + 0)), (2, .ref (sz + 1438)), (3, .ref (sz + 1449)), (4, .int x4_1546)]) rfl ?_
        refine v_widen (k := 1450 + 4 * x4_1546.toNatClampNeg) (n := 13000 + 24 * x4_1546.toNatClampNeg) (by have := h.2.1; omega) (by have := h.2.1; omega) ?_
        exact ih (setJO P (sz + 1449) j809) g821 x4_1546 h.1 (by have := h.2.2; omega)
      · replace h := h.2 c843
        refine v_iconst o (v := 0) dL_law_846 (by decide) ?_
        exact h.elim
  · replace h := h.2 c826
    refine v_iconst o (v := 0) dL_law_829 (by decide) ?_
    exact h.elim
set_option maxRecDepth 20000 in
set_option maxHeartbeats 4000000 in
theorem lawc_14 {p : Program} {e : Env} {s : State} {m : MethodId} {args : Array Value} {below : List Frame} {meth : Method} {c : Code} {b : Nat} {Q : State → Prop} {Pz : Sk} (l : Launch) (hl : l.stackTraces = false) (G : Gl) (sz Ln : Nat) (xs : Nat → Int32) (o : Okk p s m args meth c cL_law RL 9 G (frA Pz sz)) (hT : TH (frA Pz sz) s s.heap) (hX : va_X b Ln xs s s.heap) (hbl : b < s.heap.size) (hbA : ¬ frA Pz sz b) (hLn : Ln ≤ 2048) (hsz : s.heap.size = sz) (L : Sk → St → Int32 → Prop) (μ : Int32 → Nat) (P : Sk) (f : St) (x4 : Int32) (hx : IsComp P (sz + 0)) (hm : IsModel P (sz + 1438)) (ho : Ob P (sz + 1449) 10 ∧ sN P (sz + 1449) = 1) (hx4 : x4.toNatClampNeg ≤ 2048) (h : fL_14 sz Ln xs L μ P f x4) {n : Nat} (ih : ∀ (P : Sk) (f : St) (x4 : Int32), L P f x4 → μ x4 < n → V p l e room_1 s m args below meth c 9 G (frA Pz sz) Q (1450 + 4 * x4.toNatClampNeg) (13000 + 24 * x4.toNatClampNeg) P [(0, .ref b), (1, .ref (sz + 0)), (2, .ref (sz + 1438)), (3, .ref (sz + 1449)), (4, .int x4)] [] 23 f) (hn : μ x4 ≤ n) : V p l e room_1 s m args below meth c 9 G (frA Pz sz) Q (1450 + 4 * x4.toNatClampNeg) (13000 + 24 * x4.toNatClampNeg) P [(0, .ref b), (1, .ref (sz + 0)), (2, .ref (sz + 1438)), (3, .ref (sz + 1449)), (4, .int x4)] [] 851 f := by
  unfold fL_14 at h
  refine v_aload_n o 1 dL_law_851 rfl ?_
  refine v_aload_n o 0 dL_law_852 rfl ?_
  refine v_iload o 4 dL_law_853 rfl ?_
  refine v_iconst o (v := 1) dL_law_855 (by decide) ?_
  refine v_iadd o dL_law_856 ?_
  refine v_sld o hX hbl hbA h.1 dL_law_857 ?_
  replace h := h.2
  refine v_aload_n o 0 dL_law_858 rfl ?_
  refine v_iload o 4 dL_law_859 rfl ?_
  refine v_iconst o (v := 2) dL_law_861 (by decide) ?_
  refine v_iadd o dL_law_862 ?_
  refine v_sld o hX hbl hbA h.1 dL_law_863 ?_
  replace h := h.2
  refine v_aload_n o 0 dL_law_864 rfl ?_
  refine v_iload o 4 dL_law_865 rfl ?_
  refine v_iconst o (v := 3) dL_law_867 (by decide) ?_
  refine v_iadd o dL_law_868 ?_
  refine v_sld o hX hbl hbA h.1 dL_law_869 ?_
  replace h := h.2
  refine v_aload_n o 3 dL_law_870 rfl ?_
  refine v_cSw o hT [.ref (sz + 0), .int (xs (x4 + 1).toNatClampNeg), .int (xs (x4 + 2).toNatClampNeg), .int (xs (x4 + 3).toNatClampNeg), .ref (sz + 1449)] [] (fun z => metL_crossing l hl G P f z (sz + 0) (xs (x4 + 1).toNatClampNeg) (xs (x4 + 2).toNatClampNeg) (xs (x4 + 3).toNatClampNeg) (sz + 1449) hx ho _ h) (cq139 o.1.2.2.2.2 (by decide)) rfl (Nat.le_of_ble_eq_true rfl) ⟨by show _ ≤ 616677; omega, by show _ ≤ 7246074; omega⟩ dL_law_871 rfl (fun r871 j871 g871 h => ?_)
  have hx871 := isComp_J (b := (sz + 1449)) (v := j871) hx
  have hm871 := isModel_J (b := (sz + 1449)) (v := j871) hm
  have ho871 : Ob (setJO P (sz + 1449) j871) (sz + 1449) 10 ∧ sN (setJO P (sz + 1449) j871) (sz + 1449) = 1 := ho
  refine v_istore o (lv' := [(5, .int r871), (0, .ref b), (1, .ref (sz + 0)), (2, .ref (sz + 1438)), (3, .ref (sz + 1449)), (4, .int x4)]) dL_law_874 (by decide) rfl ?_
  refine v_aload_n o 3 dL_law_876 rfl ?_
  refine v_aload_n o 1 dL_law_877 rfl ?_
  refine v_iload o 5 dL_law_878 rfl ?_
  refine v_iconst o (v := 1) dL_law_880 (by decide) ?_
  refine v_iadd o dL_law_881 ?_
  refine v_sld o hX hbl hbA h.1 dL_law_882 ?_
  replace h := h.2
  refine v_aload_n o 1 dL_law_883 rfl ?_
  refine v_iload o 5 dL_law_884 rfl ?_
  refine v_iconst o (v := 2) dL_law_886 (by decide) ?_
  refine v_iadd o dL_law_887 ?_
  refine v_sld o hX hbl hbA h.1 dL_law_888 ?_
  replace h := h.2
  refine v_aload_n o 1 dL_law_889 rfl ?_
  refine v_iload o 5 dL_law_890 rfl ?_
  refine v_iconst o (v := 3) dL_law_892 (by decide) ?_
  refine v_iadd o dL_law_893 ?_
  refine v_sld o hX hbl hbA h.1 dL_law_894 ?_
  replace h := h.2
  refine v_cVi o [.int (xs (x4 + 1).toNatClampNeg), .int (xs (x4 + 2).toNatClampNeg), .int (xs (x4 + 3).toNatClampNeg)] [] (fun z => metX8_crossing l G (setJO P (sz + 1449) j871) g871 z (sz + 1438) hm871 (xs (x4 + 1).toNatClampNeg) (xs (x4 + 2).toNatClampNeg) (xs (x4 + 3).toNatClampNeg) _ h) (cwL_142 o.1.2.2.2.2 (by decide)) ⟨_, _, rfl⟩ (by decide) (wfModel_o hm871) rfl (Nat.le_of_ble_eq_true rfl) ⟨by show _ ≤ 616677; omega, by show _ ≤ 7246074; omega⟩ dL_law_895 rfl (fun r895 g895 h => ?_)
  refine v_istore o (lv' := [(6, .int r895), (5, .int r871), (0, .ref b), (1, .ref (sz + 0)), (2, .ref (sz + 1438)), (3, .ref (sz + 1449)), (4, .int x4)]) dL_law_898 (by decide) rfl ?_
  refine v_aload_n o 4 dL_law_900 rfl ?_
  refine v_cVi o [] [] (fun z => metX8_thrown l G (setJO P (sz + 1449) j871) g895 z (sz + 1438) hm871 _ h) (cwL_90 o.1.2.2.2.2 (by decide)) ⟨_, _, rfl⟩ (by decide) (wfModel_o hm871) rfl (Nat.le_of_ble_eq_true rfl) ⟨by show _ ≤ 616677; omega, by show _ ≤ 7246074; omega⟩ dL_law_901 rfl (fun r901 g901 h => ?_)
  refine v_iload o 1 dL_law_904 rfl ?_
  refine v_icmp_eq o (tgt := 911) dL_law_906 (by decide) (fun c906 => ?_) (fun c906 => ?_)
  · replace h := h.1 c906
    refine v_iload o 1 dL_law_911 rfl ?_
    refine v_if_ne o (tgt := 928) dL_law_913 (by decide) (fun c913 => ?_) (fun c913 => ?_)
    · replace h := h.1 c913
      refine v_goto o (tgt := 1546) dL_law_928 (by decide) ?_
      obtain ⟨x4_1546, ex4_1546⟩ : ∃ y : Int32, y = x4 + 4 := ⟨_, rfl⟩
      replace h := h x4_1546 ex4_1546
      refine v_iinc o (v := x4_1546) (lv' := [(4, .int x4_1546), (6, .int r895), (5, .int r871), (0, .ref b), (1, .ref (sz + 0)), (2, .ref (sz + 1438)), (3, .ref (sz + 1449))]) 6 dL_law_1546 rfl (by rw [ex4_1546]; rfl) (by decide) rfl ?_
      refine v_goto o (tgt := 23) dL_law_1549 (by decide) ?_
      refine v_sub [3, 4, 5, 6, 0] (lv2 := [(0, .ref b), (1, .ref (sz + 0)), (2, .ref (sz + 1438)), (3, .ref (sz + 1449)), (4, .int x4_1546)]) rfl ?_
      refine v_widen (k := 1450 + 4 * x4_1546.toNatClampNeg) (n := 13000 + 24 * x4_1546.toNatClampNeg) (by have := h.2.1; omega) (by have := h.2.1; omega) ?_
      exact ih (setJO P (sz + 1449) j871) g901 x4_1546 h.1 (by have := h.2.2; omega)
    · replace h := h.2 c913
      refine v_aload_n o 5 dL_law_916 rfl ?_
      refine v_iconst o (v := 0) dL_law_917 (by decide) ?_
      refine v_lald o ho871.1 ho871.2 (by unfold vp_in; decide) dL_law_918 ?_
      refine v_iload o 0 dL_law_919 rfl ?_
      refine v_i2l o dL_law_921 ?_
      refine v_lcmp o dL_law_922 ?_
      refine v_if_eq o (tgt := 928) dL_law_923 (by decide) (fun c923 => ?_) (fun c923 => ?_)
      · replace h := h.1 c923
        refine v_goto o (tgt := 1546) dL_law_928 (by decide) ?_
        obtain ⟨x4_1546, ex4_1546⟩ : ∃ y : Int32, y = x4 + 4 := ⟨_, rfl⟩
        replace h := h x4_1546 ex4_1546
        refine v_iinc o (v := x4_1546) (lv' := [(4, .int x4_1546), (6, .int r895), (5, .int r871), (0, .ref b), (1, .ref (sz + 0)), (2, .ref (sz + 1438)), (3, .ref (sz + 1449))]) 6 dL_law_1546 rfl (by rw [ex4_1546]; rfl) (by decide) rfl ?_
        refine v_goto o (tgt := 23) dL_law_1549 (by decide) ?_
        refine v_sub [3, 4, 5, 6, 0] (lv2 := [(0, .ref b), (1, .ref (sz + 0)), (2, .ref (sz + 1438)), (3, .ref (sz + 1449)), (4, .int x4_1546)]) rfl ?_
        refine v_widen (k := 1450 + 4 * x4_1546.toNatClampNeg) (n := 13000 + 24 * x4_1546.toNatClampNeg) (by have := h.2.1; omega) (by have := h.2.1; omega) ?_
        exact ih (setJO P (sz + 1449) j871) g901 x4_1546 h.1 (by have := h.2.2; omega)
      · replace h := h.2 c923
        refine v_iconst o (v := 0) dL_law_926 (by decide) ?_
        exact h.elim
  · replace h := h.2 c906
    refine v_iconst o (v := 0) dL_law_909 (by decide) ?_
    exact h.elim
set_option maxRecDepth 20000 in
set_option maxHeartbeats 4000000 in
theorem lawc_15 {p : Program} {e : Env} {s : State} {m : MethodId} {args : Array Value} {below : List Frame} {meth : Method} {c : Code} {b : Nat} {Q : State → Prop} {Pz : Sk} (l : Launch) (hl : l.stackTraces = false) (G : Gl) (sz Ln : Nat) (xs : Nat → Int32) (o : Okk p s m args meth c cL_law RL 9 G (frA Pz sz)) (hT : TH (frA Pz sz) s s.heap) (hX : va_X b Ln xs s s.heap) (hbl : b < s.heap.size) (hbA : ¬ frA Pz sz b) (hLn : Ln ≤ 2048) (hsz : s.heap.size = sz) (L : Sk → St → Int32 → Prop) (μ : Int32 → Nat) (P : Sk) (f : St) (x4 : Int32) (hx : IsComp P (sz + 0)) (hm : IsModel P (sz + 1438)) (ho : Ob P (sz + 1449) 10 ∧ sN P (sz + 1449) = 1) (hx4 : x4.toNatClampNeg ≤ 2048) (h : fL_15 sz Ln xs L μ P f x4) {n : Nat} (ih : ∀ (P : Sk) (f : St) (x4 : Int32), L P f x4 → μ x4 < n → V p l e room_1 s m args below meth c 9 G (frA Pz sz) Q (1450 + 4 * x4.toNatClampNeg) (13000 + 24 * x4.toNatClampNeg) P [(0, .ref b), (1, .ref (sz + 0)), (2, .ref (sz + 1438)), (3, .ref (sz + 1449)), (4, .int x4)] [] 23 f) (hn : μ x4 ≤ n) : V p l e room_1 s m args below meth c 9 G (frA Pz sz) Q (1450 + 4 * x4.toNatClampNeg) (13000 + 24 * x4.toNatClampNeg) P [(0, .ref b), (1, .ref (sz + 0)), (2, .ref (sz + 1438)), (3, .ref (sz + 1449)), (4, .int x4)] [] 931 f := by
  unfold fL_15 at h
  refine v_aload_n o 1 dL_law_931 rfl ?_
  refine v_aload_n o 0 dL_law_932 rfl ?_
  refine v_iload o 4 dL_law_933 rfl ?_
  refine v_iconst o (v := 1) dL_law_935 (by decide) ?_
  refine v_iadd o dL_law_936 ?_
  refine v_sld o hX hbl hbA h.1 dL_law_937 ?_
  replace h := h.2
  refine v_aload_n o 0 dL_law_938 rfl ?_
  refine v_iload o 4 dL_law_939 rfl ?_
  refine v_iconst o (v := 2) dL_law_941 (by decide) ?_
  refine v_iadd o dL_law_942 ?_
  refine v_sld o hX hbl hbA h.1 dL_law_943 ?_
  replace h := h.2
  refine v_aload_n o 0 dL_law_944 rfl ?_
  refine v_iload o 4 dL_law_945 rfl ?_
  refine v_iconst o (v := 3) dL_law_947 (by decide) ?_
  refine v_iadd o dL_law_948 ?_
  refine v_sld o hX hbl hbA h.1 dL_law_949 ?_
  replace h := h.2
  refine v_aload_n o 3 dL_law_950 rfl ?_
  refine v_cSw o hT [.ref (sz + 0), .int (xs (x4 + 1).toNatClampNeg), .int (xs (x4 + 2).toNatClampNeg), .int (xs (x4 + 3).toNatClampNeg), .ref (sz + 1449)] [] (fun z => metL_strand l hl G P f z (sz + 0) (xs (x4 + 1).toNatClampNeg) (xs (x4 + 2).toNatClampNeg) (xs (x4 + 3).toNatClampNeg) (sz + 1449) hx ho _ h) (cq143 o.1.2.2.2.2 (by decide)) rfl (Nat.le_of_ble_eq_true rfl) ⟨by show _ ≤ 616677; omega, by show _ ≤ 7246074; omega⟩ dL_law_951 rfl (fun r951 j951 g951 h => ?_)
  have hx951 := isComp_J (b := (sz + 1449)) (v := j951) hx
  have hm951 := isModel_J (b := (sz + 1449)) (v := j951) hm
  have ho951 : Ob (setJO P (sz + 1449) j951) (sz + 1449) 10 ∧ sN (setJO P (sz + 1449) j951) (sz + 1449) = 1 := ho
  refine v_istore o (lv' := [(5, .int r951), (0, .ref b), (1, .ref (sz + 0)), (2, .ref (sz + 1438)), (3, .ref (sz + 1449)), (4, .int x4)]) dL_law_954 (by decide) rfl ?_
  refine v_aload_n o 3 dL_law_956 rfl ?_
  refine v_aload_n o 1 dL_law_957 rfl ?_
  refine v_iload o 5 dL_law_958 rfl ?_
  refine v_iconst o (v := 1) dL_law_960 (by decide) ?_
  refine v_iadd o dL_law_961 ?_
  refine v_sld o hX hbl hbA h.1 dL_law_962 ?_
  replace h := h.2
  refine v_aload_n o 1 dL_law_963 rfl ?_
  refine v_iload o 5 dL_law_964 rfl ?_
  refine v_iconst o (v := 2) dL_law_966 (by decide) ?_
  refine v_iadd o dL_law_967 ?_
  refine v_sld o hX hbl hbA h.1 dL_law_968 ?_
  replace h := h.2
  refine v_aload_n o 1 dL_law_969 rfl ?_
  refine v_iload o 5 dL_law_970 rfl ?_
  refine v_iconst o (v := 3) dL_law_972 (by decide) ?_
  refine v_iadd o dL_law_973 ?_
  refine v_sld o hX hbl hbA h.1 dL_law_974 ?_
  replace h := h.2
  refine v_cVi o [.int (xs (x4 + 1).toNatClampNeg), .int (xs (x4 + 2).toNatClampNeg), .int (xs (x4 + 3).toNatClampNeg)] [] (fun z => metX8_strand l G (setJO P (sz + 1449) j951) g951 z (sz + 1438) hm951 (xs (x4 + 1).toNatClampNeg) (xs (x4 + 2).toNatClampNeg) (xs (x4 + 3).toNatClampNeg) _ h) (cwL_145 o.1.2.2.2.2 (by decide)) ⟨_, _, rfl⟩ (by decide) (wfModel_o hm951) rfl (Nat.le_of_ble_eq_true rfl) ⟨by show _ ≤ 616677; omega, by show _ ≤ 7246074; omega⟩ dL_law_975 rfl (fun r975 g975 h => ?_)
  refine v_istore o (lv' := [(6, .int r975), (5, .int r951), (0, .ref b), (1, .ref (sz + 0)), (2, .ref (sz + 1438)), (3, .ref (sz + 1449)), (4, .int x4)]) dL_law_978 (by decide) rfl ?_
  refine v_aload_n o 4 dL_law_980 rfl ?_
  refine v_cVi o [] [] (fun z => metX8_thrown l G (setJO P (sz + 1449) j951) g975 z (sz + 1438) hm951 _ h) (cwL_90 o.1.2.2.2.2 (by decide)) ⟨_, _, rfl⟩ (by decide) (wfModel_o hm951) rfl (Nat.le_of_ble_eq_true rfl) ⟨by show _ ≤ 616677; omega, by show _ ≤ 7246074; omega⟩ dL_law_981 rfl (fun r981 g981 h => ?_)
  refine v_iload o 1 dL_law_984 rfl ?_
  refine v_icmp_eq o (tgt := 991) dL_law_986 (by decide) (fun c986 => ?_) (fun c986 => ?_)
  · replace h := h.1 c986
    refine v_iload o 1 dL_law_991 rfl ?_
    refine v_if_ne o (tgt := 1008) dL_law_993 (by decide) (fun c993 => ?_) (fun c993 => ?_)
    · replace h := h.1 c993
      refine v_goto o (tgt := 1546) dL_law_1008 (by decide) ?_
      obtain ⟨x4_1546, ex4_1546⟩ : ∃ y : Int32, y = x4 + 4 := ⟨_, rfl⟩
      replace h := h x4_1546 ex4_1546
      refine v_iinc o (v := x4_1546) (lv' := [(4, .int x4_1546), (6, .int r975), (5, .int r951), (0, .ref b), (1, .ref (sz + 0)), (2, .ref (sz + 1438)), (3, .ref (sz + 1449))]) 6 dL_law_1546 rfl (by rw [ex4_1546]; rfl) (by decide) rfl ?_
      refine v_goto o (tgt := 23) dL_law_1549 (by decide) ?_
      refine v_sub [3, 4, 5, 6, 0] (lv2 := [(0, .ref b), (1, .ref (sz + 0)), (2, .ref (sz + 1438)), (3, .ref (sz + 1449)), (4, .int x4_1546)]) rfl ?_
      refine v_widen (k := 1450 + 4 * x4_1546.toNatClampNeg) (n := 13000 + 24 * x4_1546.toNatClampNeg) (by have := h.2.1; omega) (by have := h.2.1; omega) ?_
      exact ih (setJO P (sz + 1449) j951) g981 x4_1546 h.1 (by have := h.2.2; omega)
    · replace h := h.2 c993
      refine v_aload_n o 5 dL_law_996 rfl ?_
      refine v_iconst o (v := 0) dL_law_997 (by decide) ?_
      refine v_lald o ho951.1 ho951.2 (by unfold vp_in; decide) dL_law_998 ?_
      refine v_iload o 0 dL_law_999 rfl ?_
      refine v_i2l o dL_law_1001 ?_
      refine v_lcmp o dL_law_1002 ?_
      refine v_if_eq o (tgt := 1008) dL_law_1003 (by decide) (fun c1003 => ?_) (fun c1003 => ?_)
      · replace h := h.1 c1003
        refine v_goto o (tgt := 1546) dL_law_1008 (by decide) ?_
        obtain ⟨x4_1546, ex4_1546⟩ : ∃ y : Int32, y = x4 + 4 := ⟨_, rfl⟩
        replace h := h x4_1546 ex4_1546
        refine v_iinc o (v := x4_1546) (lv' := [(4, .int x4_1546), (6, .int r975), (5, .int r951), (0, .ref b), (1, .ref (sz + 0)), (2, .ref (sz + 1438)), (3, .ref (sz + 1449))]) 6 dL_law_1546 rfl (by rw [ex4_1546]; rfl) (by decide) rfl ?_
        refine v_goto o (tgt := 23) dL_law_1549 (by decide) ?_
        refine v_sub [3, 4, 5, 6, 0] (lv2 := [(0, .ref b), (1, .ref (sz + 0)), (2, .ref (sz + 1438)), (3, .ref (sz + 1449)), (4, .int x4_1546)]) rfl ?_
        refine v_widen (k := 1450 + 4 * x4_1546.toNatClampNeg) (n := 13000 + 24 * x4_1546.toNatClampNeg) (by have := h.2.1; omega) (by have := h.2.1; omega) ?_
        exact ih (setJO P (sz + 1449) j951) g981 x4_1546 h.1 (by have := h.2.2; omega)
      · replace h := h.2 c1003
        refine v_iconst o (v := 0) dL_law_1006 (by decide) ?_
        exact h.elim
  · replace h := h.2 c986
    refine v_iconst o (v := 0) dL_law_989 (by decide) ?_
    exact h.elim
set_option maxRecDepth 20000 in
set_option maxHeartbeats 4000000 in
theorem lawc_16 {p : Program} {e : Env} {s : State} {m : MethodId} {args : Array Value} {below : List Frame} {meth : Method} {c : Code} {b : Nat} {Q : State → Prop} {Pz : Sk} (l : Launch) (hl : l.stackTraces = false) (G : Gl) (sz Ln : Nat) (xs : Nat → Int32) (o : Okk p s m args meth c cL_law RL 9 G (frA Pz sz)) (hT : TH (frA Pz sz) s s.heap) (hX : va_X b Ln xs s s.heap) (hbl : b < s.heap.size) (hbA : ¬ frA Pz sz b) (hLn : Ln ≤ 2048) (hsz : s.heap.size = sz) (L : Sk → St → Int32 → Prop) (μ : Int32 → Nat) (P : Sk) (f : St) (x4 : Int32) (hx : IsComp P (sz + 0)) (hm : IsModel P (sz + 1438)) (ho : Ob P (sz + 1449) 10 ∧ sN P (sz + 1449) = 1) (hx4 : x4.toNatClampNeg ≤ 2048) (h : fL_16 sz Ln xs L μ P f x4) {n : Nat} (ih : ∀ (P : Sk) (f : St) (x4 : Int32), L P f x4 → μ x4 < n → V p l e room_1 s m args below meth c 9 G (frA Pz sz) Q (1450 + 4 * x4.toNatClampNeg) (13000 + 24 * x4.toNatClampNeg) P [(0, .ref b), (1, .ref (sz + 0)), (2, .ref (sz + 1438)), (3, .ref (sz + 1449)), (4, .int x4)] [] 23 f) (hn : μ x4 ≤ n) : V p l e room_1 s m args below meth c 9 G (frA Pz sz) Q (1450 + 4 * x4.toNatClampNeg) (13000 + 24 * x4.toNatClampNeg) P [(0, .ref b), (1, .ref (sz + 0)), (2, .ref (sz + 1438)), (3, .ref (sz + 1449)), (4, .int x4)] [] 1011 f := by
  unfold fL_16 at h
  refine v_aload_n o 1 dL_law_1011 rfl ?_
  refine v_aload_n o 0 dL_law_1012 rfl ?_
  refine v_iload o 4 dL_law_1013 rfl ?_
  refine v_iconst o (v := 1) dL_law_1015 (by decide) ?_
  refine v_iadd o dL_law_1016 ?_
  refine v_sld o hX hbl hbA h.1 dL_law_1017 ?_
  replace h := h.2
  refine v_aload_n o 0 dL_law_1018 rfl ?_
  refine v_iload o 4 dL_law_1019 rfl ?_
  refine v_iconst o (v := 2) dL_law_1021 (by decide) ?_
  refine v_iadd o dL_law_1022 ?_
  refine v_sld o hX hbl hbA h.1 dL_law_1023 ?_
  replace h := h.2
  refine v_aload_n o 3 dL_law_1024 rfl ?_
  refine v_cSw o hT [.ref (sz + 0), .int (xs (x4 + 1).toNatClampNeg), .int (xs (x4 + 2).toNatClampNeg), .ref (sz + 1449)] [] (fun z => metL_loaf l hl G P f z (sz + 0) (xs (x4 + 1).toNatClampNeg) (xs (x4 + 2).toNatClampNeg) (sz + 1449) hx ho _ h) (cq146 o.1.2.2.2.2 (by decide)) rfl (Nat.le_of_ble_eq_true rfl) ⟨by show _ ≤ 616677; omega, by show _ ≤ 7246074; omega⟩ dL_law_1025 rfl (fun r1025 j1025 g1025 h => ?_)
  have hx1025 := isComp_J (b := (sz + 1449)) (v := j1025) hx
  have hm1025 := isModel_J (b := (sz + 1449)) (v := j1025) hm
  have ho1025 : Ob (setJO P (sz + 1449) j1025) (sz + 1449) 10 ∧ sN (setJO P (sz + 1449) j1025) (sz + 1449) = 1 := ho
  refine v_istore o (lv' := [(5, .int r1025), (0, .ref b), (1, .ref (sz + 0)), (2, .ref (sz + 1438)), (3, .ref (sz + 1449)), (4, .int x4)]) dL_law_1028 (by decide) rfl ?_
  refine v_aload_n o 3 dL_law_1030 rfl ?_
  refine v_aload_n o 1 dL_law_1031 rfl ?_
  refine v_iload o 5 dL_law_1032 rfl ?_
  refine v_iconst o (v := 1) dL_law_1034 (by decide) ?_
  refine v_iadd o dL_law_1035 ?_
  refine v_sld o hX hbl hbA h.1 dL_law_1036 ?_
  replace h := h.2
  refine v_aload_n o 1 dL_law_1037 rfl ?_
  refine v_iload o 5 dL_law_1038 rfl ?_
  refine v_iconst o (v := 2) dL_law_1040 (by decide) ?_
  refine v_iadd o dL_law_1041 ?_
  refine v_sld o hX hbl hbA h.1 dL_law_1042 ?_
  replace h := h.2
  refine v_cVi o [.int (xs (x4 + 1).toNatClampNeg), .int (xs (x4 + 2).toNatClampNeg)] [] (fun z => metX8_loaf l G (setJO P (sz + 1449) j1025) g1025 z (sz + 1438) hm1025 (xs (x4 + 1).toNatClampNeg) (xs (x4 + 2).toNatClampNeg) _ h) (cwL_148 o.1.2.2.2.2 (by decide)) ⟨_, _, rfl⟩ (by decide) (wfModel_o hm1025) rfl (Nat.le_of_ble_eq_true rfl) ⟨by show _ ≤ 616677; omega, by show _ ≤ 7246074; omega⟩ dL_law_1043 rfl (fun r1043 g1043 h => ?_)
  refine v_istore o (lv' := [(6, .int r1043), (5, .int r1025), (0, .ref b), (1, .ref (sz + 0)), (2, .ref (sz + 1438)), (3, .ref (sz + 1449)), (4, .int x4)]) dL_law_1046 (by decide) rfl ?_
  refine v_aload_n o 4 dL_law_1048 rfl ?_
  refine v_cVi o [] [] (fun z => metX8_thrown l G (setJO P (sz + 1449) j1025) g1043 z (sz + 1438) hm1025 _ h) (cwL_90 o.1.2.2.2.2 (by decide)) ⟨_, _, rfl⟩ (by decide) (wfModel_o hm1025) rfl (Nat.le_of_ble_eq_true rfl) ⟨by show _ ≤ 616677; omega, by show _ ≤ 7246074; omega⟩ dL_law_1049 rfl (fun r1049 g1049 h => ?_)
  refine v_iload o 1 dL_law_1052 rfl ?_
  refine v_icmp_eq o (tgt := 1059) dL_law_1054 (by decide) (fun c1054 => ?_) (fun c1054 => ?_)
  · replace h := h.1 c1054
    refine v_iload o 1 dL_law_1059 rfl ?_
    refine v_if_ne o (tgt := 1076) dL_law_1061 (by decide) (fun c1061 => ?_) (fun c1061 => ?_)
    · replace h := h.1 c1061
      refine v_goto o (tgt := 1546) dL_law_1076 (by decide) ?_
      obtain ⟨x4_1546, ex4_1546⟩ : ∃ y : Int32, y = x4 + 4 := ⟨_, rfl⟩
      replace h := h x4_1546 ex4_1546
      refine v_iinc o (v := x4_1546) (lv' := [(4, .int x4_1546), (6, .int r1043), (5, .int r1025), (0, .ref b), (1, .ref (sz + 0)), (2, .ref (sz + 1438)), (3, .ref (sz + 1449))]) 6 dL_law_1546 rfl (by rw [ex4_1546]; rfl) (by decide) rfl ?_
      refine v_goto o (tgt := 23) dL_law_1549 (by decide) ?_
      refine v_sub [3, 4, 5, 6, 0] (lv2 := [(0, .ref b), (1, .ref (sz + 0)), (2, .ref (sz + 1438)), (3, .ref (sz + 1449)), (4, .int x4_1546)]) rfl ?_
      refine v_widen (k := 1450 + 4 * x4_1546.toNatClampNeg) (n := 13000 + 24 * x4_1546.toNatClampNeg) (by have := h.2.1; omega) (by have := h.2.1; omega) ?_
      exact ih (setJO P (sz + 1449) j1025) g1049 x4_1546 h.1 (by have := h.2.2; omega)
    · replace h := h.2 c1061
      refine v_aload_n o 5 dL_law_1064 rfl ?_
      refine v_iconst o (v := 0) dL_law_1065 (by decide) ?_
      refine v_lald o ho1025.1 ho1025.2 (by unfold vp_in; decide) dL_law_1066 ?_
      refine v_iload o 0 dL_law_1067 rfl ?_
      refine v_i2l o dL_law_1069 ?_
      refine v_lcmp o dL_law_1070 ?_
      refine v_if_eq o (tgt := 1076) dL_law_1071 (by decide) (fun c1071 => ?_) (fun c1071 => ?_)
      · replace h := h.1 c1071
        refine v_goto o (tgt := 1546) dL_law_1076 (by decide) ?_
        obtain ⟨x4_1546, ex4_1546⟩ : ∃ y : Int32, y = x4 + 4 := ⟨_, rfl⟩
        replace h := h x4_1546 ex4_1546
        refine v_iinc o (v := x4_1546) (lv' := [(4, .int x4_1546), (6, .int r1043), (5, .int r1025), (0, .ref b), (1, .ref (sz + 0)), (2, .ref (sz + 1438)), (3, .ref (sz + 1449))]) 6 dL_law_1546 rfl (by rw [ex4_1546]; rfl) (by decide) rfl ?_
        refine v_goto o (tgt := 23) dL_law_1549 (by decide) ?_
        refine v_sub [3, 4, 5, 6, 0] (lv2 := [(0, .ref b), (1, .ref (sz + 0)), (2, .ref (sz + 1438)), (3, .ref (sz + 1449)), (4, .int x4_1546)]) rfl ?_
        refine v_widen (k := 1450 + 4 * x4_1546.toNatClampNeg) (n := 13000 + 24 * x4_1546.toNatClampNeg) (by have := h.2.1; omega) (by have := h.2.1; omega) ?_
        exact ih (setJO P (sz + 1449) j1025) g1049 x4_1546 h.1 (by have := h.2.2; omega)
      · replace h := h.2 c1071
        refine v_iconst o (v := 0) dL_law_1074 (by decide) ?_
        exact h.elim
  · replace h := h.2 c1054
    refine v_iconst o (v := 0) dL_law_1057 (by decide) ?_
    exact h.elim
set_option maxRecDepth 20000 in
set_option maxHeartbeats 4000000 in
theorem lawc_17 {p : Program} {e : Env} {s : State} {m : MethodId} {args : Array Value} {below : List Frame} {meth : Method} {c : Code} {b : Nat} {Q : State → Prop} {Pz : Sk} (l : Launch) (hl : l.stackTraces = false) (G : Gl) (sz Ln : Nat) (xs : Nat → Int32) (o : Okk p s m args meth c cL_law RL 9 G (frA Pz sz)) (hT : TH (frA Pz sz) s s.heap) (hX : va_X b Ln xs s s.heap) (hbl : b < s.heap.size) (hbA : ¬ frA Pz sz b) (hLn : Ln ≤ 2048) (hsz : s.heap.size = sz) (L : Sk → St → Int32 → Prop) (μ : Int32 → Nat) (P : Sk) (f : St) (x4 : Int32) (hx : IsComp P (sz + 0)) (hm : IsModel P (sz + 1438)) (ho : Ob P (sz + 1449) 10 ∧ sN P (sz + 1449) = 1) (hx4 : x4.toNatClampNeg ≤ 2048) (h : fL_17 sz Ln xs L μ P f x4) {n : Nat} (ih : ∀ (P : Sk) (f : St) (x4 : Int32), L P f x4 → μ x4 < n → V p l e room_1 s m args below meth c 9 G (frA Pz sz) Q (1450 + 4 * x4.toNatClampNeg) (13000 + 24 * x4.toNatClampNeg) P [(0, .ref b), (1, .ref (sz + 0)), (2, .ref (sz + 1438)), (3, .ref (sz + 1449)), (4, .int x4)] [] 23 f) (hn : μ x4 ≤ n) : V p l e room_1 s m args below meth c 9 G (frA Pz sz) Q (1450 + 4 * x4.toNatClampNeg) (13000 + 24 * x4.toNatClampNeg) P [(0, .ref b), (1, .ref (sz + 0)), (2, .ref (sz + 1438)), (3, .ref (sz + 1449)), (4, .int x4)] [] 1079 f := by
  unfold fL_17 at h
  refine v_aload_n o 1 dL_law_1079 rfl ?_
  refine v_aload_n o 0 dL_law_1080 rfl ?_
  refine v_iload o 4 dL_law_1081 rfl ?_
  refine v_iconst o (v := 1) dL_law_1083 (by decide) ?_
  refine v_iadd o dL_law_1084 ?_
  refine v_sld o hX hbl hbA h.1 dL_law_1085 ?_
  replace h := h.2
  refine v_aload_n o 0 dL_law_1086 rfl ?_
  refine v_iload o 4 dL_law_1087 rfl ?_
  refine v_iconst o (v := 2) dL_law_1089 (by decide) ?_
  refine v_iadd o dL_law_1090 ?_
  refine v_sld o hX hbl hbA h.1 dL_law_1091 ?_
  replace h := h.2
  refine v_aload_n o 3 dL_law_1092 rfl ?_
  refine v_cSw o hT [.ref (sz + 0), .int (xs (x4 + 1).toNatClampNeg), .int (xs (x4 + 2).toNatClampNeg), .ref (sz + 1449)] [] (fun z => metL_loose l hl G P f z (sz + 0) (xs (x4 + 1).toNatClampNeg) (xs (x4 + 2).toNatClampNeg) (sz + 1449) hx ho _ h) (cq149 o.1.2.2.2.2 (by decide)) rfl (Nat.le_of_ble_eq_true rfl) ⟨by show _ ≤ 616677; omega, by show _ ≤ 7246074; omega⟩ dL_law_1093 rfl (fun r1093 j1093 g1093 h => ?_)
  have hx1093 := isComp_J (b := (sz + 1449)) (v := j1093) hx
  have hm1093 := isModel_J (b := (sz + 1449)) (v := j1093) hm
  have ho1093 : Ob (setJO P (sz + 1449) j1093) (sz + 1449) 10 ∧ sN (setJO P (sz + 1449) j1093) (sz + 1449) = 1 := ho
  refine v_istore o (lv' := [(5, .int r1093), (0, .ref b), (1, .ref (sz + 0)), (2, .ref (sz + 1438)), (3, .ref (sz + 1449)), (4, .int x4)]) dL_law_1096 (by decide) rfl ?_
  refine v_aload_n o 3 dL_law_1098 rfl ?_
  refine v_aload_n o 1 dL_law_1099 rfl ?_
  refine v_iload o 5 dL_law_1100 rfl ?_
  refine v_iconst o (v := 1) dL_law_1102 (by decide) ?_
  refine v_iadd o dL_law_1103 ?_
  refine v_sld o hX hbl hbA h.1 dL_law_1104 ?_
  replace h := h.2
  refine v_aload_n o 1 dL_law_1105 rfl ?_
  refine v_iload o 5 dL_law_1106 rfl ?_
  refine v_iconst o (v := 2) dL_law_1108 (by decide) ?_
  refine v_iadd o dL_law_1109 ?_
  refine v_sld o hX hbl hbA h.1 dL_law_1110 ?_
  replace h := h.2
  refine v_cVi o [.int (xs (x4 + 1).toNatClampNeg), .int (xs (x4 + 2).toNatClampNeg)] [] (fun z => metX8_loose l G (setJO P (sz + 1449) j1093) g1093 z (sz + 1438) hm1093 (xs (x4 + 1).toNatClampNeg) (xs (x4 + 2).toNatClampNeg) _ h) (cwL_151 o.1.2.2.2.2 (by decide)) ⟨_, _, rfl⟩ (by decide) (wfModel_o hm1093) rfl (Nat.le_of_ble_eq_true rfl) ⟨by show _ ≤ 616677; omega, by show _ ≤ 7246074; omega⟩ dL_law_1111 rfl (fun r1111 g1111 h => ?_)
  refine v_istore o (lv' := [(6, .int r1111), (5, .int r1093), (0, .ref b), (1, .ref (sz + 0)), (2, .ref (sz + 1438)), (3, .ref (sz + 1449)), (4, .int x4)]) dL_law_1114 (by decide) rfl ?_
  refine v_aload_n o 4 dL_law_1116 rfl ?_
  refine v_cVi o [] [] (fun z => metX8_thrown l G (setJO P (sz + 1449) j1093) g1111 z (sz + 1438) hm1093 _ h) (cwL_90 o.1.2.2.2.2 (by decide)) ⟨_, _, rfl⟩ (by decide) (wfModel_o hm1093) rfl (Nat.le_of_ble_eq_true rfl) ⟨by show _ ≤ 616677; omega, by show _ ≤ 7246074; omega⟩ dL_law_1117 rfl (fun r1117 g1117 h => ?_)
  refine v_iload o 1 dL_law_1120 rfl ?_
  refine v_icmp_eq o (tgt := 1127) dL_law_1122 (by decide) (fun c1122 => ?_) (fun c1122 => ?_)
  · replace h := h.1 c1122
    refine v_iload o 1 dL_law_1127 rfl ?_
    refine v_if_ne o (tgt := 1144) dL_law_1129 (by decide) (fun c1129 => ?_) (fun c1129 => ?_)
    · replace h := h.1 c1129
      refine v_goto o (tgt := 1546) dL_law_1144 (by decide) ?_
      obtain ⟨x4_1546, ex4_1546⟩ : ∃ y : Int32, y = x4 + 4 := ⟨_, rfl⟩
      replace h := h x4_1546 ex4_1546
      refine v_iinc o (v := x4_1546) (lv' := [(4, .int x4_1546), (6, .int r1111), (5, .int r1093), (0, .ref b), (1, .ref (sz + 0)), (2, .ref (sz + 1438)), (3, .ref (sz + 1449))]) 6 dL_law_1546 rfl (by rw [ex4_1546]; rfl) (by decide) rfl ?_
      refine v_goto o (tgt := 23) dL_law_1549 (by decide) ?_
      refine v_sub [3, 4, 5, 6, 0] (lv2 := [(0, .ref b), (1, .ref (sz + 0)), (2, .ref (sz + 1438)), (3, .ref (sz + 1449)), (4, .int x4_1546)]) rfl ?_
      refine v_widen (k := 1450 + 4 * x4_1546.toNatClampNeg) (n := 13000 + 24 * x4_1546.toNatClampNeg) (by have := h.2.1; omega) (by have := h.2.1; omega) ?_
      exact ih (setJO P (sz + 1449) j1093) g1117 x4_1546 h.1 (by have := h.2.2; omega)
    · replace h := h.2 c1129
      refine v_aload_n o 5 dL_law_1132 rfl ?_
      refine v_iconst o (v := 0) dL_law_1133 (by decide) ?_
      refine v_lald o ho1093.1 ho1093.2 (by unfold vp_in; decide) dL_law_1134 ?_
      refine v_iload o 0 dL_law_1135 rfl ?_
      refine v_i2l o dL_law_1137 ?_
      refine v_lcmp o dL_law_1138 ?_
      refine v_if_eq o (tgt := 1144) dL_law_1139 (by decide) (fun c1139 => ?_) (fun c1139 => ?_)
      · replace h := h.1 c1139
        refine v_goto o (tgt := 1546) dL_law_1144 (by decide) ?_
        obtain ⟨x4_1546, ex4_1546⟩ : ∃ y : Int32, y = x4 + 4 := ⟨_, rfl⟩
        replace h := h x4_1546 ex4_1546
        refine v_iinc o (v := x4_1546) (lv' := [(4, .int x4_1546), (6, .int r1111), (5, .int r1093), (0, .ref b), (1, .ref (sz + 0)), (2, .ref (sz + 1438)), (3, .ref (sz + 1449))]) 6 dL_law_1546 rfl (by rw [ex4_1546]; rfl) (by decide) rfl ?_
        refine v_goto o (tgt := 23) dL_law_1549 (by decide) ?_
        refine v_sub [3, 4, 5, 6, 0] (lv2 := [(0, .ref b), (1, .ref (sz + 0)), (2, .ref (sz + 1438)), (3, .ref (sz + 1449)), (4, .int x4_1546)]) rfl ?_
        refine v_widen (k := 1450 + 4 * x4_1546.toNatClampNeg) (n := 13000 + 24 * x4_1546.toNatClampNeg) (by have := h.2.1; omega) (by have := h.2.1; omega) ?_
        exact ih (setJO P (sz + 1449) j1093) g1117 x4_1546 h.1 (by have := h.2.2; omega)
      · replace h := h.2 c1139
        refine v_iconst o (v := 0) dL_law_1142 (by decide) ?_
        exact h.elim
  · replace h := h.2 c1122
    refine v_iconst o (v := 0) dL_law_1125 (by decide) ?_
    exact h.elim
set_option maxRecDepth 20000 in
set_option maxHeartbeats 4000000 in
theorem lawc_18 {p : Program} {e : Env} {s : State} {m : MethodId} {args : Array Value} {below : List Frame} {meth : Method} {c : Code} {b : Nat} {Q : State → Prop} {Pz : Sk} (l : Launch) (hl : l.stackTraces = false) (G : Gl) (sz Ln : Nat) (xs : Nat → Int32) (o : Okk p s m args meth c cL_law RL 9 G (frA Pz sz)) (hT : TH (frA Pz sz) s s.heap) (hX : va_X b Ln xs s s.heap) (hbl : b < s.heap.size) (hbA : ¬ frA Pz sz b) (hLn : Ln ≤ 2048) (hsz : s.heap.size = sz) (L : Sk → St → Int32 → Prop) (μ : Int32 → Nat) (P : Sk) (f : St) (x4 : Int32) (hx : IsComp P (sz + 0)) (hm : IsModel P (sz + 1438)) (ho : Ob P (sz + 1449) 10 ∧ sN P (sz + 1449) = 1) (hx4 : x4.toNatClampNeg ≤ 2048) (h : fL_18 sz Ln xs L μ P f x4) {n : Nat} (ih : ∀ (P : Sk) (f : St) (x4 : Int32), L P f x4 → μ x4 < n → V p l e room_1 s m args below meth c 9 G (frA Pz sz) Q (1450 + 4 * x4.toNatClampNeg) (13000 + 24 * x4.toNatClampNeg) P [(0, .ref b), (1, .ref (sz + 0)), (2, .ref (sz + 1438)), (3, .ref (sz + 1449)), (4, .int x4)] [] 23 f) (hn : μ x4 ≤ n) : V p l e room_1 s m args below meth c 9 G (frA Pz sz) Q (1450 + 4 * x4.toNatClampNeg) (13000 + 24 * x4.toNatClampNeg) P [(0, .ref b), (1, .ref (sz + 0)), (2, .ref (sz + 1438)), (3, .ref (sz + 1449)), (4, .int x4)] [] 1147 f := by
  unfold fL_18 at h
  refine v_aload_n o 1 dL_law_1147 rfl ?_
  refine v_aload_n o 0 dL_law_1148 rfl ?_
  refine v_iload o 4 dL_law_1149 rfl ?_
  refine v_iconst o (v := 1) dL_law_1151 (by decide) ?_
  refine v_iadd o dL_law_1152 ?_
  refine v_sld o hX hbl hbA h.1 dL_law_1153 ?_
  replace h := h.2
  refine v_aload_n o 3 dL_law_1154 rfl ?_
  refine v_cSw o hT [.ref (sz + 0), .int (xs (x4 + 1).toNatClampNeg), .ref (sz + 1449)] [] (fun z => metL_count l hl G P f z (sz + 0) (xs (x4 + 1).toNatClampNeg) (sz + 1449) hx ho _ h) (cq152 o.1.2.2.2.2 (by decide)) rfl (Nat.le_of_ble_eq_true rfl) ⟨by show _ ≤ 616677; omega, by show _ ≤ 7246074; omega⟩ dL_law_1155 rfl (fun r1155 j1155 g1155 h => ?_)
  have hx1155 := isComp_J (b := (sz + 1449)) (v := j1155) hx
  have hm1155 := isModel_J (b := (sz + 1449)) (v := j1155) hm
  have ho1155 : Ob (setJO P (sz + 1449) j1155) (sz + 1449) 10 ∧ sN (setJO P (sz + 1449) j1155) (sz + 1449) = 1 := ho
  refine v_istore o (lv' := [(5, .int r1155), (0, .ref b), (1, .ref (sz + 0)), (2, .ref (sz + 1438)), (3, .ref (sz + 1449)), (4, .int x4)]) dL_law_1158 (by decide) rfl ?_
  refine v_aload_n o 3 dL_law_1160 rfl ?_
  refine v_aload_n o 1 dL_law_1161 rfl ?_
  refine v_iload o 5 dL_law_1162 rfl ?_
  refine v_iconst o (v := 1) dL_law_1164 (by decide) ?_
  refine v_iadd o dL_law_1165 ?_
  refine v_sld o hX hbl hbA h.1 dL_law_1166 ?_
  replace h := h.2
  refine v_cVi o [.int (xs (x4 + 1).toNatClampNeg)] [] (fun z => metX8_count l G (setJO P (sz + 1449) j1155) g1155 z (sz + 1438) hm1155 (xs (x4 + 1).toNatClampNeg) _ h) (cwL_154 o.1.2.2.2.2 (by decide)) ⟨_, _, rfl⟩ (by decide) (wfModel_o hm1155) rfl (Nat.le_of_ble_eq_true rfl) ⟨by show _ ≤ 616677; omega, by show _ ≤ 7246074; omega⟩ dL_law_1167 rfl (fun r1167 g1167 h => ?_)
  refine v_istore o (lv' := [(6, .int r1167), (5, .int r1155), (0, .ref b), (1, .ref (sz + 0)), (2, .ref (sz + 1438)), (3, .ref (sz + 1449)), (4, .int x4)]) dL_law_1170 (by decide) rfl ?_
  refine v_aload_n o 4 dL_law_1172 rfl ?_
  refine v_cVi o [] [] (fun z => metX8_thrown l G (setJO P (sz + 1449) j1155) g1167 z (sz + 1438) hm1155 _ h) (cwL_90 o.1.2.2.2.2 (by decide)) ⟨_, _, rfl⟩ (by decide) (wfModel_o hm1155) rfl (Nat.le_of_ble_eq_true rfl) ⟨by show _ ≤ 616677; omega, by show _ ≤ 7246074; omega⟩ dL_law_1173 rfl (fun r1173 g1173 h => ?_)
  refine v_iload o 1 dL_law_1176 rfl ?_
  refine v_icmp_eq o (tgt := 1183) dL_law_1178 (by decide) (fun c1178 => ?_) (fun c1178 => ?_)
  · replace h := h.1 c1178
    refine v_iload o 1 dL_law_1183 rfl ?_
    refine v_if_ne o (tgt := 1200) dL_law_1185 (by decide) (fun c1185 => ?_) (fun c1185 => ?_)
    · replace h := h.1 c1185
      refine v_goto o (tgt := 1546) dL_law_1200 (by decide) ?_
      obtain ⟨x4_1546, ex4_1546⟩ : ∃ y : Int32, y = x4 + 4 := ⟨_, rfl⟩
      replace h := h x4_1546 ex4_1546
      refine v_iinc o (v := x4_1546) (lv' := [(4, .int x4_1546), (6, .int r1167), (5, .int r1155), (0, .ref b), (1, .ref (sz + 0)), (2, .ref (sz + 1438)), (3, .ref (sz + 1449))]) 6 dL_law_1546 rfl (by rw [ex4_1546]; rfl) (by decide) rfl ?_
      refine v_goto o (tgt := 23) dL_law_1549 (by decide) ?_
      refine v_sub [3, 4, 5, 6, 0] (lv2 := [(0, .ref b), (1, .ref (sz + 0)), (2, .ref (sz + 1438)), (3, .ref (sz + 1449)), (4, .int x4_1546)]) rfl ?_
      refine v_widen (k := 1450 + 4 * x4_1546.toNatClampNeg) (n := 13000 + 24 * x4_1546.toNatClampNeg) (by have := h.2.1; omega) (by have := h.2.1; omega) ?_
      exact ih (setJO P (sz + 1449) j1155) g1173 x4_1546 h.1 (by have := h.2.2; omega)
    · replace h := h.2 c1185
      refine v_aload_n o 5 dL_law_1188 rfl ?_
      refine v_iconst o (v := 0) dL_law_1189 (by decide) ?_
      refine v_lald o ho1155.1 ho1155.2 (by unfold vp_in; decide) dL_law_1190 ?_
      refine v_iload o 0 dL_law_1191 rfl ?_
      refine v_i2l o dL_law_1193 ?_
      refine v_lcmp o dL_law_1194 ?_
      refine v_if_eq o (tgt := 1200) dL_law_1195 (by decide) (fun c1195 => ?_) (fun c1195 => ?_)
      · replace h := h.1 c1195
        refine v_goto o (tgt := 1546) dL_law_1200 (by decide) ?_
        obtain ⟨x4_1546, ex4_1546⟩ : ∃ y : Int32, y = x4 + 4 := ⟨_, rfl⟩
        replace h := h x4_1546 ex4_1546
        refine v_iinc o (v := x4_1546) (lv' := [(4, .int x4_1546), (6, .int r1167), (5, .int r1155), (0, .ref b), (1, .ref (sz + 0)), (2, .ref (sz + 1438)), (3, .ref (sz + 1449))]) 6 dL_law_1546 rfl (by rw [ex4_1546]; rfl) (by decide) rfl ?_
        refine v_goto o (tgt := 23) dL_law_1549 (by decide) ?_
        refine v_sub [3, 4, 5, 6, 0] (lv2 := [(0, .ref b), (1, .ref (sz + 0)), (2, .ref (sz + 1438)), (3, .ref (sz + 1449)), (4, .int x4_1546)]) rfl ?_
        refine v_widen (k := 1450 + 4 * x4_1546.toNatClampNeg) (n := 13000 + 24 * x4_1546.toNatClampNeg) (by have := h.2.1; omega) (by have := h.2.1; omega) ?_
        exact ih (setJO P (sz + 1449) j1155) g1173 x4_1546 h.1 (by have := h.2.2; omega)
      · replace h := h.2 c1195
        refine v_iconst o (v := 0) dL_law_1198 (by decide) ?_
        exact h.elim
  · replace h := h.2 c1178
    refine v_iconst o (v := 0) dL_law_1181 (by decide) ?_
    exact h.elim
set_option maxRecDepth 20000 in
set_option maxHeartbeats 4000000 in
theorem lawc_19 {p : Program} {e : Env} {s : State} {m : MethodId} {args : Array Value} {below : List Frame} {meth : Method} {c : Code} {b : Nat} {Q : State → Prop} {Pz : Sk} (l : Launch) (hl : l.stackTraces = false) (G : Gl) (sz Ln : Nat) (xs : Nat → Int32) (o : Okk p s m args meth c cL_law RL 9 G (frA Pz sz)) (hT : TH (frA Pz sz) s s.heap) (hX : va_X b Ln xs s s.heap) (hbl : b < s.heap.size) (hbA : ¬ frA Pz sz b) (hLn : Ln ≤ 2048) (hsz : s.heap.size = sz) (L : Sk → St → Int32 → Prop) (μ : Int32 → Nat) (P : Sk) (f : St) (x4 : Int32) (hx : IsComp P (sz + 0)) (hm : IsModel P (sz + 1438)) (ho : Ob P (sz + 1449) 10 ∧ sN P (sz + 1449) = 1) (hx4 : x4.toNatClampNeg ≤ 2048) (h : fL_19 sz Ln xs L μ P f x4) {n : Nat} (ih : ∀ (P : Sk) (f : St) (x4 : Int32), L P f x4 → μ x4 < n → V p l e room_1 s m args below meth c 9 G (frA Pz sz) Q (1450 + 4 * x4.toNatClampNeg) (13000 + 24 * x4.toNatClampNeg) P [(0, .ref b), (1, .ref (sz + 0)), (2, .ref (sz + 1438)), (3, .ref (sz + 1449)), (4, .int x4)] [] 23 f) (hn : μ x4 ≤ n) : V p l e room_1 s m args below meth c 9 G (frA Pz sz) Q (1450 + 4 * x4.toNatClampNeg) (13000 + 24 * x4.toNatClampNeg) P [(0, .ref b), (1, .ref (sz + 0)), (2, .ref (sz + 1438)), (3, .ref (sz + 1449)), (4, .int x4)] [] 1203 f := by
  unfold fL_19 at h
  refine v_aload_n o 1 dL_law_1203 rfl ?_
  refine v_aload_n o 0 dL_law_1204 rfl ?_
  refine v_iload o 4 dL_law_1205 rfl ?_
  refine v_iconst o (v := 1) dL_law_1207 (by decide) ?_
  refine v_iadd o dL_law_1208 ?_
  refine v_sld o hX hbl hbA h.1 dL_law_1209 ?_
  replace h := h.2
  refine v_aload_n o 0 dL_law_1210 rfl ?_
  refine v_iload o 4 dL_law_1211 rfl ?_
  refine v_iconst o (v := 2) dL_law_1213 (by decide) ?_
  refine v_iadd o dL_law_1214 ?_
  refine v_sld o hX hbl hbA h.1 dL_law_1215 ?_
  replace h := h.2
  refine v_aload_n o 0 dL_law_1216 rfl ?_
  refine v_iload o 4 dL_law_1217 rfl ?_
  refine v_iconst o (v := 3) dL_law_1219 (by decide) ?_
  refine v_iadd o dL_law_1220 ?_
  refine v_sld o hX hbl hbA h.1 dL_law_1221 ?_
  replace h := h.2
  refine v_if_eq o (tgt := 1229) dL_law_1222 (by decide) (fun c1222 => ?_) (fun c1222 => ?_)
  · replace h := h.1 c1222
    refine v_iconst o (v := 0) dL_law_1229 (by decide) ?_
    refine v_aload_n o 3 dL_law_1230 rfl ?_
    refine v_cSw o hT [.ref (sz + 0), .int (xs (x4 + 1).toNatClampNeg), .int (xs (x4 + 2).toNatClampNeg), .int 0, .ref (sz + 1449)] [] (fun z => metL_whyNot l hl G P f z (sz + 0) (xs (x4 + 1).toNatClampNeg) (xs (x4 + 2).toNatClampNeg) 0 (sz + 1449) hx ho _ h) (cq155 o.1.2.2.2.2 (by decide)) rfl (Nat.le_of_ble_eq_true rfl) ⟨by show _ ≤ 616677; omega, by show _ ≤ 7246074; omega⟩ dL_law_1231 rfl (fun r1231 j1231 g1231 h => ?_)
    have hx1231 := isComp_J (b := (sz + 1449)) (v := j1231) hx
    have hm1231 := isModel_J (b := (sz + 1449)) (v := j1231) hm
    have ho1231 : Ob (setJO P (sz + 1449) j1231) (sz + 1449) 10 ∧ sN (setJO P (sz + 1449) j1231) (sz + 1449) = 1 := ho
    refine v_istore o (lv' := [(5, .int r1231), (0, .ref b), (1, .ref (sz + 0)), (2, .ref (sz + 1438)), (3, .ref (sz + 1449)), (4, .int x4)]) dL_law_1234 (by decide) rfl ?_
    refine v_aload_n o 3 dL_law_1236 rfl ?_
    refine v_aload_n o 1 dL_law_1237 rfl ?_
    refine v_iload o 5 dL_law_1238 rfl ?_
    refine v_iconst o (v := 1) dL_law_1240 (by decide) ?_
    refine v_iadd o dL_law_1241 ?_
    refine v_sld o hX hbl hbA h.1 dL_law_1242 ?_
    replace h := h.2
    refine v_aload_n o 1 dL_law_1243 rfl ?_
    refine v_iload o 5 dL_law_1244 rfl ?_
    refine v_iconst o (v := 2) dL_law_1246 (by decide) ?_
    refine v_iadd o dL_law_1247 ?_
    refine v_sld o hX hbl hbA h.1 dL_law_1248 ?_
    replace h := h.2
    refine v_aload_n o 1 dL_law_1249 rfl ?_
    refine v_iload o 5 dL_law_1250 rfl ?_
    refine v_iconst o (v := 3) dL_law_1252 (by decide) ?_
    refine v_iadd o dL_law_1253 ?_
    refine v_sld o hX hbl hbA h.1 dL_law_1254 ?_
    replace h := h.2
    refine v_if_eq o (tgt := 1262) dL_law_1255 (by decide) (fun c1255 => ?_) (fun c1255 => ?_)
    · replace h := h.1 c1255
      refine v_iconst o (v := 0) dL_law_1262 (by decide) ?_
      refine v_cVi o [.int (xs (x4 + 1).toNatClampNeg), .int (xs (x4 + 2).toNatClampNeg), .int 0] [] (fun z => metX8_whyNot l G (setJO P (sz + 1449) j1231) g1231 z (sz + 1438) hm1231 (xs (x4 + 1).toNatClampNeg) (xs (x4 + 2).toNatClampNeg) 0 _ h) (cwL_157 o.1.2.2.2.2 (by decide)) ⟨_, _, rfl⟩ (by decide) (wfModel_o hm1231) rfl (Nat.le_of_ble_eq_true rfl) ⟨by show _ ≤ 616677; omega, by show _ ≤ 7246074; omega⟩ dL_law_1263 rfl (fun r1263 g1263 h => ?_)
      refine v_istore o (lv' := [(6, .int r1263), (5, .int r1231), (0, .ref b), (1, .ref (sz + 0)), (2, .ref (sz + 1438)), (3, .ref (sz + 1449)), (4, .int x4)]) dL_law_1266 (by decide) rfl ?_
      refine v_aload_n o 4 dL_law_1268 rfl ?_
      refine v_cVi o [] [] (fun z => metX8_thrown l G (setJO P (sz + 1449) j1231) g1263 z (sz + 1438) hm1231 _ h) (cwL_90 o.1.2.2.2.2 (by decide)) ⟨_, _, rfl⟩ (by decide) (wfModel_o hm1231) rfl (Nat.le_of_ble_eq_true rfl) ⟨by show _ ≤ 616677; omega, by show _ ≤ 7246074; omega⟩ dL_law_1269 rfl (fun r1269 g1269 h => ?_)
      refine v_iload o 1 dL_law_1272 rfl ?_
      refine v_icmp_eq o (tgt := 1279) dL_law_1274 (by decide) (fun c1274 => ?_) (fun c1274 => ?_)
      · replace h := h.1 c1274
        refine v_iload o 1 dL_law_1279 rfl ?_
        refine v_if_ne o (tgt := 1296) dL_law_1281 (by decide) (fun c1281 => ?_) (fun c1281 => ?_)
        · replace h := h.1 c1281
          refine v_goto o (tgt := 1546) dL_law_1296 (by decide) ?_
          obtain ⟨x4_1546, ex4_1546⟩ : ∃ y : Int32, y = x4 + 4 := ⟨_, rfl⟩
          replace h := h x4_1546 ex4_1546
          refine v_iinc o (v := x4_1546) (lv' := [(4, .int x4_1546), (6, .int r1263), (5, .int r1231), (0, .ref b), (1, .ref (sz + 0)), (2, .ref (sz + 1438)), (3, .ref (sz + 1449))]) 6 dL_law_1546 rfl (by rw [ex4_1546]; rfl) (by decide) rfl ?_
          refine v_goto o (tgt := 23) dL_law_1549 (by decide) ?_
          refine v_sub [3, 4, 5, 6, 0] (lv2 := [(0, .ref b), (1, .ref (sz + 0)), (2, .ref (sz + 1438)), (3, .ref (sz + 1449)), (4, .int x4_1546)]) rfl ?_
          refine v_widen (k := 1450 + 4 * x4_1546.toNatClampNeg) (n := 13000 + 24 * x4_1546.toNatClampNeg) (by have := h.2.1; omega) (by have := h.2.1; omega) ?_
          exact ih (setJO P (sz + 1449) j1231) g1269 x4_1546 h.1 (by have := h.2.2; omega)
        · replace h := h.2 c1281
          refine v_aload_n o 5 dL_law_1284 rfl ?_
          refine v_iconst o (v := 0) dL_law_1285 (by decide) ?_
          refine v_lald o ho1231.1 ho1231.2 (by unfold vp_in; decide) dL_law_1286 ?_
          refine v_iload o 0 dL_law_1287 rfl ?_
          refine v_i2l o dL_law_1289 ?_
          refine v_lcmp o dL_law_1290 ?_
          refine v_if_eq o (tgt := 1296) dL_law_1291 (by decide) (fun c1291 => ?_) (fun c1291 => ?_)
          · replace h := h.1 c1291
            refine v_goto o (tgt := 1546) dL_law_1296 (by decide) ?_
            obtain ⟨x4_1546, ex4_1546⟩ : ∃ y : Int32, y = x4 + 4 := ⟨_, rfl⟩
            replace h := h x4_1546 ex4_1546
            refine v_iinc o (v := x4_1546) (lv' := [(4, .int x4_1546), (6, .int r1263), (5, .int r1231), (0, .ref b), (1, .ref (sz + 0)), (2, .ref (sz + 1438)), (3, .ref (sz + 1449))]) 6 dL_law_1546 rfl (by rw [ex4_1546]; rfl) (by decide) rfl ?_
            refine v_goto o (tgt := 23) dL_law_1549 (by decide) ?_
            refine v_sub [3, 4, 5, 6, 0] (lv2 := [(0, .ref b), (1, .ref (sz + 0)), (2, .ref (sz + 1438)), (3, .ref (sz + 1449)), (4, .int x4_1546)]) rfl ?_
            refine v_widen (k := 1450 + 4 * x4_1546.toNatClampNeg) (n := 13000 + 24 * x4_1546.toNatClampNeg) (by have := h.2.1; omega) (by have := h.2.1; omega) ?_
            exact ih (setJO P (sz + 1449) j1231) g1269 x4_1546 h.1 (by have := h.2.2; omega)
          · replace h := h.2 c1291
            refine v_iconst o (v := 0) dL_law_1294 (by decide) ?_
            exact h.elim
      · replace h := h.2 c1274
        refine v_iconst o (v := 0) dL_law_1277 (by decide) ?_
        exact h.elim
    · replace h := h.2 c1255
      refine v_iconst o (v := 1) dL_law_1258 (by decide) ?_
      refine v_goto o (tgt := 1263) dL_law_1259 (by decide) ?_
      refine v_cVi o [.int (xs (x4 + 1).toNatClampNeg), .int (xs (x4 + 2).toNatClampNeg), .int 1] [] (fun z => metX8_whyNot l G (setJO P (sz + 1449) j1231) g1231 z (sz + 1438) hm1231 (xs (x4 + 1).toNatClampNeg) (xs (x4 + 2).toNatClampNeg) 1 _ h) (cwL_157 o.1.2.2.2.2 (by decide)) ⟨_, _, rfl⟩ (by decide) (wfModel_o hm1231) rfl (Nat.le_of_ble_eq_true rfl) ⟨by show _ ≤ 616677; omega, by show _ ≤ 7246074; omega⟩ dL_law_1263 rfl (fun r1263 g1263 h => ?_)
      refine v_istore o (lv' := [(6, .int r1263), (5, .int r1231), (0, .ref b), (1, .ref (sz + 0)), (2, .ref (sz + 1438)), (3, .ref (sz + 1449)), (4, .int x4)]) dL_law_1266 (by decide) rfl ?_
      refine v_aload_n o 4 dL_law_1268 rfl ?_
      refine v_cVi o [] [] (fun z => metX8_thrown l G (setJO P (sz + 1449) j1231) g1263 z (sz + 1438) hm1231 _ h) (cwL_90 o.1.2.2.2.2 (by decide)) ⟨_, _, rfl⟩ (by decide) (wfModel_o hm1231) rfl (Nat.le_of_ble_eq_true rfl) ⟨by show _ ≤ 616677; omega, by show _ ≤ 7246074; omega⟩ dL_law_1269 rfl (fun r1269 g1269 h => ?_)
      refine v_iload o 1 dL_law_1272 rfl ?_
      refine v_icmp_eq o (tgt := 1279) dL_law_1274 (by decide) (fun c1274 => ?_) (fun c1274 => ?_)
      · replace h := h.1 c1274
        refine v_iload o 1 dL_law_1279 rfl ?_
        refine v_if_ne o (tgt := 1296) dL_law_1281 (by decide) (fun c1281 => ?_) (fun c1281 => ?_)
        · replace h := h.1 c1281
          refine v_goto o (tgt := 1546) dL_law_1296 (by decide) ?_
          obtain ⟨x4_1546, ex4_1546⟩ : ∃ y : Int32, y = x4 + 4 := ⟨_, rfl⟩
          replace h := h x4_1546 ex4_1546
          refine v_iinc o (v := x4_1546) (lv' := [(4, .int x4_1546), (6, .int r1263), (5, .int r1231), (0, .ref b), (1, .ref (sz + 0)), (2, .ref (sz + 1438)), (3, .ref (sz + 1449))]) 6 dL_law_1546 rfl (by rw [ex4_1546]; rfl) (by decide) rfl ?_
          refine v_goto o (tgt := 23) dL_law_1549 (by decide) ?_
          refine v_sub [3, 4, 5, 6, 0] (lv2 := [(0, .ref b), (1, .ref (sz + 0)), (2, .ref (sz + 1438)), (3, .ref (sz + 1449)), (4, .int x4_1546)]) rfl ?_
          refine v_widen (k := 1450 + 4 * x4_1546.toNatClampNeg) (n := 13000 + 24 * x4_1546.toNatClampNeg) (by have := h.2.1; omega) (by have := h.2.1; omega) ?_
          exact ih (setJO P (sz + 1449) j1231) g1269 x4_1546 h.1 (by have := h.2.2; omega)
        · replace h := h.2 c1281
          refine v_aload_n o 5 dL_law_1284 rfl ?_
          refine v_iconst o (v := 0) dL_law_1285 (by decide) ?_
          refine v_lald o ho1231.1 ho1231.2 (by unfold vp_in; decide) dL_law_1286 ?_
          refine v_iload o 0 dL_law_1287 rfl ?_
          refine v_i2l o dL_law_1289 ?_
          refine v_lcmp o dL_law_1290 ?_
          refine v_if_eq o (tgt := 1296) dL_law_1291 (by decide) (fun c1291 => ?_) (fun c1291 => ?_)
          · replace h := h.1 c1291
            refine v_goto o (tgt := 1546) dL_law_1296 (by decide) ?_
            obtain ⟨x4_1546, ex4_1546⟩ : ∃ y : Int32, y = x4 + 4 := ⟨_, rfl⟩
            replace h := h x4_1546 ex4_1546
            refine v_iinc o (v := x4_1546) (lv' := [(4, .int x4_1546), (6, .int r1263), (5, .int r1231), (0, .ref b), (1, .ref (sz + 0)), (2, .ref (sz + 1438)), (3, .ref (sz + 1449))]) 6 dL_law_1546 rfl (by rw [ex4_1546]; rfl) (by decide) rfl ?_
            refine v_goto o (tgt := 23) dL_law_1549 (by decide) ?_
            refine v_sub [3, 4, 5, 6, 0] (lv2 := [(0, .ref b), (1, .ref (sz + 0)), (2, .ref (sz + 1438)), (3, .ref (sz + 1449)), (4, .int x4_1546)]) rfl ?_
            refine v_widen (k := 1450 + 4 * x4_1546.toNatClampNeg) (n := 13000 + 24 * x4_1546.toNatClampNeg) (by have := h.2.1; omega) (by have := h.2.1; omega) ?_
            exact ih (setJO P (sz + 1449) j1231) g1269 x4_1546 h.1 (by have := h.2.2; omega)
          · replace h := h.2 c1291
            refine v_iconst o (v := 0) dL_law_1294 (by decide) ?_
            exact h.elim
      · replace h := h.2 c1274
        refine v_iconst o (v := 0) dL_law_1277 (by decide) ?_
        exact h.elim
  · replace h := h.2 c1222
    refine v_iconst o (v := 1) dL_law_1225 (by decide) ?_
    refine v_goto o (tgt := 1230) dL_law_1226 (by decide) ?_
    refine v_aload_n o 3 dL_law_1230 rfl ?_
    refine v_cSw o hT [.ref (sz + 0), .int (xs (x4 + 1).toNatClampNeg), .int (xs (x4 + 2).toNatClampNeg), .int 1, .ref (sz + 1449)] [] (fun z => metL_whyNot l hl G P f z (sz + 0) (xs (x4 + 1).toNatClampNeg) (xs (x4 + 2).toNatClampNeg) 1 (sz + 1449) hx ho _ h) (cq155 o.1.2.2.2.2 (by decide)) rfl (Nat.le_of_ble_eq_true rfl) ⟨by show _ ≤ 616677; omega, by show _ ≤ 7246074; omega⟩ dL_law_1231 rfl (fun r1231 j1231 g1231 h => ?_)
    have hx1231 := isComp_J (b := (sz + 1449)) (v := j1231) hx
    have hm1231 := isModel_J (b := (sz + 1449)) (v := j1231) hm
    have ho1231 : Ob (setJO P (sz + 1449) j1231) (sz + 1449) 10 ∧ sN (setJO P (sz + 1449) j1231) (sz + 1449) = 1 := ho
    refine v_istore o (lv' := [(5, .int r1231), (0, .ref b), (1, .ref (sz + 0)), (2, .ref (sz + 1438)), (3, .ref (sz + 1449)), (4, .int x4)]) dL_law_1234 (by decide) rfl ?_
    refine v_aload_n o 3 dL_law_1236 rfl ?_
    refine v_aload_n o 1 dL_law_1237 rfl ?_
    refine v_iload o 5 dL_law_1238 rfl ?_
    refine v_iconst o (v := 1) dL_law_1240 (by decide) ?_
    refine v_iadd o dL_law_1241 ?_
    refine v_sld o hX hbl hbA h.1 dL_law_1242 ?_
    replace h := h.2
    refine v_aload_n o 1 dL_law_1243 rfl ?_
    refine v_iload o 5 dL_law_1244 rfl ?_
    refine v_iconst o (v := 2) dL_law_1246 (by decide) ?_
    refine v_iadd o dL_law_1247 ?_
    refine v_sld o hX hbl hbA h.1 dL_law_1248 ?_
    replace h := h.2
    refine v_aload_n o 1 dL_law_1249 rfl ?_
    refine v_iload o 5 dL_law_1250 rfl ?_
    refine v_iconst o (v := 3) dL_law_1252 (by decide) ?_
    refine v_iadd o dL_law_1253 ?_
    refine v_sld o hX hbl hbA h.1 dL_law_1254 ?_
    replace h := h.2
    refine v_if_eq o (tgt := 1262) dL_law_1255 (by decide) (fun c1255 => ?_) (fun c1255 => ?_)
    · replace h := h.1 c1255
      refine v_iconst o (v := 0) dL_law_1262 (by decide) ?_
      refine v_cVi o [.int (xs (x4 + 1).toNatClampNeg), .int (xs (x4 + 2).toNatClampNeg), .int 0] [] (fun z => metX8_whyNot l G (setJO P (sz + 1449) j1231) g1231 z (sz + 1438) hm1231 (xs (x4 + 1).toNatClampNeg) (xs (x4 + 2).toNatClampNeg) 0 _ h) (cwL_157 o.1.2.2.2.2 (by decide)) ⟨_, _, rfl⟩ (by decide) (wfModel_o hm1231) rfl (Nat.le_of_ble_eq_true rfl) ⟨by show _ ≤ 616677; omega, by show _ ≤ 7246074; omega⟩ dL_law_1263 rfl (fun r1263 g1263 h => ?_)
      refine v_istore o (lv' := [(6, .int r1263), (5, .int r1231), (0, .ref b), (1, .ref (sz + 0)), (2, .ref (sz + 1438)), (3, .ref (sz + 1449)), (4, .int x4)]) dL_law_1266 (by decide) rfl ?_
      refine v_aload_n o 4 dL_law_1268 rfl ?_
      refine v_cVi o [] [] (fun z => metX8_thrown l G (setJO P (sz + 1449) j1231) g1263 z (sz + 1438) hm1231 _ h) (cwL_90 o.1.2.2.2.2 (by decide)) ⟨_, _, rfl⟩ (by decide) (wfModel_o hm1231) rfl (Nat.le_of_ble_eq_true rfl) ⟨by show _ ≤ 616677; omega, by show _ ≤ 7246074; omega⟩ dL_law_1269 rfl (fun r1269 g1269 h => ?_)
      refine v_iload o 1 dL_law_1272 rfl ?_
      refine v_icmp_eq o (tgt := 1279) dL_law_1274 (by decide) (fun c1274 => ?_) (fun c1274 => ?_)
      · replace h := h.1 c1274
        refine v_iload o 1 dL_law_1279 rfl ?_
        refine v_if_ne o (tgt := 1296) dL_law_1281 (by decide) (fun c1281 => ?_) (fun c1281 => ?_)
        · replace h := h.1 c1281
          refine v_goto o (tgt := 1546) dL_law_1296 (by decide) ?_
          obtain ⟨x4_1546, ex4_1546⟩ : ∃ y : Int32, y = x4 + 4 := ⟨_, rfl⟩
          replace h := h x4_1546 ex4_1546
          refine v_iinc o (v := x4_1546) (lv' := [(4, .int x4_1546), (6, .int r1263), (5, .int r1231), (0, .ref b), (1, .ref (sz + 0)), (2, .ref (sz + 1438)), (3, .ref (sz + 1449))]) 6 dL_law_1546 rfl (by rw [ex4_1546]; rfl) (by decide) rfl ?_
          refine v_goto o (tgt := 23) dL_law_1549 (by decide) ?_
          refine v_sub [3, 4, 5, 6, 0] (lv2 := [(0, .ref b), (1, .ref (sz + 0)), (2, .ref (sz + 1438)), (3, .ref (sz + 1449)), (4, .int x4_1546)]) rfl ?_
          refine v_widen (k := 1450 + 4 * x4_1546.toNatClampNeg) (n := 13000 + 24 * x4_1546.toNatClampNeg) (by have := h.2.1; omega) (by have := h.2.1; omega) ?_
          exact ih (setJO P (sz + 1449) j1231) g1269 x4_1546 h.1 (by have := h.2.2; omega)
        · replace h := h.2 c1281
          refine v_aload_n o 5 dL_law_1284 rfl ?_
          refine v_iconst o (v := 0) dL_law_1285 (by decide) ?_
          refine v_lald o ho1231.1 ho1231.2 (by unfold vp_in; decide) dL_law_1286 ?_
          refine v_iload o 0 dL_law_1287 rfl ?_
          refine v_i2l o dL_law_1289 ?_
          refine v_lcmp o dL_law_1290 ?_
          refine v_if_eq o (tgt := 1296) dL_law_1291 (by decide) (fun c1291 => ?_) (fun c1291 => ?_)
          · replace h := h.1 c1291
            refine v_goto o (tgt := 1546) dL_law_1296 (by decide) ?_
            obtain ⟨x4_1546, ex4_1546⟩ : ∃ y : Int32, y = x4 + 4 := ⟨_, rfl⟩
            replace h := h x4_1546 ex4_1546
            refine v_iinc o (v := x4_1546) (lv' := [(4, .int x4_1546), (6, .int r1263), (5, .int r1231), (0, .ref b), (1, .ref (sz + 0)), (2, .ref (sz + 1438)), (3, .ref (sz + 1449))]) 6 dL_law_1546 rfl (by rw [ex4_1546]; rfl) (by decide) rfl ?_
            refine v_goto o (tgt := 23) dL_law_1549 (by decide) ?_
            refine v_sub [3, 4, 5, 6, 0] (lv2 := [(0, .ref b), (1, .ref (sz + 0)), (2, .ref (sz + 1438)), (3, .ref (sz + 1449)), (4, .int x4_1546)]) rfl ?_
            refine v_widen (k := 1450 + 4 * x4_1546.toNatClampNeg) (n := 13000 + 24 * x4_1546.toNatClampNeg) (by have := h.2.1; omega) (by have := h.2.1; omega) ?_
            exact ih (setJO P (sz + 1449) j1231) g1269 x4_1546 h.1 (by have := h.2.2; omega)
          · replace h := h.2 c1291
            refine v_iconst o (v := 0) dL_law_1294 (by decide) ?_
            exact h.elim
      · replace h := h.2 c1274
        refine v_iconst o (v := 0) dL_law_1277 (by decide) ?_
        exact h.elim
    · replace h := h.2 c1255
      refine v_iconst o (v := 1) dL_law_1258 (by decide) ?_
      refine v_goto o (tgt := 1263) dL_law_1259 (by decide) ?_
      refine v_cVi o [.int (xs (x4 + 1).toNatClampNeg), .int (xs (x4 + 2).toNatClampNeg), .int 1] [] (fun z => metX8_whyNot l G (setJO P (sz + 1449) j1231) g1231 z (sz + 1438) hm1231 (xs (x4 + 1).toNatClampNeg) (xs (x4 + 2).toNatClampNeg) 1 _ h) (cwL_157 o.1.2.2.2.2 (by decide)) ⟨_, _, rfl⟩ (by decide) (wfModel_o hm1231) rfl (Nat.le_of_ble_eq_true rfl) ⟨by show _ ≤ 616677; omega, by show _ ≤ 7246074; omega⟩ dL_law_1263 rfl (fun r1263 g1263 h => ?_)
      refine v_istore o (lv' := [(6, .int r1263), (5, .int r1231), (0, .ref b), (1, .ref (sz + 0)), (2, .ref (sz + 1438)), (3, .ref (sz + 1449)), (4, .int x4)]) dL_law_1266 (by decide) rfl ?_
      refine v_aload_n o 4 dL_law_1268 rfl ?_
      refine v_cVi o [] [] (fun z => metX8_thrown l G (setJO P (sz + 1449) j1231) g1263 z (sz + 1438) hm1231 _ h) (cwL_90 o.1.2.2.2.2 (by decide)) ⟨_, _, rfl⟩ (by decide) (wfModel_o hm1231) rfl (Nat.le_of_ble_eq_true rfl) ⟨by show _ ≤ 616677; omega, by show _ ≤ 7246074; omega⟩ dL_law_1269 rfl (fun r1269 g1269 h => ?_)
      refine v_iload o 1 dL_law_1272 rfl ?_
      refine v_icmp_eq o (tgt := 1279) dL_law_1274 (by decide) (fun c1274 => ?_) (fun c1274 => ?_)
      · replace h := h.1 c1274
        refine v_iload o 1 dL_law_1279 rfl ?_
        refine v_if_ne o (tgt := 1296) dL_law_1281 (by decide) (fun c1281 => ?_) (fun c1281 => ?_)
        · replace h := h.1 c1281
          refine v_goto o (tgt := 1546) dL_law_1296 (by decide) ?_
          obtain ⟨x4_1546, ex4_1546⟩ : ∃ y : Int32, y = x4 + 4 := ⟨_, rfl⟩
          replace h := h x4_1546 ex4_1546
          refine v_iinc o (v := x4_1546) (lv' := [(4, .int x4_1546), (6, .int r1263), (5, .int r1231), (0, .ref b), (1, .ref (sz + 0)), (2, .ref (sz + 1438)), (3, .ref (sz + 1449))]) 6 dL_law_1546 rfl (by rw [ex4_1546]; rfl) (by decide) rfl ?_
          refine v_goto o (tgt := 23) dL_law_1549 (by decide) ?_
          refine v_sub [3, 4, 5, 6, 0] (lv2 := [(0, .ref b), (1, .ref (sz + 0)), (2, .ref (sz + 1438)), (3, .ref (sz + 1449)), (4, .int x4_1546)]) rfl ?_
          refine v_widen (k := 1450 + 4 * x4_1546.toNatClampNeg) (n := 13000 + 24 * x4_1546.toNatClampNeg) (by have := h.2.1; omega) (by have := h.2.1; omega) ?_
          exact ih (setJO P (sz + 1449) j1231) g1269 x4_1546 h.1 (by have := h.2.2; omega)
        · replace h := h.2 c1281
          refine v_aload_n o 5 dL_law_1284 rfl ?_
          refine v_iconst o (v := 0) dL_law_1285 (by decide) ?_
          refine v_lald o ho1231.1 ho1231.2 (by unfold vp_in; decide) dL_law_1286 ?_
          refine v_iload o 0 dL_law_1287 rfl ?_
          refine v_i2l o dL_law_1289 ?_
          refine v_lcmp o dL_law_1290 ?_
          refine v_if_eq o (tgt := 1296) dL_law_1291 (by decide) (fun c1291 => ?_) (fun c1291 => ?_)
          · replace h := h.1 c1291
            refine v_goto o (tgt := 1546) dL_law_1296 (by decide) ?_
            obtain ⟨x4_1546, ex4_1546⟩ : ∃ y : Int32, y = x4 + 4 := ⟨_, rfl⟩
            replace h := h x4_1546 ex4_1546
            refine v_iinc o (v := x4_1546) (lv' := [(4, .int x4_1546), (6, .int r1263), (5, .int r1231), (0, .ref b), (1, .ref (sz + 0)), (2, .ref (sz + 1438)), (3, .ref (sz + 1449))]) 6 dL_law_1546 rfl (by rw [ex4_1546]; rfl) (by decide) rfl ?_
            refine v_goto o (tgt := 23) dL_law_1549 (by decide) ?_
            refine v_sub [3, 4, 5, 6, 0] (lv2 := [(0, .ref b), (1, .ref (sz + 0)), (2, .ref (sz + 1438)), (3, .ref (sz + 1449)), (4, .int x4_1546)]) rfl ?_
            refine v_widen (k := 1450 + 4 * x4_1546.toNatClampNeg) (n := 13000 + 24 * x4_1546.toNatClampNeg) (by have := h.2.1; omega) (by have := h.2.1; omega) ?_
            exact ih (setJO P (sz + 1449) j1231) g1269 x4_1546 h.1 (by have := h.2.2; omega)
          · replace h := h.2 c1291
            refine v_iconst o (v := 0) dL_law_1294 (by decide) ?_
            exact h.elim
      · replace h := h.2 c1274
        refine v_iconst o (v := 0) dL_law_1277 (by decide) ?_
        exact h.elim
set_option maxRecDepth 20000 in
set_option maxHeartbeats 4000000 in
theorem lawc_20 {p : Program} {e : Env} {s : State} {m : MethodId} {args : Array Value} {below : List Frame} {meth : Method} {c : Code} {b : Nat} {Q : State → Prop} {Pz : Sk} (l : Launch) (hl : l.stackTraces = false) (G : Gl) (sz Ln : Nat) (xs : Nat → Int32) (o : Okk p s m args meth c cL_law RL 9 G (frA Pz sz)) (hT : TH (frA Pz sz) s s.heap) (hX : va_X b Ln xs s s.heap) (hbl : b < s.heap.size) (hbA : ¬ frA Pz sz b) (hLn : Ln ≤ 2048) (hsz : s.heap.size = sz) (L : Sk → St → Int32 → Prop) (μ : Int32 → Nat) (P : Sk) (f : St) (x4 : Int32) (hx : IsComp P (sz + 0)) (hm : IsModel P (sz + 1438)) (ho : Ob P (sz + 1449) 10 ∧ sN P (sz + 1449) = 1) (hx4 : x4.toNatClampNeg ≤ 2048) (h : fL_20 sz Ln xs L μ P f x4) {n : Nat} (ih : ∀ (P : Sk) (f : St) (x4 : Int32), L P f x4 → μ x4 < n → V p l e room_1 s m args below meth c 9 G (frA Pz sz) Q (1450 + 4 * x4.toNatClampNeg) (13000 + 24 * x4.toNatClampNeg) P [(0, .ref b), (1, .ref (sz + 0)), (2, .ref (sz + 1438)), (3, .ref (sz + 1449)), (4, .int x4)] [] 23 f) (hn : μ x4 ≤ n) : V p l e room_1 s m args below meth c 9 G (frA Pz sz) Q (1450 + 4 * x4.toNatClampNeg) (13000 + 24 * x4.toNatClampNeg) P [(0, .ref b), (1, .ref (sz + 0)), (2, .ref (sz + 1438)), (3, .ref (sz + 1449)), (4, .int x4)] [] 1299 f := by
  unfold fL_20 at h
  refine v_aload_n o 1 dL_law_1299 rfl ?_
  refine v_aload_n o 0 dL_law_1300 rfl ?_
  refine v_iload o 4 dL_law_1301 rfl ?_
  refine v_iconst o (v := 1) dL_law_1303 (by decide) ?_
  refine v_iadd o dL_law_1304 ?_
  refine v_sld o hX hbl hbA h.1 dL_law_1305 ?_
  replace h := h.2
  refine v_aload_n o 0 dL_law_1306 rfl ?_
  refine v_iload o 4 dL_law_1307 rfl ?_
  refine v_iconst o (v := 2) dL_law_1309 (by decide) ?_
  refine v_iadd o dL_law_1310 ?_
  refine v_sld o hX hbl hbA h.1 dL_law_1311 ?_
  replace h := h.2
  refine v_aload_n o 3 dL_law_1312 rfl ?_
  refine v_cSw o hT [.ref (sz + 0), .int (xs (x4 + 1).toNatClampNeg), .int (xs (x4 + 2).toNatClampNeg), .ref (sz + 1449)] [] (fun z => metL_ifChanged l hl G P f z (sz + 0) (xs (x4 + 1).toNatClampNeg) (xs (x4 + 2).toNatClampNeg) (sz + 1449) hx ho _ h) (cq158 o.1.2.2.2.2 (by decide)) rfl (Nat.le_of_ble_eq_true rfl) ⟨by show _ ≤ 616677; omega, by show _ ≤ 7246074; omega⟩ dL_law_1313 rfl (fun r1313 j1313 g1313 h => ?_)
  have hx1313 := isComp_J (b := (sz + 1449)) (v := j1313) hx
  have hm1313 := isModel_J (b := (sz + 1449)) (v := j1313) hm
  have ho1313 : Ob (setJO P (sz + 1449) j1313) (sz + 1449) 10 ∧ sN (setJO P (sz + 1449) j1313) (sz + 1449) = 1 := ho
  refine v_istore o (lv' := [(5, .int r1313), (0, .ref b), (1, .ref (sz + 0)), (2, .ref (sz + 1438)), (3, .ref (sz + 1449)), (4, .int x4)]) dL_law_1316 (by decide) rfl ?_
  refine v_aload_n o 3 dL_law_1318 rfl ?_
  refine v_aload_n o 1 dL_law_1319 rfl ?_
  refine v_iload o 5 dL_law_1320 rfl ?_
  refine v_iconst o (v := 1) dL_law_1322 (by decide) ?_
  refine v_iadd o dL_law_1323 ?_
  refine v_sld o hX hbl hbA h.1 dL_law_1324 ?_
  replace h := h.2
  refine v_aload_n o 1 dL_law_1325 rfl ?_
  refine v_iload o 5 dL_law_1326 rfl ?_
  refine v_iconst o (v := 2) dL_law_1328 (by decide) ?_
  refine v_iadd o dL_law_1329 ?_
  refine v_sld o hX hbl hbA h.1 dL_law_1330 ?_
  replace h := h.2
  refine v_cVi o [.int (xs (x4 + 1).toNatClampNeg), .int (xs (x4 + 2).toNatClampNeg)] [] (fun z => metX8_ifChanged l G (setJO P (sz + 1449) j1313) g1313 z (sz + 1438) hm1313 (xs (x4 + 1).toNatClampNeg) (xs (x4 + 2).toNatClampNeg) _ h) (cwL_160 o.1.2.2.2.2 (by decide)) ⟨_, _, rfl⟩ (by decide) (wfModel_o hm1313) rfl (Nat.le_of_ble_eq_true rfl) ⟨by show _ ≤ 616677; omega, by show _ ≤ 7246074; omega⟩ dL_law_1331 rfl (fun r1331 g1331 h => ?_)
  refine v_istore o (lv' := [(6, .int r1331), (5, .int r1313), (0, .ref b), (1, .ref (sz + 0)), (2, .ref (sz + 1438)), (3, .ref (sz + 1449)), (4, .int x4)]) dL_law_1334 (by decide) rfl ?_
  refine v_aload_n o 4 dL_law_1336 rfl ?_
  refine v_cVi o [] [] (fun z => metX8_thrown l G (setJO P (sz + 1449) j1313) g1331 z (sz + 1438) hm1313 _ h) (cwL_90 o.1.2.2.2.2 (by decide)) ⟨_, _, rfl⟩ (by decide) (wfModel_o hm1313) rfl (Nat.le_of_ble_eq_true rfl) ⟨by show _ ≤ 616677; omega, by show _ ≤ 7246074; omega⟩ dL_law_1337 rfl (fun r1337 g1337 h => ?_)
  refine v_iload o 1 dL_law_1340 rfl ?_
  refine v_icmp_eq o (tgt := 1347) dL_law_1342 (by decide) (fun c1342 => ?_) (fun c1342 => ?_)
  · replace h := h.1 c1342
    refine v_iload o 1 dL_law_1347 rfl ?_
    refine v_if_ne o (tgt := 1364) dL_law_1349 (by decide) (fun c1349 => ?_) (fun c1349 => ?_)
    · replace h := h.1 c1349
      refine v_goto o (tgt := 1546) dL_law_1364 (by decide) ?_
      obtain ⟨x4_1546, ex4_1546⟩ : ∃ y : Int32, y = x4 + 4 := ⟨_, rfl⟩
      replace h := h x4_1546 ex4_1546
      refine v_iinc o (v := x4_1546) (lv' := [(4, .int x4_1546), (6, .int r1331), (5, .int r1313), (0, .ref b), (1, .ref (sz + 0)), (2, .ref (sz + 1438)), (3, .ref (sz + 1449))]) 6 dL_law_1546 rfl (by rw [ex4_1546]; rfl) (by decide) rfl ?_
      refine v_goto o (tgt := 23) dL_law_1549 (by decide) ?_
      refine v_sub [3, 4, 5, 6, 0] (lv2 := [(0, .ref b), (1, .ref (sz + 0)), (2, .ref (sz + 1438)), (3, .ref (sz + 1449)), (4, .int x4_1546)]) rfl ?_
      refine v_widen (k := 1450 + 4 * x4_1546.toNatClampNeg) (n := 13000 + 24 * x4_1546.toNatClampNeg) (by have := h.2.1; omega) (by have := h.2.1; omega) ?_
      exact ih (setJO P (sz + 1449) j1313) g1337 x4_1546 h.1 (by have := h.2.2; omega)
    · replace h := h.2 c1349
      refine v_aload_n o 5 dL_law_1352 rfl ?_
      refine v_iconst o (v := 0) dL_law_1353 (by decide) ?_
      refine v_lald o ho1313.1 ho1313.2 (by unfold vp_in; decide) dL_law_1354 ?_
      refine v_iload o 0 dL_law_1355 rfl ?_
      refine v_i2l o dL_law_1357 ?_
      refine v_lcmp o dL_law_1358 ?_
      refine v_if_eq o (tgt := 1364) dL_law_1359 (by decide) (fun c1359 => ?_) (fun c1359 => ?_)
      · replace h := h.1 c1359
        refine v_goto o (tgt := 1546) dL_law_1364 (by decide) ?_
        obtain ⟨x4_1546, ex4_1546⟩ : ∃ y : Int32, y = x4 + 4 := ⟨_, rfl⟩
        replace h := h x4_1546 ex4_1546
        refine v_iinc o (v := x4_1546) (lv' := [(4, .int x4_1546), (6, .int r1331), (5, .int r1313), (0, .ref b), (1, .ref (sz + 0)), (2, .ref (sz + 1438)), (3, .ref (sz + 1449))]) 6 dL_law_1546 rfl (by rw [ex4_1546]; rfl) (by decide) rfl ?_
        refine v_goto o (tgt := 23) dL_law_1549 (by decide) ?_
        refine v_sub [3, 4, 5, 6, 0] (lv2 := [(0, .ref b), (1, .ref (sz + 0)), (2, .ref (sz + 1438)), (3, .ref (sz + 1449)), (4, .int x4_1546)]) rfl ?_
        refine v_widen (k := 1450 + 4 * x4_1546.toNatClampNeg) (n := 13000 + 24 * x4_1546.toNatClampNeg) (by have := h.2.1; omega) (by have := h.2.1; omega) ?_
        exact ih (setJO P (sz + 1449) j1313) g1337 x4_1546 h.1 (by have := h.2.2; omega)
      · replace h := h.2 c1359
        refine v_iconst o (v := 0) dL_law_1362 (by decide) ?_
        exact h.elim
  · replace h := h.2 c1342
    refine v_iconst o (v := 0) dL_law_1345 (by decide) ?_
    exact h.elim
set_option maxRecDepth 20000 in
set_option maxHeartbeats 4000000 in
theorem lawc_21 {p : Program} {e : Env} {s : State} {m : MethodId} {args : Array Value} {below : List Frame} {meth : Method} {c : Code} {b : Nat} {Q : State → Prop} {Pz : Sk} (l : Launch) (hl : l.stackTraces = false) (G : Gl) (sz Ln : Nat) (xs : Nat → Int32) (o : Okk p s m args meth c cL_law RL 9 G (frA Pz sz)) (hT : TH (frA Pz sz) s s.heap) (hX : va_X b Ln xs s s.heap) (hbl : b < s.heap.size) (hbA : ¬ frA Pz sz b) (hLn : Ln ≤ 2048) (hsz : s.heap.size = sz) (L : Sk → St → Int32 → Prop) (μ : Int32 → Nat) (P : Sk) (f : St) (x4 : Int32) (hx : IsComp P (sz + 0)) (hm : IsModel P (sz + 1438)) (ho : Ob P (sz + 1449) 10 ∧ sN P (sz + 1449) = 1) (hx4 : x4.toNatClampNeg ≤ 2048) (h : fL_21 sz Ln xs L μ P f x4) {n : Nat} (ih : ∀ (P : Sk) (f : St) (x4 : Int32), L P f x4 → μ x4 < n → V p l e room_1 s m args below meth c 9 G (frA Pz sz) Q (1450 + 4 * x4.toNatClampNeg) (13000 + 24 * x4.toNatClampNeg) P [(0, .ref b), (1, .ref (sz + 0)), (2, .ref (sz + 1438)), (3, .ref (sz + 1449)), (4, .int x4)] [] 23 f) (hn : μ x4 ≤ n) : V p l e room_1 s m args below meth c 9 G (frA Pz sz) Q (1450 + 4 * x4.toNatClampNeg) (13000 + 24 * x4.toNatClampNeg) P [(0, .ref b), (1, .ref (sz + 0)), (2, .ref (sz + 1438)), (3, .ref (sz + 1449)), (4, .int x4)] [] 1367 f := by
  unfold fL_21 at h
  refine v_aload_n o 1 dL_law_1367 rfl ?_
  refine v_aload_n o 0 dL_law_1368 rfl ?_
  refine v_iload o 4 dL_law_1369 rfl ?_
  refine v_iconst o (v := 1) dL_law_1371 (by decide) ?_
  refine v_iadd o dL_law_1372 ?_
  refine v_sld o hX hbl hbA h.1 dL_law_1373 ?_
  replace h := h.2
  refine v_aload_n o 0 dL_law_1374 rfl ?_
  refine v_iload o 4 dL_law_1375 rfl ?_
  refine v_iconst o (v := 2) dL_law_1377 (by decide) ?_
  refine v_iadd o dL_law_1378 ?_
  refine v_sld o hX hbl hbA h.1 dL_law_1379 ?_
  replace h := h.2
  refine v_aload_n o 3 dL_law_1380 rfl ?_
  refine v_cSw o hT [.ref (sz + 0), .int (xs (x4 + 1).toNatClampNeg), .int (xs (x4 + 2).toNatClampNeg), .ref (sz + 1449)] [] (fun z => metL_alike l hl G P f z (sz + 0) (xs (x4 + 1).toNatClampNeg) (xs (x4 + 2).toNatClampNeg) (sz + 1449) hx ho _ h) (cq161 o.1.2.2.2.2 (by decide)) rfl (Nat.le_of_ble_eq_true rfl) ⟨by show _ ≤ 616677; omega, by show _ ≤ 7246074; omega⟩ dL_law_1381 rfl (fun r1381 j1381 g1381 h => ?_)
  have hx1381 := isComp_J (b := (sz + 1449)) (v := j1381) hx
  have hm1381 := isModel_J (b := (sz + 1449)) (v := j1381) hm
  have ho1381 : Ob (setJO P (sz + 1449) j1381) (sz + 1449) 10 ∧ sN (setJO P (sz + 1449) j1381) (sz + 1449) = 1 := ho
  refine v_istore o (lv' := [(5, .int r1381), (0, .ref b), (1, .ref (sz + 0)), (2, .ref (sz + 1438)), (3, .ref (sz + 1449)), (4, .int x4)]) dL_law_1384 (by decide) rfl ?_
  refine v_aload_n o 3 dL_law_1386 rfl ?_
  refine v_aload_n o 1 dL_law_1387 rfl ?_
  refine v_iload o 5 dL_law_1388 rfl ?_
  refine v_iconst o (v := 1) dL_law_1390 (by decide) ?_
  refine v_iadd o dL_law_1391 ?_
  refine v_sld o hX hbl hbA h.1 dL_law_1392 ?_
  replace h := h.2
  refine v_aload_n o 1 dL_law_1393 rfl ?_
  refine v_iload o 5 dL_law_1394 rfl ?_
  refine v_iconst o (v := 2) dL_law_1396 (by decide) ?_
  refine v_iadd o dL_law_1397 ?_
  refine v_sld o hX hbl hbA h.1 dL_law_1398 ?_
  replace h := h.2
  refine v_cVi o [.int (xs (x4 + 1).toNatClampNeg), .int (xs (x4 + 2).toNatClampNeg)] [] (fun z => metX8_alike l G (setJO P (sz + 1449) j1381) g1381 z (sz + 1438) hm1381 (xs (x4 + 1).toNatClampNeg) (xs (x4 + 2).toNatClampNeg) _ h) (cwL_163 o.1.2.2.2.2 (by decide)) ⟨_, _, rfl⟩ (by decide) (wfModel_o hm1381) rfl (Nat.le_of_ble_eq_true rfl) ⟨by show _ ≤ 616677; omega, by show _ ≤ 7246074; omega⟩ dL_law_1399 rfl (fun r1399 g1399 h => ?_)
  refine v_istore o (lv' := [(6, .int r1399), (5, .int r1381), (0, .ref b), (1, .ref (sz + 0)), (2, .ref (sz + 1438)), (3, .ref (sz + 1449)), (4, .int x4)]) dL_law_1402 (by decide) rfl ?_
  refine v_aload_n o 4 dL_law_1404 rfl ?_
  refine v_cVi o [] [] (fun z => metX8_thrown l G (setJO P (sz + 1449) j1381) g1399 z (sz + 1438) hm1381 _ h) (cwL_90 o.1.2.2.2.2 (by decide)) ⟨_, _, rfl⟩ (by decide) (wfModel_o hm1381) rfl (Nat.le_of_ble_eq_true rfl) ⟨by show _ ≤ 616677; omega, by show _ ≤ 7246074; omega⟩ dL_law_1405 rfl (fun r1405 g1405 h => ?_)
  refine v_iload o 1 dL_law_1408 rfl ?_
  refine v_icmp_eq o (tgt := 1415) dL_law_1410 (by decide) (fun c1410 => ?_) (fun c1410 => ?_)
  · replace h := h.1 c1410
    refine v_iload o 1 dL_law_1415 rfl ?_
    refine v_if_ne o (tgt := 1432) dL_law_1417 (by decide) (fun c1417 => ?_) (fun c1417 => ?_)
    · replace h := h.1 c1417
      refine v_goto o (tgt := 1546) dL_law_1432 (by decide) ?_
      obtain ⟨x4_1546, ex4_1546⟩ : ∃ y : Int32, y = x4 + 4 := ⟨_, rfl⟩
      replace h := h x4_1546 ex4_1546
      refine v_iinc o (v := x4_1546) (lv' := [(4, .int x4_1546), (6, .int r1399), (5, .int r1381), (0, .ref b), (1, .ref (sz + 0)), (2, .ref (sz + 1438)), (3, .ref (sz + 1449))]) 6 dL_law_1546 rfl (by rw [ex4_1546]; rfl) (by decide) rfl ?_
      refine v_goto o (tgt := 23) dL_law_1549 (by decide) ?_
      refine v_sub [3, 4, 5, 6, 0] (lv2 := [(0, .ref b), (1, .ref (sz + 0)), (2, .ref (sz + 1438)), (3, .ref (sz + 1449)), (4, .int x4_1546)]) rfl ?_
      refine v_widen (k := 1450 + 4 * x4_1546.toNatClampNeg) (n := 13000 + 24 * x4_1546.toNatClampNeg) (by have := h.2.1; omega) (by have := h.2.1; omega) ?_
      exact ih (setJO P (sz + 1449) j1381) g1405 x4_1546 h.1 (by have := h.2.2; omega)
    · replace h := h.2 c1417
      refine v_aload_n o 5 dL_law_1420 rfl ?_
      refine v_iconst o (v := 0) dL_law_1421 (by decide) ?_
      refine v_lald o ho1381.1 ho1381.2 (by unfold vp_in; decide) dL_law_1422 ?_
      refine v_iload o 0 dL_law_1423 rfl ?_
      refine v_i2l o dL_law_1425 ?_
      refine v_lcmp o dL_law_1426 ?_
      refine v_if_eq o (tgt := 1432) dL_law_1427 (by decide) (fun c1427 => ?_) (fun c1427 => ?_)
      · replace h := h.1 c1427
        refine v_goto o (tgt := 1546) dL_law_1432 (by decide) ?_
        obtain ⟨x4_1546, ex4_1546⟩ : ∃ y : Int32, y = x4 + 4 := ⟨_, rfl⟩
        replace h := h x4_1546 ex4_1546
        refine v_iinc o (v := x4_1546) (lv' := [(4, .int x4_1546), (6, .int r1399), (5, .int r1381), (0, .ref b), (1, .ref (sz + 0)), (2, .ref (sz + 1438)), (3, .ref (sz + 1449))]) 6 dL_law_1546 rfl (by rw [ex4_1546]; rfl) (by decide) rfl ?_
        refine v_goto o (tgt := 23) dL_law_1549 (by decide) ?_
        refine v_sub [3, 4, 5, 6, 0] (lv2 := [(0, .ref b), (1, .ref (sz + 0)), (2, .ref (sz + 1438)), (3, .ref (sz + 1449)), (4, .int x4_1546)]) rfl ?_
        refine v_widen (k := 1450 + 4 * x4_1546.toNatClampNeg) (n := 13000 + 24 * x4_1546.toNatClampNeg) (by have := h.2.1; omega) (by have := h.2.1; omega) ?_
        exact ih (setJO P (sz + 1449) j1381) g1405 x4_1546 h.1 (by have := h.2.2; omega)
      · replace h := h.2 c1427
        refine v_iconst o (v := 0) dL_law_1430 (by decide) ?_
        exact h.elim
  · replace h := h.2 c1410
    refine v_iconst o (v := 0) dL_law_1413 (by decide) ?_
    exact h.elim
set_option maxRecDepth 20000 in
set_option maxHeartbeats 4000000 in
theorem lawc_22 {p : Program} {e : Env} {s : State} {m : MethodId} {args : Array Value} {below : List Frame} {meth : Method} {c : Code} {b : Nat} {Q : State → Prop} {Pz : Sk} (l : Launch) (hl : l.stackTraces = false) (G : Gl) (sz Ln : Nat) (xs : Nat → Int32) (o : Okk p s m args meth c cL_law RL 9 G (frA Pz sz)) (hT : TH (frA Pz sz) s s.heap) (hX : va_X b Ln xs s s.heap) (hbl : b < s.heap.size) (hbA : ¬ frA Pz sz b) (hLn : Ln ≤ 2048) (hsz : s.heap.size = sz) (L : Sk → St → Int32 → Prop) (μ : Int32 → Nat) (P : Sk) (f : St) (x4 : Int32) (hx : IsComp P (sz + 0)) (hm : IsModel P (sz + 1438)) (ho : Ob P (sz + 1449) 10 ∧ sN P (sz + 1449) = 1) (hx4 : x4.toNatClampNeg ≤ 2048) (h : fL_22 sz Ln xs L μ P f x4) {n : Nat} (ih : ∀ (P : Sk) (f : St) (x4 : Int32), L P f x4 → μ x4 < n → V p l e room_1 s m args below meth c 9 G (frA Pz sz) Q (1450 + 4 * x4.toNatClampNeg) (13000 + 24 * x4.toNatClampNeg) P [(0, .ref b), (1, .ref (sz + 0)), (2, .ref (sz + 1438)), (3, .ref (sz + 1449)), (4, .int x4)] [] 23 f) (hn : μ x4 ≤ n) : V p l e room_1 s m args below meth c 9 G (frA Pz sz) Q (1450 + 4 * x4.toNatClampNeg) (13000 + 24 * x4.toNatClampNeg) P [(0, .ref b), (1, .ref (sz + 0)), (2, .ref (sz + 1438)), (3, .ref (sz + 1449)), (4, .int x4)] [] 1435 f := by
  unfold fL_22 at h
  refine v_aload_n o 1 dL_law_1435 rfl ?_
  refine v_aload_n o 0 dL_law_1436 rfl ?_
  refine v_iload o 4 dL_law_1437 rfl ?_
  refine v_iconst o (v := 1) dL_law_1439 (by decide) ?_
  refine v_iadd o dL_law_1440 ?_
  refine v_sld o hX hbl hbA h.1 dL_law_1441 ?_
  replace h := h.2
  refine v_aload_n o 3 dL_law_1442 rfl ?_
  refine v_cSw o hT [.ref (sz + 0), .int (xs (x4 + 1).toNatClampNeg), .ref (sz + 1449)] [] (fun z => metL_period l hl G P f z (sz + 0) (xs (x4 + 1).toNatClampNeg) (sz + 1449) hx ho _ h) (cq164 o.1.2.2.2.2 (by decide)) rfl (Nat.le_of_ble_eq_true rfl) ⟨by show _ ≤ 616677; omega, by show _ ≤ 7246074; omega⟩ dL_law_1443 rfl (fun r1443 j1443 g1443 h => ?_)
  have hx1443 := isComp_J (b := (sz + 1449)) (v := j1443) hx
  have hm1443 := isModel_J (b := (sz + 1449)) (v := j1443) hm
  have ho1443 : Ob (setJO P (sz + 1449) j1443) (sz + 1449) 10 ∧ sN (setJO P (sz + 1449) j1443) (sz + 1449) = 1 := ho
  refine v_istore o (lv' := [(5, .int r1443), (0, .ref b), (1, .ref (sz + 0)), (2, .ref (sz + 1438)), (3, .ref (sz + 1449)), (4, .int x4)]) dL_law_1446 (by decide) rfl ?_
  refine v_aload_n o 3 dL_law_1448 rfl ?_
  refine v_aload_n o 1 dL_law_1449 rfl ?_
  refine v_iload o 5 dL_law_1450 rfl ?_
  refine v_iconst o (v := 1) dL_law_1452 (by decide) ?_
  refine v_iadd o dL_law_1453 ?_
  refine v_sld o hX hbl hbA h.1 dL_law_1454 ?_
  replace h := h.2
  refine v_cVi o [.int (xs (x4 + 1).toNatClampNeg)] [] (fun z => metX8_period l G (setJO P (sz + 1449) j1443) g1443 z (sz + 1438) hm1443 (xs (x4 + 1).toNatClampNeg) _ h) (cwL_166 o.1.2.2.2.2 (by decide)) ⟨_, _, rfl⟩ (by decide) (wfModel_o hm1443) rfl (Nat.le_of_ble_eq_true rfl) ⟨by show _ ≤ 616677; omega, by show _ ≤ 7246074; omega⟩ dL_law_1455 rfl (fun r1455 g1455 h => ?_)
  refine v_istore o (lv' := [(6, .int r1455), (5, .int r1443), (0, .ref b), (1, .ref (sz + 0)), (2, .ref (sz + 1438)), (3, .ref (sz + 1449)), (4, .int x4)]) dL_law_1458 (by decide) rfl ?_
  refine v_aload_n o 4 dL_law_1460 rfl ?_
  refine v_cVi o [] [] (fun z => metX8_thrown l G (setJO P (sz + 1449) j1443) g1455 z (sz + 1438) hm1443 _ h) (cwL_90 o.1.2.2.2.2 (by decide)) ⟨_, _, rfl⟩ (by decide) (wfModel_o hm1443) rfl (Nat.le_of_ble_eq_true rfl) ⟨by show _ ≤ 616677; omega, by show _ ≤ 7246074; omega⟩ dL_law_1461 rfl (fun r1461 g1461 h => ?_)
  refine v_iload o 1 dL_law_1464 rfl ?_
  refine v_icmp_eq o (tgt := 1471) dL_law_1466 (by decide) (fun c1466 => ?_) (fun c1466 => ?_)
  · replace h := h.1 c1466
    refine v_iload o 1 dL_law_1471 rfl ?_
    refine v_if_ne o (tgt := 1488) dL_law_1473 (by decide) (fun c1473 => ?_) (fun c1473 => ?_)
    · replace h := h.1 c1473
      refine v_goto o (tgt := 1546) dL_law_1488 (by decide) ?_
      obtain ⟨x4_1546, ex4_1546⟩ : ∃ y : Int32, y = x4 + 4 := ⟨_, rfl⟩
      replace h := h x4_1546 ex4_1546
      refine v_iinc o (v := x4_1546) (lv' := [(4, .int x4_1546), (6, .int r1455), (5, .int r1443), (0, .ref b), (1, .ref (sz + 0)), (2, .ref (sz + 1438)), (3, .ref (sz + 1449))]) 6 dL_law_1546 rfl (by rw [ex4_1546]; rfl) (by decide) rfl ?_
      refine v_goto o (tgt := 23) dL_law_1549 (by decide) ?_
      refine v_sub [3, 4, 5, 6, 0] (lv2 := [(0, .ref b), (1, .ref (sz + 0)), (2, .ref (sz + 1438)), (3, .ref (sz + 1449)), (4, .int x4_1546)]) rfl ?_
      refine v_widen (k := 1450 + 4 * x4_1546.toNatClampNeg) (n := 13000 + 24 * x4_1546.toNatClampNeg) (by have := h.2.1; omega) (by have := h.2.1; omega) ?_
      exact ih (setJO P (sz + 1449) j1443) g1461 x4_1546 h.1 (by have := h.2.2; omega)
    · replace h := h.2 c1473
      refine v_aload_n o 5 dL_law_1476 rfl ?_
      refine v_iconst o (v := 0) dL_law_1477 (by decide) ?_
      refine v_lald o ho1443.1 ho1443.2 (by unfold vp_in; decide) dL_law_1478 ?_
      refine v_iload o 0 dL_law_1479 rfl ?_
      refine v_i2l o dL_law_1481 ?_
      refine v_lcmp o dL_law_1482 ?_
      refine v_if_eq o (tgt := 1488) dL_law_1483 (by decide) (fun c1483 => ?_) (fun c1483 => ?_)
      · replace h := h.1 c1483
        refine v_goto o (tgt := 1546) dL_law_1488 (by decide) ?_
        obtain ⟨x4_1546, ex4_1546⟩ : ∃ y : Int32, y = x4 + 4 := ⟨_, rfl⟩
        replace h := h x4_1546 ex4_1546
        refine v_iinc o (v := x4_1546) (lv' := [(4, .int x4_1546), (6, .int r1455), (5, .int r1443), (0, .ref b), (1, .ref (sz + 0)), (2, .ref (sz + 1438)), (3, .ref (sz + 1449))]) 6 dL_law_1546 rfl (by rw [ex4_1546]; rfl) (by decide) rfl ?_
        refine v_goto o (tgt := 23) dL_law_1549 (by decide) ?_
        refine v_sub [3, 4, 5, 6, 0] (lv2 := [(0, .ref b), (1, .ref (sz + 0)), (2, .ref (sz + 1438)), (3, .ref (sz + 1449)), (4, .int x4_1546)]) rfl ?_
        refine v_widen (k := 1450 + 4 * x4_1546.toNatClampNeg) (n := 13000 + 24 * x4_1546.toNatClampNeg) (by have := h.2.1; omega) (by have := h.2.1; omega) ?_
        exact ih (setJO P (sz + 1449) j1443) g1461 x4_1546 h.1 (by have := h.2.2; omega)
      · replace h := h.2 c1483
        refine v_iconst o (v := 0) dL_law_1486 (by decide) ?_
        exact h.elim
  · replace h := h.2 c1466
    refine v_iconst o (v := 0) dL_law_1469 (by decide) ?_
    exact h.elim
set_option maxRecDepth 20000 in
set_option maxHeartbeats 4000000 in
theorem lawc_23 {p : Program} {e : Env} {s : State} {m : MethodId} {args : Array Value} {below : List Frame} {meth : Method} {c : Code} {b : Nat} {Q : State → Prop} {Pz : Sk} (l : Launch) (hl : l.stackTraces = false) (G : Gl) (sz Ln : Nat) (xs : Nat → Int32) (o : Okk p s m args meth c cL_law RL 9 G (frA Pz sz)) (hT : TH (frA Pz sz) s s.heap) (hX : va_X b Ln xs s s.heap) (hbl : b < s.heap.size) (hbA : ¬ frA Pz sz b) (hLn : Ln ≤ 2048) (hsz : s.heap.size = sz) (L : Sk → St → Int32 → Prop) (μ : Int32 → Nat) (P : Sk) (f : St) (x4 : Int32) (hx : IsComp P (sz + 0)) (hm : IsModel P (sz + 1438)) (ho : Ob P (sz + 1449) 10 ∧ sN P (sz + 1449) = 1) (hx4 : x4.toNatClampNeg ≤ 2048) (h : fL_23 sz Ln xs L μ P f x4) {n : Nat} (ih : ∀ (P : Sk) (f : St) (x4 : Int32), L P f x4 → μ x4 < n → V p l e room_1 s m args below meth c 9 G (frA Pz sz) Q (1450 + 4 * x4.toNatClampNeg) (13000 + 24 * x4.toNatClampNeg) P [(0, .ref b), (1, .ref (sz + 0)), (2, .ref (sz + 1438)), (3, .ref (sz + 1449)), (4, .int x4)] [] 23 f) (hn : μ x4 ≤ n) : V p l e room_1 s m args below meth c 9 G (frA Pz sz) Q (1450 + 4 * x4.toNatClampNeg) (13000 + 24 * x4.toNatClampNeg) P [(0, .ref b), (1, .ref (sz + 0)), (2, .ref (sz + 1438)), (3, .ref (sz + 1449)), (4, .int x4)] [] 1491 f := by
  unfold fL_23 at h
  refine v_aload_n o 1 dL_law_1491 rfl ?_
  refine v_cVd o [] [] (fun z => metX7_looseShare l G P f z (sz + 0) hx _ h) (cwL_167 o.1.2.2.2.2 (by decide)) ⟨_, _, rfl⟩ (by decide) (wfComp_o hx) rfl (Nat.le_of_ble_eq_true rfl) ⟨by show _ ≤ 616677; omega, by show _ ≤ 7246074; omega⟩ dL_law_1492 rfl (fun r1492 g1492 h => ?_)
  refine v_dstore o (lv' := [(5, .double r1492), (0, .ref b), (1, .ref (sz + 0)), (2, .ref (sz + 1438)), (3, .ref (sz + 1449)), (4, .int x4)]) dL_law_1495 (by decide) rfl ?_
  refine v_aload_n o 3 dL_law_1497 rfl ?_
  refine v_cVd o [] [] (fun z => metX8_looseShare l G P g1492 z (sz + 1438) hm _ h) (cwL_171 o.1.2.2.2.2 (by decide)) ⟨_, _, rfl⟩ (by decide) (wfModel_o hm) rfl (Nat.le_of_ble_eq_true rfl) ⟨by show _ ≤ 616677; omega, by show _ ≤ 7246074; omega⟩ dL_law_1498 rfl (fun r1498 g1498 h => ?_)
  refine v_dstore o (lv' := [(7, .double r1498), (5, .double r1492), (0, .ref b), (1, .ref (sz + 0)), (2, .ref (sz + 1438)), (3, .ref (sz + 1449)), (4, .int x4)]) dL_law_1501 (by decide) rfl ?_
  refine v_dload o 1 dL_law_1503 rfl ?_
  refine v_dload o 0 dL_law_1505 rfl ?_
  refine v_dcmp o dL_law_1507 ?_
  refine v_if_eq o (tgt := 1529) dL_law_1508 (by decide) (fun c1508 => ?_) (fun c1508 => ?_)
  · replace h := h.1 c1508
    refine v_goto o (tgt := 1546) dL_law_1529 (by decide) ?_
    obtain ⟨x4_1546, ex4_1546⟩ : ∃ y : Int32, y = x4 + 4 := ⟨_, rfl⟩
    replace h := h x4_1546 ex4_1546
    refine v_iinc o (v := x4_1546) (lv' := [(4, .int x4_1546), (7, .double r1498), (5, .double r1492), (0, .ref b), (1, .ref (sz + 0)), (2, .ref (sz + 1438)), (3, .ref (sz + 1449))]) 6 dL_law_1546 rfl (by rw [ex4_1546]; rfl) (by decide) rfl ?_
    refine v_goto o (tgt := 23) dL_law_1549 (by decide) ?_
    refine v_sub [3, 4, 5, 6, 0] (lv2 := [(0, .ref b), (1, .ref (sz + 0)), (2, .ref (sz + 1438)), (3, .ref (sz + 1449)), (4, .int x4_1546)]) rfl ?_
    refine v_widen (k := 1450 + 4 * x4_1546.toNatClampNeg) (n := 13000 + 24 * x4_1546.toNatClampNeg) (by have := h.2.1; omega) (by have := h.2.1; omega) ?_
    exact ih P g1498 x4_1546 h.1 (by have := h.2.2; omega)
  · replace h := h.2 c1508
    refine v_dload o 1 dL_law_1511 rfl ?_
    refine v_dload o 1 dL_law_1513 rfl ?_
    refine v_dcmp o dL_law_1515 ?_
    refine v_if_eq o (tgt := 1527) dL_law_1516 (by decide) (fun c1516 => ?_) (fun c1516 => ?_)
    · replace h := h.1 c1516
      refine v_iconst o (v := 0) dL_law_1527 (by decide) ?_
      exact h.elim
    · replace h := h.2 c1516
      refine v_dload o 0 dL_law_1519 rfl ?_
      refine v_dload o 0 dL_law_1521 rfl ?_
      refine v_dcmp o dL_law_1523 ?_
      refine v_if_ne o (tgt := 1529) dL_law_1524 (by decide) (fun c1524 => ?_) (fun c1524 => ?_)
      · replace h := h.1 c1524
        refine v_goto o (tgt := 1546) dL_law_1529 (by decide) ?_
        obtain ⟨x4_1546, ex4_1546⟩ : ∃ y : Int32, y = x4 + 4 := ⟨_, rfl⟩
        replace h := h x4_1546 ex4_1546
        refine v_iinc o (v := x4_1546) (lv' := [(4, .int x4_1546), (7, .double r1498), (5, .double r1492), (0, .ref b), (1, .ref (sz + 0)), (2, .ref (sz + 1438)), (3, .ref (sz + 1449))]) 6 dL_law_1546 rfl (by rw [ex4_1546]; rfl) (by decide) rfl ?_
        refine v_goto o (tgt := 23) dL_law_1549 (by decide) ?_
        refine v_sub [3, 4, 5, 6, 0] (lv2 := [(0, .ref b), (1, .ref (sz + 0)), (2, .ref (sz + 1438)), (3, .ref (sz + 1449)), (4, .int x4_1546)]) rfl ?_
        refine v_widen (k := 1450 + 4 * x4_1546.toNatClampNeg) (n := 13000 + 24 * x4_1546.toNatClampNeg) (by have := h.2.1; omega) (by have := h.2.1; omega) ?_
        exact ih P g1498 x4_1546 h.1 (by have := h.2.2; omega)
      · replace h := h.2 c1524
        refine v_iconst o (v := 0) dL_law_1527 (by decide) ?_
        exact h.elim
set_option maxRecDepth 20000 in
set_option maxHeartbeats 4000000 in
theorem lawc_24 {p : Program} {e : Env} {s : State} {m : MethodId} {args : Array Value} {below : List Frame} {meth : Method} {c : Code} {b : Nat} {Q : State → Prop} {Pz : Sk} (l : Launch) (hl : l.stackTraces = false) (G : Gl) (sz Ln : Nat) (xs : Nat → Int32) (o : Okk p s m args meth c cL_law RL 9 G (frA Pz sz)) (hT : TH (frA Pz sz) s s.heap) (hX : va_X b Ln xs s s.heap) (hbl : b < s.heap.size) (hbA : ¬ frA Pz sz b) (hLn : Ln ≤ 2048) (hsz : s.heap.size = sz) (L : Sk → St → Int32 → Prop) (μ : Int32 → Nat) (P : Sk) (f : St) (x4 : Int32) (hx : IsComp P (sz + 0)) (hm : IsModel P (sz + 1438)) (ho : Ob P (sz + 1449) 10 ∧ sN P (sz + 1449) = 1) (hx4 : x4.toNatClampNeg ≤ 2048) (h : fL_24 sz Ln xs L μ P f x4) {n : Nat} (ih : ∀ (P : Sk) (f : St) (x4 : Int32), L P f x4 → μ x4 < n → V p l e room_1 s m args below meth c 9 G (frA Pz sz) Q (1450 + 4 * x4.toNatClampNeg) (13000 + 24 * x4.toNatClampNeg) P [(0, .ref b), (1, .ref (sz + 0)), (2, .ref (sz + 1438)), (3, .ref (sz + 1449)), (4, .int x4)] [] 23 f) (hn : μ x4 ≤ n) : V p l e room_1 s m args below meth c 9 G (frA Pz sz) Q (1450 + 4 * x4.toNatClampNeg) (13000 + 24 * x4.toNatClampNeg) P [(0, .ref b), (1, .ref (sz + 0)), (2, .ref (sz + 1438)), (3, .ref (sz + 1449)), (4, .int x4)] [] 1532 f := by
  unfold fL_24 at h
  refine v_aload_n o 1 dL_law_1532 rfl ?_
  refine v_cVl o [] [] (fun z => metX7_digest l G P f z (sz + 0) hx _ h) (cwL_172 o.1.2.2.2.2 (by decide)) ⟨_, _, rfl⟩ (by decide) (wfComp_o hx) rfl (Nat.le_of_ble_eq_true rfl) ⟨by show _ ≤ 616677; omega, by show _ ≤ 7246074; omega⟩ dL_law_1533 rfl (fun r1533 g1533 h => ?_)
  refine v_aload_n o 2 dL_law_1536 rfl ?_
  refine v_cVl o [] [.long r1533] (fun z => metX8_digest l G P g1533 z (sz + 1438) hm _ h) (cwL_176 o.1.2.2.2.2 (by decide)) ⟨_, _, rfl⟩ (by decide) (wfModel_o hm) rfl (Nat.le_of_ble_eq_true rfl) ⟨by show _ ≤ 616677; omega, by show _ ≤ 7246074; omega⟩ dL_law_1537 rfl (fun r1537 g1537 h => ?_)
  refine v_lcmp o dL_law_1540 ?_
  refine v_if_eq o (tgt := 1546) dL_law_1541 (by decide) (fun c1541 => ?_) (fun c1541 => ?_)
  · replace h := h.1 c1541
    obtain ⟨x4_1546, ex4_1546⟩ : ∃ y : Int32, y = x4 + 4 := ⟨_, rfl⟩
    replace h := h x4_1546 ex4_1546
    refine v_iinc o (v := x4_1546) (lv' := [(4, .int x4_1546), (0, .ref b), (1, .ref (sz + 0)), (2, .ref (sz + 1438)), (3, .ref (sz + 1449))]) 4 dL_law_1546 rfl (by rw [ex4_1546]; rfl) (by decide) rfl ?_
    refine v_goto o (tgt := 23) dL_law_1549 (by decide) ?_
    refine v_sub [1, 2, 3, 4, 0] (lv2 := [(0, .ref b), (1, .ref (sz + 0)), (2, .ref (sz + 1438)), (3, .ref (sz + 1449)), (4, .int x4_1546)]) rfl ?_
    refine v_widen (k := 1450 + 4 * x4_1546.toNatClampNeg) (n := 13000 + 24 * x4_1546.toNatClampNeg) (by have := h.2.1; omega) (by have := h.2.1; omega) ?_
    exact ih P g1537 x4_1546 h.1 (by have := h.2.2; omega)
  · replace h := h.2 c1541
    refine v_iconst o (v := 0) dL_law_1544 (by decide) ?_
    exact h.elim
def vL_law (sz : Nat) (Pz : Sk) (f0 : St) (L : Sk → St → Int32 → Prop) : Prop :=
  (COk Pz Pz sz 0) ∧ (∀ P0 : Sk, P0 = pNew Pz (sz + 0) 7 0 → ∀ g0 : St, g0 = va_up f0 (sz + 0) z0 → (COk Pz P0 sz 1) ∧ (kX7_init P0 g0 (sz + 1) (sz + 0) (fun P4 g4 => (COk Pz P4 sz 1438) ∧ (∀ P8 : Sk, P8 = pNew P4 (sz + 1438) 8 0 → ∀ g8 : St, g8 = va_up g4 (sz + 1438) z0 → (COk Pz P8 sz 1439) ∧ (kX8_init P8 g8 (sz + 1439) (sz + 1438) (fun P12 g12 => (COk Pz P12 sz 1449 ∧ ∀ q, q ∉ sL P12 → sJ P12 q = fun _ => 0) ∧ (∀ P17 : Sk, P17 = pNew P12 (sz + 1449) 10 1 → ∀ g17 : St, g17 = va_up g12 (sz + 1449) z0 → L P17 g17 0)))))))
set_option maxRecDepth 20000 in
set_option maxHeartbeats 8000000 in
theorem mL_law {p : Program} {e : Env} {s : State} {m : MethodId} {args : Array Value} {below : List Frame} {meth : Method} {c : Code} {b : Nat} {Q : State → Prop} {Pz : Sk} (l : Launch) (hl : l.stackTraces = false) (G : Gl) (sz Ln : Nat) (xs : Nat → Int32) (o : Okk p s m args meth c cL_law RL 9 G (frA Pz sz)) (hT : TH (frA Pz sz) s s.heap) (hX : va_X b Ln xs s s.heap) (hbl : b < s.heap.size) (hbA : ¬ frA Pz sz b) (hLn : Ln ≤ 2048) (hsz : s.heap.size = sz) (hAe : frA Pz sz = frA Pz sz) (hO : AO s) (f0 : St) (L : Sk → St → Int32 → Prop) (μ : Int32 → Nat) (hLL : ∀ P f x4, L P f x4 → IsComp P (sz + 0) ∧ IsModel P (sz + 1438) ∧ (Ob P (sz + 1449) 10 ∧ sN P (sz + 1449) = 1) ∧ x4.toNatClampNeg ≤ 2048)
  (hret : ∀ (P : Sk) (lv : List (Nat × Value)) (pc : Nat) (f : St), decode cL_law pc = .ok (.ireturn, 1) → V p l e room_1 s m args below meth c 9 G (frA Pz sz) Q 616677 7246074 P lv [.int 1] pc f)
  (h : vL_law sz Pz f0 L) (hb : ∀ P f x4, L P f x4 → bL_law sz Ln xs L μ P f x4) : V p l e room_1 s m args below meth c 9 G (frA Pz sz) Q 0 0 Pz [(0, .ref b)] [] 0 f0 := by
  have main : ∀ n : Nat, ∀ (P : Sk) (f : St) (x4 : Int32), L P f x4 → μ x4 < n → V p l e room_1 s m args below meth c 9 G (frA Pz sz) Q (1450 + 4 * x4.toNatClampNeg) (13000 + 24 * x4.toNatClampNeg) P [(0, .ref b), (1, .ref (sz + 0)), (2, .ref (sz + 1438)), (3, .ref (sz + 1449)), (4, .int x4)] [] 23 f := by
    intro n
    induction n with
    | zero => exact fun P f x4 hI hm => absurd hm (Nat.not_lt_zero _)
    | succ n ih =>
      intro P f x4 hI hm9
      obtain ⟨hx, hm, ho, hx4⟩ := hLL P f x4 hI
      have h := hb P f x4 hI
      unfold bL_law at h
      refine v_iload o 4 dL_law_23 rfl ?_
      refine v_aload_n o 0 dL_law_25 rfl ?_
      refine v_slen o hX hbl hbA dL_law_26 ?_
      refine v_iconst o (v := 4) dL_law_27 (by decide) ?_
      refine v_isub o dL_law_28 ?_
      refine v_icmp_gt o (tgt := 1552) dL_law_29 (by decide) (fun c29 => ?_) (fun c29 => ?_)
      · replace h := h.1 c29
        refine v_iconst o (v := 1) dL_law_1552 (by decide) ?_
        refine v_widen (k := 616677) (n := 7246074) (by omega) (by omega) ?_
        exact hret _ _ _ _ dL_law_1553
      · replace h := h.2 c29
        refine v_aload_n o 0 dL_law_32 rfl ?_
        refine v_iload o 4 dL_law_33 rfl ?_
        refine v_sld o hX hbl hbA h.1 dL_law_35 ?_
        replace h := h.2
        refine v_bipush o (v := 31) dL_law_36 (by decide) ?_
        refine v_iand o dL_law_38 ?_
        refine v_topi (fun kk ekk => ?_)
        replace h := h kk ekk
        by_cases c39_0 : kk = 0
        · replace h := h.1 c39_0
          refine v_tableIn o (off := 113) (tgt := 152) dL_law_39 (by rw [c39_0]; decide) (by rw [c39_0]; decide) (by rw [c39_0]; decide) (by decide) ?_
          exact lawc_0 l hl G sz Ln xs o hT hX hbl hbA hLn hsz L μ P f x4 hx hm ho hx4 h ih (by omega)
        · replace h := h.2 c39_0
          by_cases c39_1 : kk = 1
          · replace h := h.1 c39_1
            refine v_tableIn o (off := 157) (tgt := 196) dL_law_39 (by rw [c39_1]; decide) (by rw [c39_1]; decide) (by rw [c39_1]; decide) (by decide) ?_
            exact lawc_1 l hl G sz Ln xs o hT hX hbl hbA hLn hsz L μ P f x4 hx hm ho hx4 h ih (by omega)
          · replace h := h.2 c39_1
            by_cases c39_2 : kk = 2
            · replace h := h.1 c39_2
              refine v_tableIn o (off := 213) (tgt := 252) dL_law_39 (by rw [c39_2]; decide) (by rw [c39_2]; decide) (by rw [c39_2]; decide) (by decide) ?_
              exact lawc_2 l hl G sz Ln xs o hT hX hbl hbA hLn hsz L μ P f x4 hx hm ho hx4 h ih (by omega)
            · replace h := h.2 c39_2
              by_cases c39_3 : kk = 3
              · replace h := h.1 c39_3
                refine v_tableIn o (off := 309) (tgt := 348) dL_law_39 (by rw [c39_3]; decide) (by rw [c39_3]; decide) (by rw [c39_3]; decide) (by decide) ?_
                exact lawc_3 l hl G sz Ln xs o hT hX hbl hbA hLn hsz L μ P f x4 hx hm ho hx4 h ih (by omega)
              · replace h := h.2 c39_3
                by_cases c39_4 : kk = 4
                · replace h := h.1 c39_4
                  refine v_tableIn o (off := 365) (tgt := 404) dL_law_39 (by rw [c39_4]; decide) (by rw [c39_4]; decide) (by rw [c39_4]; decide) (by decide) ?_
                  exact lawc_4 l hl G sz Ln xs o hT hX hbl hbA hLn hsz L μ P f x4 hx hm ho hx4 h ih (by omega)
                · replace h := h.2 c39_4
                  by_cases c39_5 : kk = 5
                  · replace h := h.1 c39_5
                    refine v_tableIn o (off := 433) (tgt := 472) dL_law_39 (by rw [c39_5]; decide) (by rw [c39_5]; decide) (by rw [c39_5]; decide) (by decide) ?_
                    exact lawc_5 l hl G sz Ln xs o hT hX hbl hbA hLn hsz L μ P f x4 hx hm ho hx4 h ih (by omega)
                  · replace h := h.2 c39_5
                    by_cases c39_6 : kk = 6
                    · replace h := h.1 c39_6
                      refine v_tableIn o (off := 501) (tgt := 540) dL_law_39 (by rw [c39_6]; decide) (by rw [c39_6]; decide) (by rw [c39_6]; decide) (by decide) ?_
                      exact lawc_6 l hl G sz Ln xs o hT hX hbl hbA hLn hsz L μ P f x4 hx hm ho hx4 h ih (by omega)
                    · replace h := h.2 c39_6
                      by_cases c39_7 : kk = 7
                      · replace h := h.1 c39_7
                        refine v_tableIn o (off := 557) (tgt := 596) dL_law_39 (by rw [c39_7]; decide) (by rw [c39_7]; decide) (by rw [c39_7]; decide) (by decide) ?_
                        exact lawc_7 l hl G sz Ln xs o hT hX hbl hbA hLn hsz L μ P f x4 hx hm ho hx4 h ih (by omega)
                      · replace h := h.2 c39_7
                        by_cases c39_8 : kk = 8
                        · replace h := h.1 c39_8
                          refine v_tableIn o (off := 570) (tgt := 609) dL_law_39 (by rw [c39_8]; decide) (by rw [c39_8]; decide) (by rw [c39_8]; decide) (by decide) ?_
                          exact lawc_8 l hl G sz Ln xs o hT hX hbl hbA hLn hsz L μ P f x4 hx hm ho hx4 h ih (by omega)
                        · replace h := h.2 c39_8
                          by_cases c39_9 : kk = 9
                          · replace h := h.1 c39_9
                            refine v_tableIn o (off := 611) (tgt := 650) dL_law_39 (by rw [c39_9]; decide) (by rw [c39_9]; decide) (by rw [c39_9]; decide) (by decide) ?_
                            exact lawc_9 l hl G sz Ln xs o hT hX hbl hbA hLn hsz L μ P f x4 hx hm ho hx4 h ih (by omega)
                          · replace h := h.2 c39_9
                            by_cases c39_10 : kk = 10
                            · replace h := h.1 c39_10
                              refine v_tableIn o (off := 655) (tgt := 694) dL_law_39 (by rw [c39_10]; decide) (by rw [c39_10]; decide) (by rw [c39_10]; decide) (by decide) ?_
                              exact lawc_10 l hl G sz Ln xs o hT hX hbl hbA hLn hsz L μ P f x4 hx hm ho hx4 h ih (by omega)
                            · replace h := h.2 c39_10
                              by_cases c39_11 : kk = 11
                              · replace h := h.1 c39_11
                                refine v_tableIn o (off := 711) (tgt := 750) dL_law_39 (by rw [c39_11]; decide) (by rw [c39_11]; decide) (by rw [c39_11]; decide) (by decide) ?_
                                exact lawc_11 l hl G sz Ln xs o hT hX hbl hbA hLn hsz L μ P f x4 hx hm ho hx4 h ih (by omega)
                              · replace h := h.2 c39_11
                                by_cases c39_12 : kk = 12
                                · replace h := h.1 c39_12
                                  refine v_tableIn o (off := 755) (tgt := 794) dL_law_39 (by rw [c39_12]; decide) (by rw [c39_12]; decide) (by rw [c39_12]; decide) (by decide) ?_
                                  exact lawc_12 l hl G sz Ln xs o hT hX hbl hbA hLn hsz L μ P f x4 hx hm ho hx4 h ih (by omega)
                                · replace h := h.2 c39_12
                                  by_cases c39_13 : kk = 13
                                  · replace h := h.1 c39_13
                                    refine v_tableIn o (off := 768) (tgt := 807) dL_law_39 (by rw [c39_13]; decide) (by rw [c39_13]; decide) (by rw [c39_13]; decide) (by decide) ?_
                                    exact lawc_13 l hl G sz Ln xs o hT hX hbl hbA hLn hsz L μ P f x4 hx hm ho hx4 h ih (by omega)
                                  · replace h := h.2 c39_13
                                    by_cases c39_14 : kk = 14
                                    · replace h := h.1 c39_14
                                      refine v_tableIn o (off := 812) (tgt := 851) dL_law_39 (by rw [c39_14]; decide) (by rw [c39_14]; decide) (by rw [c39_14]; decide) (by decide) ?_
                                      exact lawc_14 l hl G sz Ln xs o hT hX hbl hbA hLn hsz L μ P f x4 hx hm ho hx4 h ih (by omega)
                                    · replace h := h.2 c39_14
                                      by_cases c39_15 : kk = 15
                                      · replace h := h.1 c39_15
                                        refine v_tableIn o (off := 892) (tgt := 931) dL_law_39 (by rw [c39_15]; decide) (by rw [c39_15]; decide) (by rw [c39_15]; decide) (by decide) ?_
                                        exact lawc_15 l hl G sz Ln xs o hT hX hbl hbA hLn hsz L μ P f x4 hx hm ho hx4 h ih (by omega)
                                      · replace h := h.2 c39_15
                                        by_cases c39_16 : kk = 16
                                        · replace h := h.1 c39_16
                                          refine v_tableIn o (off := 972) (tgt := 1011) dL_law_39 (by rw [c39_16]; decide) (by rw [c39_16]; decide) (by rw [c39_16]; decide) (by decide) ?_
                                          exact lawc_16 l hl G sz Ln xs o hT hX hbl hbA hLn hsz L μ P f x4 hx hm ho hx4 h ih (by omega)
                                        · replace h := h.2 c39_16
                                          by_cases c39_17 : kk = 17
                                          · replace h := h.1 c39_17
                                            refine v_tableIn o (off := 1040) (tgt := 1079) dL_law_39 (by rw [c39_17]; decide) (by rw [c39_17]; decide) (by rw [c39_17]; decide) (by decide) ?_
                                            exact lawc_17 l hl G sz Ln xs o hT hX hbl hbA hLn hsz L μ P f x4 hx hm ho hx4 h ih (by omega)
                                          · replace h := h.2 c39_17
                                            by_cases c39_18 : kk = 18
                                            · replace h := h.1 c39_18
                                              refine v_tableIn o (off := 1108) (tgt := 1147) dL_law_39 (by rw [c39_18]; decide) (by rw [c39_18]; decide) (by rw [c39_18]; decide) (by decide) ?_
                                              exact lawc_18 l hl G sz Ln xs o hT hX hbl hbA hLn hsz L μ P f x4 hx hm ho hx4 h ih (by omega)
                                            · replace h := h.2 c39_18
                                              by_cases c39_19 : kk = 19
                                              · replace h := h.1 c39_19
                                                refine v_tableIn o (off := 1164) (tgt := 1203) dL_law_39 (by rw [c39_19]; decide) (by rw [c39_19]; decide) (by rw [c39_19]; decide) (by decide) ?_
                                                exact lawc_19 l hl G sz Ln xs o hT hX hbl hbA hLn hsz L μ P f x4 hx hm ho hx4 h ih (by omega)
                                              · replace h := h.2 c39_19
                                                by_cases c39_20 : kk = 20
                                                · replace h := h.1 c39_20
                                                  refine v_tableIn o (off := 1260) (tgt := 1299) dL_law_39 (by rw [c39_20]; decide) (by rw [c39_20]; decide) (by rw [c39_20]; decide) (by decide) ?_
                                                  exact lawc_20 l hl G sz Ln xs o hT hX hbl hbA hLn hsz L μ P f x4 hx hm ho hx4 h ih (by omega)
                                                · replace h := h.2 c39_20
                                                  by_cases c39_21 : kk = 21
                                                  · replace h := h.1 c39_21
                                                    refine v_tableIn o (off := 1328) (tgt := 1367) dL_law_39 (by rw [c39_21]; decide) (by rw [c39_21]; decide) (by rw [c39_21]; decide) (by decide) ?_
                                                    exact lawc_21 l hl G sz Ln xs o hT hX hbl hbA hLn hsz L μ P f x4 hx hm ho hx4 h ih (by omega)
                                                  · replace h := h.2 c39_21
                                                    by_cases c39_22 : kk = 22
                                                    · replace h := h.1 c39_22
                                                      refine v_tableIn o (off := 1396) (tgt := 1435) dL_law_39 (by rw [c39_22]; decide) (by rw [c39_22]; decide) (by rw [c39_22]; decide) (by decide) ?_
                                                      exact lawc_22 l hl G sz Ln xs o hT hX hbl hbA hLn hsz L μ P f x4 hx hm ho hx4 h ih (by omega)
                                                    · replace h := h.2 c39_22
                                                      by_cases c39_23 : kk = 23
                                                      · replace h := h.1 c39_23
                                                        refine v_tableIn o (off := 1452) (tgt := 1491) dL_law_39 (by rw [c39_23]; decide) (by rw [c39_23]; decide) (by rw [c39_23]; decide) (by decide) ?_
                                                        exact lawc_23 l hl G sz Ln xs o hT hX hbl hbA hLn hsz L μ P f x4 hx hm ho hx4 h ih (by omega)
                                                      · replace h := h.2 c39_23
                                                        by_cases c39_24 : kk = 24
                                                        · replace h := h.1 c39_24
                                                          refine v_tableIn o (off := 1493) (tgt := 1532) dL_law_39 (by rw [c39_24]; decide) (by rw [c39_24]; decide) (by rw [c39_24]; decide) (by decide) ?_
                                                          exact lawc_24 l hl G sz Ln xs o hT hX hbl hbA hLn hsz L μ P f x4 hx hm ho hx4 h ih (by omega)
                                                        · replace h := h.2 c39_24
                                                          refine v_tableOut o (tgt := 1546) dL_law_39 (by have q0 := lv_neT c39_0 (a := 0) (by decide); have q1 := lv_neT c39_1 (a := 1) (by decide); have q2 := lv_neT c39_2 (a := 2) (by decide); have q3 := lv_neT c39_3 (a := 3) (by decide); have q4 := lv_neT c39_4 (a := 4) (by decide); have q5 := lv_neT c39_5 (a := 5) (by decide); have q6 := lv_neT c39_6 (a := 6) (by decide); have q7 := lv_neT c39_7 (a := 7) (by decide); have q8 := lv_neT c39_8 (a := 8) (by decide); have q9 := lv_neT c39_9 (a := 9) (by decide); have q10 := lv_neT c39_10 (a := 10) (by decide); have q11 := lv_neT c39_11 (a := 11) (by decide); have q12 := lv_neT c39_12 (a := 12) (by decide); have q13 := lv_neT c39_13 (a := 13) (by decide); have q14 := lv_neT c39_14 (a := 14) (by decide); have q15 := lv_neT c39_15 (a := 15) (by decide); have q16 := lv_neT c39_16 (a := 16) (by decide); have q17 := lv_neT c39_17 (a := 17) (by decide); have q18 := lv_neT c39_18 (a := 18) (by decide); have q19 := lv_neT c39_19 (a := 19) (by decide); have q20 := lv_neT c39_20 (a := 20) (by decide); have q21 := lv_neT c39_21 (a := 21) (by decide); have q22 := lv_neT c39_22 (a := 22) (by decide); have q23 := lv_neT c39_23 (a := 23) (by decide); have q24 := lv_neT c39_24 (a := 24) (by decide); omega) (by decide) ?_
                                                          obtain ⟨x4_1546, ex4_1546⟩ : ∃ y : Int32, y = x4 + 4 := ⟨_, rfl⟩
                                                          replace h := h x4_1546 ex4_1546
                                                          refine v_iinc o (v := x4_1546) (lv' := [(4, .int x4_1546), (0, .ref b), (1, .ref (sz + 0)), (2, .ref (sz + 1438)), (3, .ref (sz + 1449))]) 4 dL_law_1546 rfl (by rw [ex4_1546]; rfl) (by decide) rfl ?_
                                                          refine v_goto o (tgt := 23) dL_law_1549 (by decide) ?_
                                                          refine v_sub [1, 2, 3, 4, 0] (lv2 := [(0, .ref b), (1, .ref (sz + 0)), (2, .ref (sz + 1438)), (3, .ref (sz + 1449)), (4, .int x4_1546)]) rfl ?_
                                                          refine v_widen (k := 1450 + 4 * x4_1546.toNatClampNeg) (n := 13000 + 24 * x4_1546.toNatClampNeg) (by have := h.2.1; omega) (by have := h.2.1; omega) ?_
                                                          exact ih P f x4_1546 h.1 (by have := h.2.2; omega)
  unfold vL_law at h
  refine v_new o hsz hAe h.1.1 h.1.2 lnL_8 ⟨Nat.le_of_ble_eq_true rfl, Nat.le_of_ble_eq_true rfl⟩ dL_law_0 ?_
  replace h := h.2
  generalize eP0 : pNew Pz (sz + 0) 7 0 = P0
  replace h := h P0 eP0.symm
  generalize eg0 : va_up f0 (sz + 0) z0 = g0
  replace h := h g0 eg0.symm
  refine v_eqc (c2 := 1) (s2 := 8) (by rfl) (by rfl) ?_
  refine v_dup o dL_law_3 rfl ?_
  have hq := h.1
  replace h := h.2
  refine v_cI o hsz hAe hq.1 hq.2 hO [] [.ref (sz + 0)] (metX7_init l G P0 g0 (sz + 1) (sz + 0) _ h) (cwI 0 o.1.2.2.2.2 (gUc (mU 104 (by decide +kernel) rfl)) rfl rfl rfl (o.1.2.2.2.2 _ (mU 82 (by decide +kernel) rfl)) (o.1.2.2.2.2 _ (mU 102 (by decide +kernel) rfl)) (o.1.2.2.2.2 _ (mU 103 (by decide +kernel) rfl)) rfl ⟨by decide +kernel, by decide +kernel, by decide +kernel⟩ ⟨Nat.le_of_ble_eq_true rfl, Nat.le_of_ble_eq_true rfl⟩) rfl (Nat.le_of_ble_eq_true rfl) ⟨Nat.le_of_ble_eq_true rfl, Nat.le_of_ble_eq_true rfl⟩ dL_law_4 rfl (fun P4 g4 h => ?_)
  refine v_eqc (c2 := 1438) (s2 := 10293) (by rfl) (by rfl) ?_
  refine v_astore_n o (lv' := [(1, .ref (sz + 0)), (0, .ref b)]) dL_law_7 rfl (by decide) rfl ?_
  refine v_new o hsz hAe h.1.1 h.1.2 lnL_81 ⟨Nat.le_of_ble_eq_true rfl, Nat.le_of_ble_eq_true rfl⟩ dL_law_8 ?_
  replace h := h.2
  generalize eP8 : pNew P4 (sz + 1438) 8 0 = P8
  replace h := h P8 eP8.symm
  generalize eg8 : va_up g4 (sz + 1438) z0 = g8
  replace h := h g8 eg8.symm
  refine v_eqc (c2 := 1439) (s2 := 10315) (by rfl) (by rfl) ?_
  refine v_dup o dL_law_11 rfl ?_
  have hq := h.1
  replace h := h.2
  refine v_cI o hsz hAe hq.1 hq.2 hO [] [.ref (sz + 1438)] (metX8_init l G P8 g8 (sz + 1439) (sz + 1438) _ h) (cwI 0 o.1.2.2.2.2 (gUc (mU 1012 (by decide +kernel) rfl)) rfl rfl rfl (o.1.2.2.2.2 _ (mU 90 (by decide +kernel) rfl)) (o.1.2.2.2.2 _ (mU 1010 (by decide +kernel) rfl)) (o.1.2.2.2.2 _ (mU 1011 (by decide +kernel) rfl)) rfl ⟨by decide +kernel, by decide +kernel, by decide +kernel⟩ ⟨Nat.le_of_ble_eq_true rfl, Nat.le_of_ble_eq_true rfl⟩) rfl (Nat.le_of_ble_eq_true rfl) ⟨Nat.le_of_ble_eq_true rfl, Nat.le_of_ble_eq_true rfl⟩ dL_law_12 rfl (fun P12 g12 h => ?_)
  refine v_eqc (c2 := 1449) (s2 := 11908) (by rfl) (by rfl) ?_
  refine v_astore_n o (lv' := [(2, .ref (sz + 1438)), (1, .ref (sz + 0)), (0, .ref b)]) dL_law_15 rfl (by decide) rfl ?_
  refine v_iconst o (v := 1) dL_law_16 (by decide) ?_
  refine v_newarrJ o hsz hAe h.1.1.1 h.1.1.2 (mU 1422 (by decide +kernel) rfl) ⟨Nat.le_of_ble_eq_true rfl, Nat.le_of_ble_eq_true rfl⟩ h.1.2 dL_law_17 ?_
  replace h := h.2
  generalize eP17 : pNew P12 (sz + 1449) 10 1 = P17
  replace h := h P17 eP17.symm
  generalize eg17 : va_up g12 (sz + 1449) z0 = g17
  replace h := h g17 eg17.symm
  refine v_eqc (c2 := 1450) (s2 := 11909) (by rfl) (by rfl) ?_
  refine v_astore_n o (lv' := [(3, .ref (sz + 1449)), (2, .ref (sz + 1438)), (1, .ref (sz + 0)), (0, .ref b)]) dL_law_19 rfl (by decide) rfl ?_
  refine v_iconst o (v := 0) dL_law_20 (by decide) ?_
  refine v_istore o (lv' := [(4, .int 0), (3, .ref (sz + 1449)), (2, .ref (sz + 1438)), (1, .ref (sz + 0)), (0, .ref b)]) dL_law_21 (by decide) rfl ?_
  refine v_sub [4, 3, 2, 1, 0] (lv2 := [(0, .ref b), (1, .ref (sz + 0)), (2, .ref (sz + 1438)), (3, .ref (sz + 1449)), (4, .int 0)]) rfl ?_
  refine v_widen (k := 1450 + 4 * ((0 : Int32)).toNatClampNeg) (n := 13000 + 24 * ((0 : Int32)).toNatClampNeg) (Nat.le_of_ble_eq_true rfl) (Nat.le_of_ble_eq_true rfl) ?_
  exact main (μ 0 + 1) P17 g17 0 h (Nat.lt_succ_self _)
