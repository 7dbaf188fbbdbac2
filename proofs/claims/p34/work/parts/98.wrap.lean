theorem cQ_about {z1 : Int32} {A : aS} : (c_about z1 A).2.2 = A := by
  unfold c_about
  first
    | (split <;> rfl)
    | ((repeat' split) <;> rfl)
    | (by_cases h1 : vF A.1.1 z1 <;> by_cases h2 : bt2 (nI 0) z2 (nI 4) <;> simp [h1, h2])
    | (by_cases h1 : bt2 (nI 1) z1 (nI 60) ∧ bt2 (nI 0) z2 (nI 3) <;> simp [h1])
theorem cQ_station {z1 : Int32} {z2 : Int32} {A : aS} : (c_station z1 z2 A).2.2 = A := by
  unfold c_station
  first
    | (split <;> rfl)
    | ((repeat' split) <;> rfl)
    | (by_cases h1 : vF A.1.1 z1 <;> by_cases h2 : bt2 (nI 0) z2 (nI 4) <;> simp [h1, h2])
    | (by_cases h1 : bt2 (nI 1) z1 (nI 60) ∧ bt2 (nI 0) z2 (nI 3) <;> simp [h1])
theorem cQ_stock {z1 : Int32} {z2 : Int32} {A : aS} : (c_stock z1 z2 A).2.2 = A := by
  unfold c_stock
  first
    | (split <;> rfl)
    | ((repeat' split) <;> rfl)
    | (by_cases h1 : vF A.1.1 z1 <;> by_cases h2 : bt2 (nI 0) z2 (nI 4) <;> simp [h1, h2])
    | (by_cases h1 : bt2 (nI 1) z1 (nI 60) ∧ bt2 (nI 0) z2 (nI 3) <;> simp [h1])
theorem cQ_finder {z1 : Int32} {z2 : Int32} {A : aS} : (c_finder z1 z2 A).2.2 = A := by
  unfold c_finder
  first
    | (split <;> rfl)
    | ((repeat' split) <;> rfl)
    | (by_cases h1 : vF A.1.1 z1 <;> by_cases h2 : bt2 (nI 0) z2 (nI 4) <;> simp [h1, h2])
    | (by_cases h1 : bt2 (nI 1) z1 (nI 60) ∧ bt2 (nI 0) z2 (nI 3) <;> simp [h1])
theorem cQ_back {z1 : Int32} {z2 : Int32} {A : aS} : (c_back z1 z2 A).2.2 = A := by
  unfold c_back
  first
    | (split <;> rfl)
    | ((repeat' split) <;> rfl)
    | (by_cases h1 : vF A.1.1 z1 <;> by_cases h2 : bt2 (nI 0) z2 (nI 4) <;> simp [h1, h2])
    | (by_cases h1 : bt2 (nI 1) z1 (nI 60) ∧ bt2 (nI 0) z2 (nI 3) <;> simp [h1])
theorem cQ_gap {z1 : Int32} {z2 : Int32} {A : aS} : (c_gap z1 z2 A).2.2 = A := by
  unfold c_gap
  first
    | (split <;> rfl)
    | ((repeat' split) <;> rfl)
    | (by_cases h1 : vF A.1.1 z1 <;> by_cases h2 : bt2 (nI 0) z2 (nI 4) <;> simp [h1, h2])
    | (by_cases h1 : bt2 (nI 1) z1 (nI 60) ∧ bt2 (nI 0) z2 (nI 3) <;> simp [h1])
theorem cQ_windOf {z1 : Int32} {A : aS} : (c_windOf z1 A).2.2 = A := by
  unfold c_windOf
  first
    | (split <;> rfl)
    | ((repeat' split) <;> rfl)
    | (by_cases h1 : vF A.1.1 z1 <;> by_cases h2 : bt2 (nI 0) z2 (nI 4) <;> simp [h1, h2])
    | (by_cases h1 : bt2 (nI 1) z1 (nI 60) ∧ bt2 (nI 0) z2 (nI 3) <;> simp [h1])
theorem cQ_setting {z1 : Int32} {A : aS} : (c_setting z1 A).2.2 = A := by
  unfold c_setting
  first
    | (split <;> rfl)
    | ((repeat' split) <;> rfl)
    | (by_cases h1 : vF A.1.1 z1 <;> by_cases h2 : bt2 (nI 0) z2 (nI 4) <;> simp [h1, h2])
    | (by_cases h1 : bt2 (nI 1) z1 (nI 60) ∧ bt2 (nI 0) z2 (nI 3) <;> simp [h1])
theorem cQ_landing {z1 : Int32} {z2 : Int32} {A : aS} : (c_landing z1 z2 A).2.2 = A := by
  unfold c_landing
  first
    | (split <;> rfl)
    | ((repeat' split) <;> rfl)
    | (by_cases h1 : vF A.1.1 z1 <;> by_cases h2 : bt2 (nI 0) z2 (nI 4) <;> simp [h1, h2])
    | (by_cases h1 : bt2 (nI 1) z1 (nI 60) ∧ bt2 (nI 0) z2 (nI 3) <;> simp [h1])
theorem cQ_finds {z1 : Int32} {A : aS} : (c_finds z1 A).2.2 = A := by
  unfold c_finds
  first
    | (split <;> rfl)
    | ((repeat' split) <;> rfl)
    | (by_cases h1 : vF A.1.1 z1 <;> by_cases h2 : bt2 (nI 0) z2 (nI 4) <;> simp [h1, h2])
    | (by_cases h1 : bt2 (nI 1) z1 (nI 60) ∧ bt2 (nI 0) z2 (nI 3) <;> simp [h1])
theorem cQ_coming {z1 : Int32} {z2 : Int32} {A : aS} : (c_coming z1 z2 A).2.2 = A := by
  unfold c_coming
  first
    | (split <;> rfl)
    | ((repeat' split) <;> rfl)
    | (by_cases h1 : vF A.1.1 z1 <;> by_cases h2 : bt2 (nI 0) z2 (nI 4) <;> simp [h1, h2])
    | (by_cases h1 : bt2 (nI 1) z1 (nI 60) ∧ bt2 (nI 0) z2 (nI 3) <;> simp [h1])
theorem cQ_lacks {z1 : Int32} {z2 : Int32} {A : aS} : (c_lacks z1 z2 A).2.2 = A := by
  unfold c_lacks
  first
    | (split <;> rfl)
    | ((repeat' split) <;> rfl)
    | (by_cases h1 : vF A.1.1 z1 <;> by_cases h2 : bt2 (nI 0) z2 (nI 4) <;> simp [h1, h2])
    | (by_cases h1 : bt2 (nI 1) z1 (nI 60) ∧ bt2 (nI 0) z2 (nI 3) <;> simp [h1])
theorem cQ_ifDelivered {z1 : Int32} {z2 : Int32} {z3 : Int32} {z4 : Int32} {A : aS} : (c_ifDelivered z1 z2 z3 z4 A).2.2 = A := by
  unfold c_ifDelivered
  first
    | (split <;> rfl)
    | ((repeat' split) <;> rfl)
    | (by_cases h1 : vF A.1.1 z1 <;> by_cases h2 : bt2 (nI 0) z2 (nI 4) <;> simp [h1, h2])
    | (by_cases h1 : bt2 (nI 1) z1 (nI 60) ∧ bt2 (nI 0) z2 (nI 3) <;> simp [h1])
theorem cQ_runScript {z1 : Int32} {z2 : Int64} {A : aS} : (c_runScript z1 z2 A).2.2 = A := by
  unfold c_runScript
  first
    | (split <;> rfl)
    | ((repeat' split) <;> rfl)
    | (by_cases h1 : vF A.1.1 z1 <;> by_cases h2 : bt2 (nI 0) z2 (nI 4) <;> simp [h1, h2])
    | (by_cases h1 : bt2 (nI 1) z1 (nI 60) ∧ bt2 (nI 0) z2 (nI 3) <;> simp [h1])
theorem cQ_simulate {z1 : Int64} {z2 : Int32} {A : aS} : (c_simulate z1 z2 A).2.2 = A := by
  unfold c_simulate
  first
    | (split <;> rfl)
    | ((repeat' split) <;> rfl)
    | (by_cases h1 : vF A.1.1 z1 <;> by_cases h2 : bt2 (nI 0) z2 (nI 4) <;> simp [h1, h2])
    | (by_cases h1 : bt2 (nI 1) z1 (nI 60) ∧ bt2 (nI 0) z2 (nI 3) <;> simp [h1])
theorem lEx_ix : lEx x_ix = kIX := if_pos rfl
theorem lEx_ar : lEx x_ar = kAR := by unfold lEx; rw [if_neg (by decide), if_pos rfl]; rfl
theorem lEx_st : lEx x_st = kST := by unfold lEx; rw [if_neg (by decide), if_neg (by decide)]; rfl
theorem lr_about {z1 : Int32} {A : aS} : lr [x_ar] (c_about z1 A) = v_about z1 A.1 := by
  unfold c_about v_about
  by_cases h1 : bt2 (nI 0) z1 (nI 11)
  · rw [if_pos h1, if_pos h1]; rfl
  · rw [if_neg h1, if_neg h1]; exact lEx_ar
theorem lr_station {z1 : Int32} {z2 : Int32} {A : aS} : lr [x_ix, x_ar] (c_station z1 z2 A) = v_station z1 z2 A.1 := by
  unfold c_station v_station
  by_cases h1 : vS A.1.1 z1
  · rw [if_pos h1, if_pos h1]
    by_cases h2 : bt2 (nI 0) z2 (nI 7)
    · rw [if_pos h2, if_pos h2]; rfl
    · rw [if_neg h2, if_neg h2]; exact lEx_ar
  · rw [if_neg h1, if_neg h1]; exact lEx_ix
theorem lr_stock {z1 : Int32} {z2 : Int32} {A : aS} : lr [x_ix, x_ar] (c_stock z1 z2 A) = v_stock z1 z2 A.1 := by
  unfold c_stock v_stock
  by_cases h1 : vS A.1.1 z1
  · rw [if_pos h1, if_pos h1]
    by_cases h2 : bt2 (nI 0) z2 (nI 4)
    · rw [if_pos h2, if_pos h2]; rfl
    · rw [if_neg h2, if_neg h2]; exact lEx_ar
  · rw [if_neg h1, if_neg h1]; exact lEx_ix
theorem lr_finder {z1 : Int32} {z2 : Int32} {A : aS} : lr [x_ix, x_ar] (c_finder z1 z2 A) = v_finder z1 z2 A.1 := by
  unfold c_finder v_finder
  by_cases h1 : vF A.1.1 z1
  · rw [if_pos h1, if_pos h1]
    by_cases h2 : bt2 (nI 0) z2 (nI 4)
    · rw [if_pos h2, if_pos h2]; rfl
    · rw [if_neg h2, if_neg h2]; exact lEx_ar
  · rw [if_neg h1, if_neg h1]; exact lEx_ix
theorem lr_back {z1 : Int32} {z2 : Int32} {A : aS} : lr [x_ar] (c_back z1 z2 A) = v_back z1 z2 A.1 := by
  unfold c_back v_back
  by_cases h1 : 0 ≤ z1 ∧ bt2 (nI 0) z2 (nI 2)
  · rw [if_pos h1, if_pos h1]; rfl
  · rw [if_neg h1, if_neg h1]; exact lEx_ar
theorem lr_gap {z1 : Int32} {z2 : Int32} {A : aS} : lr [x_ar] (c_gap z1 z2 A) = v_gap z1 z2 A.1 := by
  unfold c_gap v_gap
  by_cases h1 : 0 ≤ z1 ∧ bt2 (nI 0) z2 (nI 2)
  · rw [if_pos h1, if_pos h1]; rfl
  · rw [if_neg h1, if_neg h1]; exact lEx_ar
theorem lr_windOf {z1 : Int32} {A : aS} : lr [x_ar] (c_windOf z1 A) = v_windOf z1 A.1 := by
  unfold c_windOf v_windOf
  by_cases h1 : bt2 (nI 0) z1 (nI 3)
  · rw [if_pos h1, if_pos h1]; rfl
  · rw [if_neg h1, if_neg h1]; exact lEx_ar
theorem lr_setting {z1 : Int32} {A : aS} : lr [x_ar] (c_setting z1 A) = v_setting z1 A.1 := by
  unfold c_setting v_setting
  by_cases h1 : bt2 (nI 0) z1 (nI 4)
  · rw [if_pos h1, if_pos h1]; rfl
  · rw [if_neg h1, if_neg h1]; exact lEx_ar
theorem lr_landing {z1 : Int32} {z2 : Int32} {A : aS} : lr [x_ix, x_ar] (c_landing z1 z2 A) = v_landing z1 z2 A.1 := by
  unfold c_landing v_landing
  by_cases h1 : vS A.1.1 z1
  · rw [if_pos h1, if_pos h1]
    by_cases h2 : bt2 (nI 0) z2 (nI 3)
    · rw [if_pos h2, if_pos h2]; rfl
    · rw [if_neg h2, if_neg h2]; exact lEx_ar
  · rw [if_neg h1, if_neg h1]; exact lEx_ix
theorem lr_finds {z1 : Int32} {A : aS} : lr [x_ar] (c_finds z1 A) = v_finds z1 A.1 := by
  unfold c_finds v_finds
  by_cases h1 : bt2 (nI 0) z1 (nI 99)
  · rw [if_pos h1, if_pos h1]; rfl
  · rw [if_neg h1, if_neg h1]; exact lEx_ar
theorem lr_coming {z1 : Int32} {z2 : Int32} {A : aS} : lr [x_ar] (c_coming z1 z2 A) = v_coming z1 z2 A.1 := by
  unfold c_coming v_coming
  by_cases h1 : bt2 (nI 1) z1 (nI 60) ∧ bt2 (nI 0) z2 (nI 3)
  · rw [if_pos h1, if_pos h1]; rfl
  · rw [if_neg h1, if_neg h1]; exact lEx_ar
theorem lr_lacks {z1 : Int32} {z2 : Int32} {A : aS} : lr [x_ix, x_ar] (c_lacks z1 z2 A) = v_lacks z1 z2 A.1 := by
  unfold c_lacks v_lacks
  by_cases h1 : vS A.1.1 z1
  · rw [if_pos h1, if_pos h1]
    by_cases h2 : bt2 (nI 1) z2 (nI 60)
    · rw [if_pos h2, if_pos h2]; rfl
    · rw [if_neg h2, if_neg h2]; exact lEx_ar
  · rw [if_neg h1, if_neg h1]; exact lEx_ix
theorem lr_ifDelivered {z1 : Int32} {z2 : Int32} {z3 : Int32} {z4 : Int32} {A : aS} : lr [x_ix, x_ar, x_st] (c_ifDelivered z1 z2 z3 z4 A) = v_ifDelivered z1 z2 z3 z4 A.1 := by
  unfold c_ifDelivered v_ifDelivered
  by_cases h1 : rO A.1.1 A.1.2.1.length z1 z2 z3 ≠ 1 ∧ ¬ bt2 (nI 1) z4 (nI 60)
  · rw [if_pos h1, if_pos h1]; exact lEx_ar
  · rw [if_neg h1, if_neg h1]
    have h5 : rO A.1.1 A.1.2.1.length z1 z2 z3 = 0 ∨ rO A.1.1 A.1.2.1.length z1 z2 z3 = 1 ∨ rO A.1.1 A.1.2.1.length z1 z2 z3 = 2 ∨ rO A.1.1 A.1.2.1.length z1 z2 z3 = 3 := by unfold rO; (repeat' split) <;> omega
    rcases h5 with h5 | h5 | h5 | h5 <;> rw [h5]
    · rfl
    · exact lEx_ix
    · exact lEx_ar
    · exact lEx_st
theorem lr_script {z1 : Int32} {z2 : Int64} {A : aS} : lr [x_ar] (c_runScript z1 z2 A) = v_script z1 z2 A.1 := by
  unfold c_runScript v_script
  by_cases h1 : bt2 (nI 1) z1 (nI 3) ∧ 0 ≤ z2.toInt ∧ z2.toInt < 100000 ^ (cl z1)
  · rw [if_pos h1, if_pos h1]; rfl
  · rw [if_neg h1, if_neg h1]; exact lEx_ar
theorem lr_simulate {z1 : Int64} {z2 : Int32} {A : aS} : lr [x_ar] (c_simulate z1 z2 A) = v_simulate z1 z2 A.1 := by
  unfold c_simulate v_simulate
  by_cases h1 : bt2 (nI 1) z2 (nI 40)
  · rw [if_pos h1, if_pos h1]; rfl
  · rw [if_neg h1, if_neg h1]; exact lEx_ar
theorem wm_353 : Cond.castable "java/lang/IllegalStateException" "java/lang/IllegalStateException" ∈ ab_N := ab_inN 353 (by decide +kernel) rfl
theorem wm_621 : Cond.castable "java/lang/IndexOutOfBoundsException" "java/lang/IndexOutOfBoundsException" ∈ ab_N := ab_inN 621 (by decide +kernel) rfl
theorem wm_670 : Cond.castable "java/lang/IllegalArgumentException" "java/lang/IllegalArgumentException" ∈ ab_N := ab_inN 670 (by decide +kernel) rfl
theorem wl_1 : Cond.initialized yX9_undo.cls ∈ ab_T := ab_in 1 (by decide +kernel) rfl
theorem wl_322 : Cond.classLink RL 19 "java/lang/IllegalStateException" ∈ ab_T := ab_in 322 (by decide +kernel) rfl
theorem wl_323 : Cond.methodLink RL 23 yX9_load ∈ ab_T := ab_in 323 (by decide +kernel) rfl
theorem wl_324 : Cond.instanceMethod yX9_load ∈ ab_T := ab_in 324 (by decide +kernel) rfl
theorem wl_325 : Cond.selects yX9_load.cls yX9_load yX9_load ∈ ab_T := ab_in 325 (by decide +kernel) rfl
theorem wl_326 : Cond.code yX9_load cX9_load 3 (some .int) ∈ ab_T := ab_in 326 (by decide +kernel) rfl
theorem wl_605 : Cond.constantLong RL 21 (-9000000000000000003) ∈ ab_T := ab_in 605 (by decide +kernel) rfl
theorem wl_609 : Cond.classLink RL 34 "java/lang/IndexOutOfBoundsException" ∈ ab_T := ab_in 609 (by decide +kernel) rfl
theorem wl_610 : Cond.methodLink RL 109 yX9_save ∈ ab_T := ab_in 610 (by decide +kernel) rfl
theorem wl_611 : Cond.instanceMethod yX9_save ∈ ab_T := ab_in 611 (by decide +kernel) rfl
theorem wl_612 : Cond.selects yX9_save.cls yX9_save yX9_save ∈ ab_T := ab_in 612 (by decide +kernel) rfl
theorem wl_613 : Cond.code yX9_save cX9_save 3 (some .int) ∈ ab_T := ab_in 613 (by decide +kernel) rfl
theorem wl_635 : Cond.constantLong RL 36 (-9000000000000000001) ∈ ab_T := ab_in 635 (by decide +kernel) rfl
theorem wl_639 : Cond.methodLink RL 112 yX9_restore ∈ ab_T := ab_in 639 (by decide +kernel) rfl
theorem wl_640 : Cond.instanceMethod yX9_restore ∈ ab_T := ab_in 640 (by decide +kernel) rfl
theorem wl_641 : Cond.selects yX9_restore.cls yX9_restore yX9_restore ∈ ab_T := ab_in 641 (by decide +kernel) rfl
theorem wl_642 : Cond.code yX9_restore cX9_restore 3 (some .int) ∈ ab_T := ab_in 642 (by decide +kernel) rfl
theorem wl_655 : Cond.classLink RL 15 "java/lang/IllegalArgumentException" ∈ ab_T := ab_in 655 (by decide +kernel) rfl
theorem wl_656 : Cond.methodLink RL 27 yX9_about ∈ ab_T := ab_in 656 (by decide +kernel) rfl
theorem wl_657 : Cond.instanceMethod yX9_about ∈ ab_T := ab_in 657 (by decide +kernel) rfl
theorem wl_658 : Cond.selects yX9_about.cls yX9_about yX9_about ∈ ab_T := ab_in 658 (by decide +kernel) rfl
theorem wl_659 : Cond.code yX9_about cX9_about 2 (some .int) ∈ ab_T := ab_in 659 (by decide +kernel) rfl
theorem wl_684 : Cond.constantLong RL 17 (-9000000000000000002) ∈ ab_T := ab_in 684 (by decide +kernel) rfl
theorem wl_688 : Cond.methodLink RL 53 yX9_setting ∈ ab_T := ab_in 688 (by decide +kernel) rfl
theorem wl_689 : Cond.instanceMethod yX9_setting ∈ ab_T := ab_in 689 (by decide +kernel) rfl
theorem wl_690 : Cond.selects yX9_setting.cls yX9_setting yX9_setting ∈ ab_T := ab_in 690 (by decide +kernel) rfl
theorem wl_691 : Cond.code yX9_setting cX9_setting 2 (some .int) ∈ ab_T := ab_in 691 (by decide +kernel) rfl
theorem wl_699 : Cond.methodLink RL 50 yX9_windOf ∈ ab_T := ab_in 699 (by decide +kernel) rfl
theorem wl_700 : Cond.instanceMethod yX9_windOf ∈ ab_T := ab_in 700 (by decide +kernel) rfl
theorem wl_701 : Cond.selects yX9_windOf.cls yX9_windOf yX9_windOf ∈ ab_T := ab_in 701 (by decide +kernel) rfl
theorem wl_702 : Cond.code yX9_windOf cX9_windOf 2 (some .int) ∈ ab_T := ab_in 702 (by decide +kernel) rfl
theorem wl_706 : Cond.methodLink RL 30 yX9_station ∈ ab_T := ab_in 706 (by decide +kernel) rfl
theorem wl_707 : Cond.instanceMethod yX9_station ∈ ab_T := ab_in 707 (by decide +kernel) rfl
theorem wl_708 : Cond.selects yX9_station.cls yX9_station yX9_station ∈ ab_T := ab_in 708 (by decide +kernel) rfl
theorem wl_709 : Cond.code yX9_station cX9_station 4 (some .int) ∈ ab_T := ab_in 709 (by decide +kernel) rfl
theorem wl_727 : Cond.methodLink RL 38 yX9_stock ∈ ab_T := ab_in 727 (by decide +kernel) rfl
theorem wl_728 : Cond.instanceMethod yX9_stock ∈ ab_T := ab_in 728 (by decide +kernel) rfl
theorem wl_729 : Cond.selects yX9_stock.cls yX9_stock yX9_stock ∈ ab_T := ab_in 729 (by decide +kernel) rfl
theorem wl_730 : Cond.code yX9_stock cX9_stock 3 (some .int) ∈ ab_T := ab_in 730 (by decide +kernel) rfl
theorem wl_738 : Cond.methodLink RL 41 yX9_finder ∈ ab_T := ab_in 738 (by decide +kernel) rfl
theorem wl_739 : Cond.instanceMethod yX9_finder ∈ ab_T := ab_in 739 (by decide +kernel) rfl
theorem wl_740 : Cond.selects yX9_finder.cls yX9_finder yX9_finder ∈ ab_T := ab_in 740 (by decide +kernel) rfl
theorem wl_741 : Cond.code yX9_finder cX9_finder 4 (some .int) ∈ ab_T := ab_in 741 (by decide +kernel) rfl
theorem wl_752 : Cond.methodLink RL 47 yX9_gap ∈ ab_T := ab_in 752 (by decide +kernel) rfl
theorem wl_753 : Cond.instanceMethod yX9_gap ∈ ab_T := ab_in 753 (by decide +kernel) rfl
theorem wl_754 : Cond.selects yX9_gap.cls yX9_gap yX9_gap ∈ ab_T := ab_in 754 (by decide +kernel) rfl
theorem wl_755 : Cond.code yX9_gap cX9_gap 3 (some .int) ∈ ab_T := ab_in 755 (by decide +kernel) rfl
theorem wl_765 : Cond.methodLink RL 44 yX9_back ∈ ab_T := ab_in 765 (by decide +kernel) rfl
theorem wl_766 : Cond.instanceMethod yX9_back ∈ ab_T := ab_in 766 (by decide +kernel) rfl
theorem wl_767 : Cond.selects yX9_back.cls yX9_back yX9_back ∈ ab_T := ab_in 767 (by decide +kernel) rfl
theorem wl_768 : Cond.code yX9_back cX9_back 3 (some .int) ∈ ab_T := ab_in 768 (by decide +kernel) rfl
theorem wl_777 : Cond.methodLink RL 56 yX9_addStation ∈ ab_T := ab_in 777 (by decide +kernel) rfl
theorem wl_778 : Cond.instanceMethod yX9_addStation ∈ ab_T := ab_in 778 (by decide +kernel) rfl
theorem wl_779 : Cond.selects yX9_addStation.cls yX9_addStation yX9_addStation ∈ ab_T := ab_in 779 (by decide +kernel) rfl
theorem wl_780 : Cond.code yX9_addStation cX9_addStation 6 (some .int) ∈ ab_T := ab_in 780 (by decide +kernel) rfl
theorem wl_798 : Cond.methodLink RL 60 yX9_addFinder ∈ ab_T := ab_in 798 (by decide +kernel) rfl
theorem wl_799 : Cond.instanceMethod yX9_addFinder ∈ ab_T := ab_in 799 (by decide +kernel) rfl
theorem wl_800 : Cond.selects yX9_addFinder.cls yX9_addFinder yX9_addFinder ∈ ab_T := ab_in 800 (by decide +kernel) rfl
theorem wl_801 : Cond.code yX9_addFinder cX9_addFinder 4 (some .int) ∈ ab_T := ab_in 801 (by decide +kernel) rfl
theorem wl_806 : Cond.methodLink RL 64 yX9_wind ∈ ab_T := ab_in 806 (by decide +kernel) rfl
theorem wl_807 : Cond.instanceMethod yX9_wind ∈ ab_T := ab_in 807 (by decide +kernel) rfl
theorem wl_808 : Cond.selects yX9_wind.cls yX9_wind yX9_wind ∈ ab_T := ab_in 808 (by decide +kernel) rfl
theorem wl_809 : Cond.code yX9_wind cX9_wind 4 (some .int) ∈ ab_T := ab_in 809 (by decide +kernel) rfl
theorem wl_814 : Cond.methodLink RL 67 yX9_change ∈ ab_T := ab_in 814 (by decide +kernel) rfl
theorem wl_815 : Cond.instanceMethod yX9_change ∈ ab_T := ab_in 815 (by decide +kernel) rfl
theorem wl_816 : Cond.selects yX9_change.cls yX9_change yX9_change ∈ ab_T := ab_in 816 (by decide +kernel) rfl
theorem wl_817 : Cond.code yX9_change cX9_change 5 (some .int) ∈ ab_T := ab_in 817 (by decide +kernel) rfl
theorem wl_830 : Cond.methodLink RL 70 yX9_deliver ∈ ab_T := ab_in 830 (by decide +kernel) rfl
theorem wl_831 : Cond.instanceMethod yX9_deliver ∈ ab_T := ab_in 831 (by decide +kernel) rfl
theorem wl_832 : Cond.selects yX9_deliver.cls yX9_deliver yX9_deliver ∈ ab_T := ab_in 832 (by decide +kernel) rfl
theorem wl_833 : Cond.code yX9_deliver cX9_deliver 4 (some .int) ∈ ab_T := ab_in 833 (by decide +kernel) rfl
theorem wl_839 : Cond.methodLink RL 73 yX9_move ∈ ab_T := ab_in 839 (by decide +kernel) rfl
theorem wl_840 : Cond.instanceMethod yX9_move ∈ ab_T := ab_in 840 (by decide +kernel) rfl
theorem wl_841 : Cond.selects yX9_move.cls yX9_move yX9_move ∈ ab_T := ab_in 841 (by decide +kernel) rfl
theorem wl_842 : Cond.code yX9_move cX9_move 4 (some .int) ∈ ab_T := ab_in 842 (by decide +kernel) rfl
theorem wl_856 : Cond.methodLink RL 76 yX9_run ∈ ab_T := ab_in 856 (by decide +kernel) rfl
theorem wl_857 : Cond.instanceMethod yX9_run ∈ ab_T := ab_in 857 (by decide +kernel) rfl
theorem wl_858 : Cond.selects yX9_run.cls yX9_run yX9_run ∈ ab_T := ab_in 858 (by decide +kernel) rfl
theorem wl_859 : Cond.code yX9_run cX9_run 3 (some .int) ∈ ab_T := ab_in 859 (by decide +kernel) rfl
theorem wl_863 : Cond.methodLink RL 79 yX9_set ∈ ab_T := ab_in 863 (by decide +kernel) rfl
theorem wl_864 : Cond.instanceMethod yX9_set ∈ ab_T := ab_in 864 (by decide +kernel) rfl
theorem wl_865 : Cond.selects yX9_set.cls yX9_set yX9_set ∈ ab_T := ab_in 865 (by decide +kernel) rfl
theorem wl_866 : Cond.code yX9_set cX9_set 4 (some .int) ∈ ab_T := ab_in 866 (by decide +kernel) rfl
theorem wl_883 : Cond.methodLink RL 85 yX9_landing ∈ ab_T := ab_in 883 (by decide +kernel) rfl
theorem wl_884 : Cond.instanceMethod yX9_landing ∈ ab_T := ab_in 884 (by decide +kernel) rfl
theorem wl_885 : Cond.selects yX9_landing.cls yX9_landing yX9_landing ∈ ab_T := ab_in 885 (by decide +kernel) rfl
theorem wl_886 : Cond.code yX9_landing cX9_landing 3 (some .int) ∈ ab_T := ab_in 886 (by decide +kernel) rfl
theorem wl_891 : Cond.methodLink RL 88 yX9_finds ∈ ab_T := ab_in 891 (by decide +kernel) rfl
theorem wl_892 : Cond.instanceMethod yX9_finds ∈ ab_T := ab_in 892 (by decide +kernel) rfl
theorem wl_893 : Cond.selects yX9_finds.cls yX9_finds yX9_finds ∈ ab_T := ab_in 893 (by decide +kernel) rfl
theorem wl_894 : Cond.code yX9_finds cX9_finds 2 (some .int) ∈ ab_T := ab_in 894 (by decide +kernel) rfl
theorem wl_899 : Cond.methodLink RL 91 yX9_coming ∈ ab_T := ab_in 899 (by decide +kernel) rfl
theorem wl_900 : Cond.instanceMethod yX9_coming ∈ ab_T := ab_in 900 (by decide +kernel) rfl
theorem wl_901 : Cond.selects yX9_coming.cls yX9_coming yX9_coming ∈ ab_T := ab_in 901 (by decide +kernel) rfl
theorem wl_902 : Cond.code yX9_coming cX9_coming 3 (some .int) ∈ ab_T := ab_in 902 (by decide +kernel) rfl
theorem wl_906 : Cond.methodLink RL 94 yX9_lacks ∈ ab_T := ab_in 906 (by decide +kernel) rfl
theorem wl_907 : Cond.instanceMethod yX9_lacks ∈ ab_T := ab_in 907 (by decide +kernel) rfl
theorem wl_908 : Cond.selects yX9_lacks.cls yX9_lacks yX9_lacks ∈ ab_T := ab_in 908 (by decide +kernel) rfl
theorem wl_909 : Cond.code yX9_lacks cX9_lacks 7 (some .int) ∈ ab_T := ab_in 909 (by decide +kernel) rfl
theorem wl_918 : Cond.methodLink RL 97 yX9_ifDelivered ∈ ab_T := ab_in 918 (by decide +kernel) rfl
theorem wl_919 : Cond.instanceMethod yX9_ifDelivered ∈ ab_T := ab_in 919 (by decide +kernel) rfl
theorem wl_920 : Cond.selects yX9_ifDelivered.cls yX9_ifDelivered yX9_ifDelivered ∈ ab_T := ab_in 920 (by decide +kernel) rfl
theorem wl_921 : Cond.code yX9_ifDelivered cX9_ifDelivered 6 (some .int) ∈ ab_T := ab_in 921 (by decide +kernel) rfl
theorem wl_926 : Cond.methodLink RL 101 yX9_runScript ∈ ab_T := ab_in 926 (by decide +kernel) rfl
theorem wl_927 : Cond.instanceMethod yX9_runScript ∈ ab_T := ab_in 927 (by decide +kernel) rfl
theorem wl_928 : Cond.selects yX9_runScript.cls yX9_runScript yX9_runScript ∈ ab_T := ab_in 928 (by decide +kernel) rfl
theorem wl_929 : Cond.code yX9_runScript cX9_runScript 5 (some .int) ∈ ab_T := ab_in 929 (by decide +kernel) rfl
theorem wl_949 : Cond.methodLink RL 105 yX9_simulate ∈ ab_T := ab_in 949 (by decide +kernel) rfl
theorem wl_950 : Cond.instanceMethod yX9_simulate ∈ ab_T := ab_in 950 (by decide +kernel) rfl
theorem wl_951 : Cond.selects yX9_simulate.cls yX9_simulate yX9_simulate ∈ ab_T := ab_in 951 (by decide +kernel) rfl
theorem wl_952 : Cond.code yX9_simulate cX9_simulate 7 (some .int) ∈ ab_T := ab_in 952 (by decide +kernel) rfl
theorem wl_962 : Cond.methodLink RL 9 yX9_append ∈ ab_T := ab_in 962 (by decide +kernel) rfl
theorem wl_963 : Cond.instanceMethod yX9_append ∈ ab_T := ab_in 963 (by decide +kernel) rfl
theorem wl_964 : Cond.selects yX9_append.cls yX9_append yX9_append ∈ ab_T := ab_in 964 (by decide +kernel) rfl
theorem wl_965 : Cond.code yX9_append cX9_append 2 (some .int) ∈ ab_T := ab_in 965 (by decide +kernel) rfl
theorem wl_991 : Cond.methodLink RL 82 yX9_undo ∈ ab_T := ab_in 991 (by decide +kernel) rfl
theorem wl_992 : Cond.instanceMethod yX9_undo ∈ ab_T := ab_in 992 (by decide +kernel) rfl
theorem wl_993 : Cond.selects yX9_undo.cls yX9_undo yX9_undo ∈ ab_T := ab_in 993 (by decide +kernel) rfl
theorem wl_994 : Cond.code yX9_undo cX9_undo 1 (some .int) ∈ ab_T := ab_in 994 (by decide +kernel) rfl
theorem dL_load_0 : decode cL_load 0 = .ok (.aload_n 0, 1) := by decide +kernel
theorem dL_load_1 : decode cL_load 1 = .ok (.invokevirtual 23, 3) := by decide +kernel
theorem dL_load_4 : decode cL_load 4 = .ok (.i2l, 1) := by decide +kernel
theorem dL_load_5 : decode cL_load 5 = .ok (.lreturn, 1) := by decide +kernel
theorem dL_load_6 : decode cL_load 6 = .ok (.astore_n 1, 1) := by decide +kernel
theorem dL_load_7 : decode cL_load 7 = .ok (.ldc2_w 21, 3) := by decide +kernel
theorem dL_load_10 : decode cL_load 10 = .ok (.lreturn, 1) := by decide +kernel
def sp_L_load : la_S := fun As A K => match As with
  | [.ref i] => i < 2 ∧ okA (A i) ∧ K (some (.long (lr [x_st] (c_load (A i))))) (lup A i (c_load (A i)).2.2)
  | _ => False
set_option maxRecDepth 20000 in
set_option maxHeartbeats 4000000 in
theorem ok_L_load {l : Launch} (hl : l.stackTraces = false) : la_Ok l yL_load (Cond.codeWith yL_load cL_load 2 (some .long) [(0, 5, 6, 19)]) 8 (30 * 8) 1 sp_L_load := by
  intro Y A As K hw h
  unfold sp_L_load at h
  split at h
  · next i =>
    obtain ⟨hi, hA, h⟩ := h
    refine la_enterH (by decide) hl hw (Nat.le_of_ble_eq_true rfl) ?_
    intro p e R s m args' below meth c C htab hr
    refine sl_aload_n C (i := 0) dL_load_0 rfl (fun _ _ _ h => h) _ _ _ (la_call (i := i) (n := 0) (As := []) C htab hr hi rfl ⟨by decide, by decide, wl_326, wl_1, by decide +kernel⟩ wl_323 wl_324 wl_325 dL_load_1 dL_load_4 dL_load_5 rfl rfl [x_st] c_load (cE_load) hA (fun hs => cb_X9_load hl (hw.1 i hi).2.1 hs) (fun k E hk => ?_) h)
    rcases (by have := (List.getElem?_eq_some_iff.mp hk).1; simp only [List.length_cons, List.length_nil] at this; omega : k = 0) with rfl
    · cases hk
      exact ⟨[], ⟨0, 5, 6, 19⟩, [], rfl, (fun y hy => absurd hy List.not_mem_nil), by decide, by decide, wl_322, wm_353, Or.inl ⟨1, dL_load_6, by decide, ⟨21, dL_load_7, wl_605, dL_load_10⟩⟩⟩
  · exact h.elim
theorem dL_save_0 : decode cL_save 0 = .ok (.aload_n 0, 1) := by decide +kernel
theorem dL_save_1 : decode cL_save 1 = .ok (.iload_n 1, 1) := by decide +kernel
theorem dL_save_2 : decode cL_save 2 = .ok (.invokevirtual 109, 3) := by decide +kernel
theorem dL_save_5 : decode cL_save 5 = .ok (.i2l, 1) := by decide +kernel
theorem dL_save_6 : decode cL_save 6 = .ok (.lreturn, 1) := by decide +kernel
theorem dL_save_7 : decode cL_save 7 = .ok (.astore_n 2, 1) := by decide +kernel
theorem dL_save_8 : decode cL_save 8 = .ok (.ldc2_w 36, 3) := by decide +kernel
theorem dL_save_11 : decode cL_save 11 = .ok (.lreturn, 1) := by decide +kernel
def sp_L_save : la_S := fun As A K => match As with
  | [.ref i, .int z1] => i < 2 ∧ okA (A i) ∧ K (some (.long (lr [x_ix] ((c_save z1) (A i))))) (lup A i ((c_save z1) (A i)).2.2)
  | _ => False
set_option maxRecDepth 20000 in
set_option maxHeartbeats 4000000 in
theorem ok_L_save {l : Launch} (hl : l.stackTraces = false) : la_Ok l yL_save (Cond.codeWith yL_save cL_save 3 (some .long) [(0, 6, 7, 34)]) 8 (30 * 8) 1 sp_L_save := by
  intro Y A As K hw h
  unfold sp_L_save at h
  split at h
  · next i z1 =>
    obtain ⟨hi, hA, h⟩ := h
    refine la_enterH (by decide) hl hw (Nat.le_of_ble_eq_true rfl) ?_
    intro p e R s m args' below meth c C htab hr
    refine sl_aload_n C (i := 0) dL_save_0 rfl (sl_iload_n C (i := 1) dL_save_1 rfl (fun _ _ _ h => h)) _ _ _ (la_call (i := i) (n := 1) (As := [.int z1]) C htab hr hi rfl ⟨by decide, by decide, wl_613, wl_1, by decide +kernel⟩ wl_610 wl_611 wl_612 dL_save_2 dL_save_5 dL_save_6 rfl rfl [x_ix] (c_save z1) (cE_save z1) hA (fun hs => cb_X9_save hl (hw.1 i hi).2.1 z1 hs) (fun k E hk => ?_) h)
    rcases (by have := (List.getElem?_eq_some_iff.mp hk).1; simp only [List.length_cons, List.length_nil] at this; omega : k = 0) with rfl
    · cases hk
      exact ⟨[], ⟨0, 6, 7, 34⟩, [], rfl, (fun y hy => absurd hy List.not_mem_nil), by decide, by decide, wl_609, wm_621, Or.inl ⟨2, dL_save_7, by decide, ⟨36, dL_save_8, wl_635, dL_save_11⟩⟩⟩
  · exact h.elim
theorem dL_restore_0 : decode cL_restore 0 = .ok (.aload_n 0, 1) := by decide +kernel
theorem dL_restore_1 : decode cL_restore 1 = .ok (.iload_n 1, 1) := by decide +kernel
theorem dL_restore_2 : decode cL_restore 2 = .ok (.invokevirtual 112, 3) := by decide +kernel
theorem dL_restore_5 : decode cL_restore 5 = .ok (.i2l, 1) := by decide +kernel
theorem dL_restore_6 : decode cL_restore 6 = .ok (.lreturn, 1) := by decide +kernel
theorem dL_restore_7 : decode cL_restore 7 = .ok (.astore_n 2, 1) := by decide +kernel
theorem dL_restore_8 : decode cL_restore 8 = .ok (.ldc2_w 36, 3) := by decide +kernel
theorem dL_restore_11 : decode cL_restore 11 = .ok (.lreturn, 1) := by decide +kernel
theorem dL_restore_12 : decode cL_restore 12 = .ok (.astore_n 2, 1) := by decide +kernel
theorem dL_restore_13 : decode cL_restore 13 = .ok (.ldc2_w 21, 3) := by decide +kernel
theorem dL_restore_16 : decode cL_restore 16 = .ok (.lreturn, 1) := by decide +kernel
def sp_L_restore : la_S := fun As A K => match As with
  | [.ref i, .int z1] => i < 2 ∧ okA (A i) ∧ K (some (.long (lr [x_ix, x_st] ((c_restore z1) (A i))))) (lup A i ((c_restore z1) (A i)).2.2)
  | _ => False
set_option maxRecDepth 20000 in
set_option maxHeartbeats 4000000 in
theorem ok_L_restore {l : Launch} (hl : l.stackTraces = false) : la_Ok l yL_restore (Cond.codeWith yL_restore cL_restore 3 (some .long) [(0, 6, 7, 34), (0, 6, 12, 19)]) 8 (30 * 8) 1 sp_L_restore := by
  intro Y A As K hw h
  unfold sp_L_restore at h
  split at h
  · next i z1 =>
    obtain ⟨hi, hA, h⟩ := h
    refine la_enterH (by decide) hl hw (Nat.le_of_ble_eq_true rfl) ?_
    intro p e R s m args' below meth c C htab hr
    refine sl_aload_n C (i := 0) dL_restore_0 rfl (sl_iload_n C (i := 1) dL_restore_1 rfl (fun _ _ _ h => h)) _ _ _ (la_call (i := i) (n := 1) (As := [.int z1]) C htab hr hi rfl ⟨by decide, by decide, wl_642, wl_1, by decide +kernel⟩ wl_639 wl_640 wl_641 dL_restore_2 dL_restore_5 dL_restore_6 rfl rfl [x_ix, x_st] (c_restore z1) (cE_restore z1) hA (fun hs => cb_X9_restore hl (hw.1 i hi).2.1 z1 hs) (fun k E hk => ?_) h)
    rcases (by have := (List.getElem?_eq_some_iff.mp hk).1; simp only [List.length_cons, List.length_nil] at this; omega : k = 0 ∨ k = 1) with rfl | rfl
    · cases hk
      exact ⟨[], ⟨0, 6, 7, 34⟩, [⟨0, 6, 12, 19⟩], rfl, (fun y hy => absurd hy List.not_mem_nil), by decide, by decide, wl_609, wm_621, Or.inl ⟨2, dL_restore_7, by decide, ⟨36, dL_restore_8, wl_635, dL_restore_11⟩⟩⟩
    · cases hk
      exact ⟨[⟨0, 6, 7, 34⟩], ⟨0, 6, 12, 19⟩, [], rfl, (fun y hy => by obtain rfl := List.mem_singleton.mp hy; exact ⟨by decide, _, wl_609, fun U h => h.2.2.2⟩), by decide, by decide, wl_322, wm_353, Or.inl ⟨2, dL_restore_12, by decide, ⟨21, dL_restore_13, wl_605, dL_restore_16⟩⟩⟩
  · exact h.elim
theorem dL_about_0 : decode cL_about 0 = .ok (.aload_n 0, 1) := by decide +kernel
theorem dL_about_1 : decode cL_about 1 = .ok (.iload_n 1, 1) := by decide +kernel
theorem dL_about_2 : decode cL_about 2 = .ok (.invokevirtual 27, 3) := by decide +kernel
theorem dL_about_5 : decode cL_about 5 = .ok (.i2l, 1) := by decide +kernel
theorem dL_about_6 : decode cL_about 6 = .ok (.lreturn, 1) := by decide +kernel
theorem dL_about_7 : decode cL_about 7 = .ok (.astore_n 2, 1) := by decide +kernel
theorem dL_about_8 : decode cL_about 8 = .ok (.ldc2_w 17, 3) := by decide +kernel
theorem dL_about_11 : decode cL_about 11 = .ok (.lreturn, 1) := by decide +kernel
def sp_L_about : la_S := fun As A K => match As with
  | [.ref i, .int z1] => i < 2 ∧ okA (A i) ∧ K (some (.long (v_about z1 (A i).1))) A
  | _ => False
set_option maxRecDepth 20000 in
set_option maxHeartbeats 4000000 in
theorem ok_L_about {l : Launch} (hl : l.stackTraces = false) : la_Ok l yL_about (Cond.codeWith yL_about cL_about 3 (some .long) [(0, 6, 7, 15)]) 7 (30 * 7) 1 sp_L_about := by
  intro Y A As K hw h
  unfold sp_L_about at h
  split at h
  · next i z1 =>
    obtain ⟨hi, hA, h⟩ := h
    replace h : K (some (.long (lr [x_ar] ((c_about z1) (A i))))) (lup A i ((c_about z1) (A i)).2.2) := by rw [cQ_about, lup_self, lr_about]; exact h
    refine la_enterH (by decide) hl hw (Nat.le_of_ble_eq_true rfl) ?_
    intro p e R s m args' below meth c C htab hr
    refine sl_aload_n C (i := 0) dL_about_0 rfl (sl_iload_n C (i := 1) dL_about_1 rfl (fun _ _ _ h => h)) _ _ _ (la_call (i := i) (n := 1) (As := [.int z1]) C htab hr hi rfl ⟨by decide, by decide, wl_659, wl_1, by decide +kernel⟩ wl_656 wl_657 wl_658 dL_about_2 dL_about_5 dL_about_6 rfl rfl [x_ar] (c_about z1) (cE_q (fun _ => cQ_about)) hA (fun hs => cb_X9_about hl (hw.1 i hi).2.1 z1 hs) (fun k E hk => ?_) h)
    rcases (by have := (List.getElem?_eq_some_iff.mp hk).1; simp only [List.length_cons, List.length_nil] at this; omega : k = 0) with rfl
    · cases hk
      exact ⟨[], ⟨0, 6, 7, 15⟩, [], rfl, (fun y hy => absurd hy List.not_mem_nil), by decide, by decide, wl_655, wm_670, Or.inl ⟨2, dL_about_7, by decide, ⟨17, dL_about_8, wl_684, dL_about_11⟩⟩⟩
  · exact h.elim
theorem dL_setting_0 : decode cL_setting 0 = .ok (.aload_n 0, 1) := by decide +kernel
theorem dL_setting_1 : decode cL_setting 1 = .ok (.iload_n 1, 1) := by decide +kernel
theorem dL_setting_2 : decode cL_setting 2 = .ok (.invokevirtual 53, 3) := by decide +kernel
theorem dL_setting_5 : decode cL_setting 5 = .ok (.i2l, 1) := by decide +kernel
theorem dL_setting_6 : decode cL_setting 6 = .ok (.lreturn, 1) := by decide +kernel
theorem dL_setting_7 : decode cL_setting 7 = .ok (.astore_n 2, 1) := by decide +kernel
theorem dL_setting_8 : decode cL_setting 8 = .ok (.ldc2_w 17, 3) := by decide +kernel
theorem dL_setting_11 : decode cL_setting 11 = .ok (.lreturn, 1) := by decide +kernel
def sp_L_setting : la_S := fun As A K => match As with
  | [.ref i, .int z1] => i < 2 ∧ okA (A i) ∧ K (some (.long (v_setting z1 (A i).1))) A
  | _ => False
set_option maxRecDepth 20000 in
set_option maxHeartbeats 4000000 in
theorem ok_L_setting {l : Launch} (hl : l.stackTraces = false) : la_Ok l yL_setting (Cond.codeWith yL_setting cL_setting 3 (some .long) [(0, 6, 7, 15)]) 8 (30 * 8) 1 sp_L_setting := by
  intro Y A As K hw h
  unfold sp_L_setting at h
  split at h
  · next i z1 =>
    obtain ⟨hi, hA, h⟩ := h
    replace h : K (some (.long (lr [x_ar] ((c_setting z1) (A i))))) (lup A i ((c_setting z1) (A i)).2.2) := by rw [cQ_setting, lup_self, lr_setting]; exact h
    refine la_enterH (by decide) hl hw (Nat.le_of_ble_eq_true rfl) ?_
    intro p e R s m args' below meth c C htab hr
    refine sl_aload_n C (i := 0) dL_setting_0 rfl (sl_iload_n C (i := 1) dL_setting_1 rfl (fun _ _ _ h => h)) _ _ _ (la_call (i := i) (n := 1) (As := [.int z1]) C htab hr hi rfl ⟨by decide, by decide, wl_691, wl_1, by decide +kernel⟩ wl_688 wl_689 wl_690 dL_setting_2 dL_setting_5 dL_setting_6 rfl rfl [x_ar] (c_setting z1) (cE_q (fun _ => cQ_setting)) hA (fun hs => cb_X9_setting hl (hw.1 i hi).2.1 z1 hs) (fun k E hk => ?_) h)
    rcases (by have := (List.getElem?_eq_some_iff.mp hk).1; simp only [List.length_cons, List.length_nil] at this; omega : k = 0) with rfl
    · cases hk
      exact ⟨[], ⟨0, 6, 7, 15⟩, [], rfl, (fun y hy => absurd hy List.not_mem_nil), by decide, by decide, wl_655, wm_670, Or.inl ⟨2, dL_setting_7, by decide, ⟨17, dL_setting_8, wl_684, dL_setting_11⟩⟩⟩
  · exact h.elim
theorem dL_windOf_0 : decode cL_windOf 0 = .ok (.aload_n 0, 1) := by decide +kernel
theorem dL_windOf_1 : decode cL_windOf 1 = .ok (.iload_n 1, 1) := by decide +kernel
theorem dL_windOf_2 : decode cL_windOf 2 = .ok (.invokevirtual 50, 3) := by decide +kernel
theorem dL_windOf_5 : decode cL_windOf 5 = .ok (.i2l, 1) := by decide +kernel
theorem dL_windOf_6 : decode cL_windOf 6 = .ok (.lreturn, 1) := by decide +kernel
theorem dL_windOf_7 : decode cL_windOf 7 = .ok (.astore_n 2, 1) := by decide +kernel
theorem dL_windOf_8 : decode cL_windOf 8 = .ok (.ldc2_w 17, 3) := by decide +kernel
theorem dL_windOf_11 : decode cL_windOf 11 = .ok (.lreturn, 1) := by decide +kernel
def sp_L_windOf : la_S := fun As A K => match As with
  | [.ref i, .int z1] => i < 2 ∧ okA (A i) ∧ K (some (.long (v_windOf z1 (A i).1))) A
  | _ => False
set_option maxRecDepth 20000 in
set_option maxHeartbeats 4000000 in
theorem ok_L_windOf {l : Launch} (hl : l.stackTraces = false) : la_Ok l yL_windOf (Cond.codeWith yL_windOf cL_windOf 3 (some .long) [(0, 6, 7, 15)]) 8 (30 * 8) 1 sp_L_windOf := by
  intro Y A As K hw h
  unfold sp_L_windOf at h
  split at h
  · next i z1 =>
    obtain ⟨hi, hA, h⟩ := h
    replace h : K (some (.long (lr [x_ar] ((c_windOf z1) (A i))))) (lup A i ((c_windOf z1) (A i)).2.2) := by rw [cQ_windOf, lup_self, lr_windOf]; exact h
    refine la_enterH (by decide) hl hw (Nat.le_of_ble_eq_true rfl) ?_
    intro p e R s m args' below meth c C htab hr
    refine sl_aload_n C (i := 0) dL_windOf_0 rfl (sl_iload_n C (i := 1) dL_windOf_1 rfl (fun _ _ _ h => h)) _ _ _ (la_call (i := i) (n := 1) (As := [.int z1]) C htab hr hi rfl ⟨by decide, by decide, wl_702, wl_1, by decide +kernel⟩ wl_699 wl_700 wl_701 dL_windOf_2 dL_windOf_5 dL_windOf_6 rfl rfl [x_ar] (c_windOf z1) (cE_q (fun _ => cQ_windOf)) hA (fun hs => cb_X9_windOf hl (hw.1 i hi).2.1 z1 hs) (fun k E hk => ?_) h)
    rcases (by have := (List.getElem?_eq_some_iff.mp hk).1; simp only [List.length_cons, List.length_nil] at this; omega : k = 0) with rfl
    · cases hk
      exact ⟨[], ⟨0, 6, 7, 15⟩, [], rfl, (fun y hy => absurd hy List.not_mem_nil), by decide, by decide, wl_655, wm_670, Or.inl ⟨2, dL_windOf_7, by decide, ⟨17, dL_windOf_8, wl_684, dL_windOf_11⟩⟩⟩
  · exact h.elim
theorem dL_station_0 : decode cL_station 0 = .ok (.aload_n 0, 1) := by decide +kernel
theorem dL_station_1 : decode cL_station 1 = .ok (.iload_n 1, 1) := by decide +kernel
theorem dL_station_2 : decode cL_station 2 = .ok (.iload_n 2, 1) := by decide +kernel
theorem dL_station_3 : decode cL_station 3 = .ok (.invokevirtual 30, 3) := by decide +kernel
theorem dL_station_6 : decode cL_station 6 = .ok (.i2l, 1) := by decide +kernel
theorem dL_station_7 : decode cL_station 7 = .ok (.lreturn, 1) := by decide +kernel
theorem dL_station_8 : decode cL_station 8 = .ok (.astore_n 3, 1) := by decide +kernel
theorem dL_station_9 : decode cL_station 9 = .ok (.ldc2_w 36, 3) := by decide +kernel
theorem dL_station_12 : decode cL_station 12 = .ok (.lreturn, 1) := by decide +kernel
theorem dL_station_13 : decode cL_station 13 = .ok (.astore_n 3, 1) := by decide +kernel
theorem dL_station_14 : decode cL_station 14 = .ok (.ldc2_w 17, 3) := by decide +kernel
theorem dL_station_17 : decode cL_station 17 = .ok (.lreturn, 1) := by decide +kernel
def sp_L_station : la_S := fun As A K => match As with
  | [.ref i, .int z1, .int z2] => i < 2 ∧ okA (A i) ∧ K (some (.long (v_station z1 z2 (A i).1))) A
  | _ => False
set_option maxRecDepth 20000 in
set_option maxHeartbeats 4000000 in
theorem ok_L_station {l : Launch} (hl : l.stackTraces = false) : la_Ok l yL_station (Cond.codeWith yL_station cL_station 4 (some .long) [(0, 7, 8, 34), (0, 7, 13, 15)]) 8 (30 * 8) 1 sp_L_station := by
  intro Y A As K hw h
  unfold sp_L_station at h
  split at h
  · next i z1 z2 =>
    obtain ⟨hi, hA, h⟩ := h
    replace h : K (some (.long (lr [x_ix, x_ar] ((c_station z1 z2) (A i))))) (lup A i ((c_station z1 z2) (A i)).2.2) := by rw [cQ_station, lup_self, lr_station]; exact h
    refine la_enterH (by decide) hl hw (Nat.le_of_ble_eq_true rfl) ?_
    intro p e R s m args' below meth c C htab hr
    refine sl_aload_n C (i := 0) dL_station_0 rfl (sl_iload_n C (i := 1) dL_station_1 rfl (sl_iload_n C (i := 2) dL_station_2 rfl (fun _ _ _ h => h))) _ _ _ (la_call (i := i) (n := 2) (As := [.int z1, .int z2]) C htab hr hi rfl ⟨by decide, by decide, wl_709, wl_1, by decide +kernel⟩ wl_706 wl_707 wl_708 dL_station_3 dL_station_6 dL_station_7 rfl rfl [x_ix, x_ar] (c_station z1 z2) (cE_q (fun _ => cQ_station)) hA (fun hs => cb_X9_station hl (hw.1 i hi).2.1 z1 z2 hs) (fun k E hk => ?_) h)
    rcases (by have := (List.getElem?_eq_some_iff.mp hk).1; simp only [List.length_cons, List.length_nil] at this; omega : k = 0 ∨ k = 1) with rfl | rfl
    · cases hk
      exact ⟨[], ⟨0, 7, 8, 34⟩, [⟨0, 7, 13, 15⟩], rfl, (fun y hy => absurd hy List.not_mem_nil), by decide, by decide, wl_609, wm_621, Or.inl ⟨3, dL_station_8, by decide, ⟨36, dL_station_9, wl_635, dL_station_12⟩⟩⟩
    · cases hk
      exact ⟨[⟨0, 7, 8, 34⟩], ⟨0, 7, 13, 15⟩, [], rfl, (fun y hy => by obtain rfl := List.mem_singleton.mp hy; exact ⟨by decide, _, wl_609, fun U h => h.2.1⟩), by decide, by decide, wl_655, wm_670, Or.inl ⟨3, dL_station_13, by decide, ⟨17, dL_station_14, wl_684, dL_station_17⟩⟩⟩
  · exact h.elim
theorem dL_stock_0 : decode cL_stock 0 = .ok (.aload_n 0, 1) := by decide +kernel
theorem dL_stock_1 : decode cL_stock 1 = .ok (.iload_n 1, 1) := by decide +kernel
theorem dL_stock_2 : decode cL_stock 2 = .ok (.iload_n 2, 1) := by decide +kernel
theorem dL_stock_3 : decode cL_stock 3 = .ok (.invokevirtual 38, 3) := by decide +kernel
theorem dL_stock_6 : decode cL_stock 6 = .ok (.i2l, 1) := by decide +kernel
theorem dL_stock_7 : decode cL_stock 7 = .ok (.lreturn, 1) := by decide +kernel
theorem dL_stock_8 : decode cL_stock 8 = .ok (.astore_n 3, 1) := by decide +kernel
theorem dL_stock_9 : decode cL_stock 9 = .ok (.ldc2_w 36, 3) := by decide +kernel
theorem dL_stock_12 : decode cL_stock 12 = .ok (.lreturn, 1) := by decide +kernel
theorem dL_stock_13 : decode cL_stock 13 = .ok (.astore_n 3, 1) := by decide +kernel
theorem dL_stock_14 : decode cL_stock 14 = .ok (.ldc2_w 17, 3) := by decide +kernel
theorem dL_stock_17 : decode cL_stock 17 = .ok (.lreturn, 1) := by decide +kernel
def sp_L_stock : la_S := fun As A K => match As with
  | [.ref i, .int z1, .int z2] => i < 2 ∧ okA (A i) ∧ K (some (.long (v_stock z1 z2 (A i).1))) A
  | _ => False
set_option maxRecDepth 20000 in
set_option maxHeartbeats 4000000 in
theorem ok_L_stock {l : Launch} (hl : l.stackTraces = false) : la_Ok l yL_stock (Cond.codeWith yL_stock cL_stock 4 (some .long) [(0, 7, 8, 34), (0, 7, 13, 15)]) 8 (30 * 8) 1 sp_L_stock := by
  intro Y A As K hw h
  unfold sp_L_stock at h
  split at h
  · next i z1 z2 =>
    obtain ⟨hi, hA, h⟩ := h
    replace h : K (some (.long (lr [x_ix, x_ar] ((c_stock z1 z2) (A i))))) (lup A i ((c_stock z1 z2) (A i)).2.2) := by rw [cQ_stock, lup_self, lr_stock]; exact h
    refine la_enterH (by decide) hl hw (Nat.le_of_ble_eq_true rfl) ?_
    intro p e R s m args' below meth c C htab hr
    refine sl_aload_n C (i := 0) dL_stock_0 rfl (sl_iload_n C (i := 1) dL_stock_1 rfl (sl_iload_n C (i := 2) dL_stock_2 rfl (fun _ _ _ h => h))) _ _ _ (la_call (i := i) (n := 2) (As := [.int z1, .int z2]) C htab hr hi rfl ⟨by decide, by decide, wl_730, wl_1, by decide +kernel⟩ wl_727 wl_728 wl_729 dL_stock_3 dL_stock_6 dL_stock_7 rfl rfl [x_ix, x_ar] (c_stock z1 z2) (cE_q (fun _ => cQ_stock)) hA (fun hs => cb_X9_stock hl (hw.1 i hi).2.1 z1 z2 hs) (fun k E hk => ?_) h)
    rcases (by have := (List.getElem?_eq_some_iff.mp hk).1; simp only [List.length_cons, List.length_nil] at this; omega : k = 0 ∨ k = 1) with rfl | rfl
    · cases hk
      exact ⟨[], ⟨0, 7, 8, 34⟩, [⟨0, 7, 13, 15⟩], rfl, (fun y hy => absurd hy List.not_mem_nil), by decide, by decide, wl_609, wm_621, Or.inl ⟨3, dL_stock_8, by decide, ⟨36, dL_stock_9, wl_635, dL_stock_12⟩⟩⟩
    · cases hk
      exact ⟨[⟨0, 7, 8, 34⟩], ⟨0, 7, 13, 15⟩, [], rfl, (fun y hy => by obtain rfl := List.mem_singleton.mp hy; exact ⟨by decide, _, wl_609, fun U h => h.2.1⟩), by decide, by decide, wl_655, wm_670, Or.inl ⟨3, dL_stock_13, by decide, ⟨17, dL_stock_14, wl_684, dL_stock_17⟩⟩⟩
  · exact h.elim
theorem dL_finder_0 : decode cL_finder 0 = .ok (.aload_n 0, 1) := by decide +kernel
theorem dL_finder_1 : decode cL_finder 1 = .ok (.iload_n 1, 1) := by decide +kernel
theorem dL_finder_2 : decode cL_finder 2 = .ok (.iload_n 2, 1) := by decide +kernel
theorem dL_finder_3 : decode cL_finder 3 = .ok (.invokevirtual 41, 3) := by decide +kernel
theorem dL_finder_6 : decode cL_finder 6 = .ok (.i2l, 1) := by decide +kernel
theorem dL_finder_7 : decode cL_finder 7 = .ok (.lreturn, 1) := by decide +kernel
theorem dL_finder_8 : decode cL_finder 8 = .ok (.astore_n 3, 1) := by decide +kernel
theorem dL_finder_9 : decode cL_finder 9 = .ok (.ldc2_w 36, 3) := by decide +kernel
theorem dL_finder_12 : decode cL_finder 12 = .ok (.lreturn, 1) := by decide +kernel
theorem dL_finder_13 : decode cL_finder 13 = .ok (.astore_n 3, 1) := by decide +kernel
theorem dL_finder_14 : decode cL_finder 14 = .ok (.ldc2_w 17, 3) := by decide +kernel
theorem dL_finder_17 : decode cL_finder 17 = .ok (.lreturn, 1) := by decide +kernel
def sp_L_finder : la_S := fun As A K => match As with
  | [.ref i, .int z1, .int z2] => i < 2 ∧ okA (A i) ∧ K (some (.long (v_finder z1 z2 (A i).1))) A
  | _ => False
set_option maxRecDepth 20000 in
set_option maxHeartbeats 4000000 in
theorem ok_L_finder {l : Launch} (hl : l.stackTraces = false) : la_Ok l yL_finder (Cond.codeWith yL_finder cL_finder 4 (some .long) [(0, 7, 8, 34), (0, 7, 13, 15)]) 7 (30 * 7) 1 sp_L_finder := by
  intro Y A As K hw h
  unfold sp_L_finder at h
  split at h
  · next i z1 z2 =>
    obtain ⟨hi, hA, h⟩ := h
    replace h : K (some (.long (lr [x_ix, x_ar] ((c_finder z1 z2) (A i))))) (lup A i ((c_finder z1 z2) (A i)).2.2) := by rw [cQ_finder, lup_self, lr_finder]; exact h
    refine la_enterH (by decide) hl hw (Nat.le_of_ble_eq_true rfl) ?_
    intro p e R s m args' below meth c C htab hr
    refine sl_aload_n C (i := 0) dL_finder_0 rfl (sl_iload_n C (i := 1) dL_finder_1 rfl (sl_iload_n C (i := 2) dL_finder_2 rfl (fun _ _ _ h => h))) _ _ _ (la_call (i := i) (n := 2) (As := [.int z1, .int z2]) C htab hr hi rfl ⟨by decide, by decide, wl_741, wl_1, by decide +kernel⟩ wl_738 wl_739 wl_740 dL_finder_3 dL_finder_6 dL_finder_7 rfl rfl [x_ix, x_ar] (c_finder z1 z2) (cE_q (fun _ => cQ_finder)) hA (fun hs => cb_X9_finder hl (hw.1 i hi).2.1 z1 z2 hs) (fun k E hk => ?_) h)
    rcases (by have := (List.getElem?_eq_some_iff.mp hk).1; simp only [List.length_cons, List.length_nil] at this; omega : k = 0 ∨ k = 1) with rfl | rfl
    · cases hk
      exact ⟨[], ⟨0, 7, 8, 34⟩, [⟨0, 7, 13, 15⟩], rfl, (fun y hy => absurd hy List.not_mem_nil), by decide, by decide, wl_609, wm_621, Or.inl ⟨3, dL_finder_8, by decide, ⟨36, dL_finder_9, wl_635, dL_finder_12⟩⟩⟩
    · cases hk
      exact ⟨[⟨0, 7, 8, 34⟩], ⟨0, 7, 13, 15⟩, [], rfl, (fun y hy => by obtain rfl := List.mem_singleton.mp hy; exact ⟨by decide, _, wl_609, fun U h => h.2.1⟩), by decide, by decide, wl_655, wm_670, Or.inl ⟨3, dL_finder_13, by decide, ⟨17, dL_finder_14, wl_684, dL_finder_17⟩⟩⟩
  · exact h.elim
theorem dL_gap_0 : decode cL_gap 0 = .ok (.aload_n 0, 1) := by decide +kernel
theorem dL_gap_1 : decode cL_gap 1 = .ok (.iload_n 1, 1) := by decide +kernel
theorem dL_gap_2 : decode cL_gap 2 = .ok (.iload_n 2, 1) := by decide +kernel
theorem dL_gap_3 : decode cL_gap 3 = .ok (.invokevirtual 47, 3) := by decide +kernel
theorem dL_gap_6 : decode cL_gap 6 = .ok (.i2l, 1) := by decide +kernel
theorem dL_gap_7 : decode cL_gap 7 = .ok (.lreturn, 1) := by decide +kernel
theorem dL_gap_8 : decode cL_gap 8 = .ok (.astore_n 3, 1) := by decide +kernel
theorem dL_gap_9 : decode cL_gap 9 = .ok (.ldc2_w 17, 3) := by decide +kernel
theorem dL_gap_12 : decode cL_gap 12 = .ok (.lreturn, 1) := by decide +kernel
def sp_L_gap : la_S := fun As A K => match As with
  | [.ref i, .int z1, .int z2] => i < 2 ∧ okA (A i) ∧ K (some (.long (v_gap z1 z2 (A i).1))) A
  | _ => False
set_option maxRecDepth 20000 in
set_option maxHeartbeats 4000000 in
theorem ok_L_gap {l : Launch} (hl : l.stackTraces = false) : la_Ok l yL_gap (Cond.codeWith yL_gap cL_gap 4 (some .long) [(0, 7, 8, 15)]) 8 (30 * 8) 1 sp_L_gap := by
  intro Y A As K hw h
  unfold sp_L_gap at h
  split at h
  · next i z1 z2 =>
    obtain ⟨hi, hA, h⟩ := h
    replace h : K (some (.long (lr [x_ar] ((c_gap z1 z2) (A i))))) (lup A i ((c_gap z1 z2) (A i)).2.2) := by rw [cQ_gap, lup_self, lr_gap]; exact h
    refine la_enterH (by decide) hl hw (Nat.le_of_ble_eq_true rfl) ?_
    intro p e R s m args' below meth c C htab hr
    refine sl_aload_n C (i := 0) dL_gap_0 rfl (sl_iload_n C (i := 1) dL_gap_1 rfl (sl_iload_n C (i := 2) dL_gap_2 rfl (fun _ _ _ h => h))) _ _ _ (la_call (i := i) (n := 2) (As := [.int z1, .int z2]) C htab hr hi rfl ⟨by decide, by decide, wl_755, wl_1, by decide +kernel⟩ wl_752 wl_753 wl_754 dL_gap_3 dL_gap_6 dL_gap_7 rfl rfl [x_ar] (c_gap z1 z2) (cE_q (fun _ => cQ_gap)) hA (fun hs => cb_X9_gap hl (hw.1 i hi).2.1 z1 z2 hs) (fun k E hk => ?_) h)
    rcases (by have := (List.getElem?_eq_some_iff.mp hk).1; simp only [List.length_cons, List.length_nil] at this; omega : k = 0) with rfl
    · cases hk
      exact ⟨[], ⟨0, 7, 8, 15⟩, [], rfl, (fun y hy => absurd hy List.not_mem_nil), by decide, by decide, wl_655, wm_670, Or.inl ⟨3, dL_gap_8, by decide, ⟨17, dL_gap_9, wl_684, dL_gap_12⟩⟩⟩
  · exact h.elim
theorem dL_back_0 : decode cL_back 0 = .ok (.aload_n 0, 1) := by decide +kernel
theorem dL_back_1 : decode cL_back 1 = .ok (.iload_n 1, 1) := by decide +kernel
theorem dL_back_2 : decode cL_back 2 = .ok (.iload_n 2, 1) := by decide +kernel
theorem dL_back_3 : decode cL_back 3 = .ok (.invokevirtual 44, 3) := by decide +kernel
theorem dL_back_6 : decode cL_back 6 = .ok (.i2l, 1) := by decide +kernel
theorem dL_back_7 : decode cL_back 7 = .ok (.lreturn, 1) := by decide +kernel
theorem dL_back_8 : decode cL_back 8 = .ok (.astore_n 3, 1) := by decide +kernel
theorem dL_back_9 : decode cL_back 9 = .ok (.ldc2_w 17, 3) := by decide +kernel
theorem dL_back_12 : decode cL_back 12 = .ok (.lreturn, 1) := by decide +kernel
def sp_L_back : la_S := fun As A K => match As with
  | [.ref i, .int z1, .int z2] => i < 2 ∧ okA (A i) ∧ K (some (.long (v_back z1 z2 (A i).1))) A
  | _ => False
set_option maxRecDepth 20000 in
set_option maxHeartbeats 4000000 in
theorem ok_L_back {l : Launch} (hl : l.stackTraces = false) : la_Ok l yL_back (Cond.codeWith yL_back cL_back 4 (some .long) [(0, 7, 8, 15)]) 8 (30 * 8) 1 sp_L_back := by
  intro Y A As K hw h
  unfold sp_L_back at h
  split at h
  · next i z1 z2 =>
    obtain ⟨hi, hA, h⟩ := h
    replace h : K (some (.long (lr [x_ar] ((c_back z1 z2) (A i))))) (lup A i ((c_back z1 z2) (A i)).2.2) := by rw [cQ_back, lup_self, lr_back]; exact h
    refine la_enterH (by decide) hl hw (Nat.le_of_ble_eq_true rfl) ?_
    intro p e R s m args' below meth c C htab hr
    refine sl_aload_n C (i := 0) dL_back_0 rfl (sl_iload_n C (i := 1) dL_back_1 rfl (sl_iload_n C (i := 2) dL_back_2 rfl (fun _ _ _ h => h))) _ _ _ (la_call (i := i) (n := 2) (As := [.int z1, .int z2]) C htab hr hi rfl ⟨by decide, by decide, wl_768, wl_1, by decide +kernel⟩ wl_765 wl_766 wl_767 dL_back_3 dL_back_6 dL_back_7 rfl rfl [x_ar] (c_back z1 z2) (cE_q (fun _ => cQ_back)) hA (fun hs => cb_X9_back hl (hw.1 i hi).2.1 z1 z2 hs) (fun k E hk => ?_) h)
    rcases (by have := (List.getElem?_eq_some_iff.mp hk).1; simp only [List.length_cons, List.length_nil] at this; omega : k = 0) with rfl
    · cases hk
      exact ⟨[], ⟨0, 7, 8, 15⟩, [], rfl, (fun y hy => absurd hy List.not_mem_nil), by decide, by decide, wl_655, wm_670, Or.inl ⟨3, dL_back_8, by decide, ⟨17, dL_back_9, wl_684, dL_back_12⟩⟩⟩
  · exact h.elim
theorem dL_addStation_0 : decode cL_addStation 0 = .ok (.aload_n 0, 1) := by decide +kernel
theorem dL_addStation_1 : decode cL_addStation 1 = .ok (.iload_n 1, 1) := by decide +kernel
theorem dL_addStation_2 : decode cL_addStation 2 = .ok (.iload_n 2, 1) := by decide +kernel
theorem dL_addStation_3 : decode cL_addStation 3 = .ok (.iload_n 3, 1) := by decide +kernel
theorem dL_addStation_4 : decode cL_addStation 4 = .ok (.iload 4, 2) := by decide +kernel
theorem dL_addStation_6 : decode cL_addStation 6 = .ok (.iload 5, 2) := by decide +kernel
theorem dL_addStation_8 : decode cL_addStation 8 = .ok (.invokevirtual 56, 3) := by decide +kernel
theorem dL_addStation_11 : decode cL_addStation 11 = .ok (.i2l, 1) := by decide +kernel
theorem dL_addStation_12 : decode cL_addStation 12 = .ok (.lreturn, 1) := by decide +kernel
theorem dL_addStation_13 : decode cL_addStation 13 = .ok (.astore 6, 2) := by decide +kernel
theorem dL_addStation_15 : decode cL_addStation 15 = .ok (.ldc2_w 17, 3) := by decide +kernel
theorem dL_addStation_18 : decode cL_addStation 18 = .ok (.lreturn, 1) := by decide +kernel
theorem dL_addStation_19 : decode cL_addStation 19 = .ok (.astore 6, 2) := by decide +kernel
theorem dL_addStation_21 : decode cL_addStation 21 = .ok (.ldc2_w 21, 3) := by decide +kernel
theorem dL_addStation_24 : decode cL_addStation 24 = .ok (.lreturn, 1) := by decide +kernel
def sp_L_addStation : la_S := fun As A K => match As with
  | [.ref i, .int z1, .int z2, .int z3, .int z4, .int z5] => i < 2 ∧ okA (A i) ∧ K (some (.long (lr [x_ar, x_st] ((c_addStation z1 z2 z3 z4 z5) (A i))))) (lup A i ((c_addStation z1 z2 z3 z4 z5) (A i)).2.2)
  | _ => False
set_option maxRecDepth 20000 in
set_option maxHeartbeats 4000000 in
theorem ok_L_addStation {l : Launch} (hl : l.stackTraces = false) : la_Ok l yL_addStation (Cond.codeWith yL_addStation cL_addStation 7 (some .long) [(0, 12, 13, 15), (0, 12, 19, 19)]) 9 (30 * 9) 1 sp_L_addStation := by
  intro Y A As K hw h
  unfold sp_L_addStation at h
  split at h
  · next i z1 z2 z3 z4 z5 =>
    obtain ⟨hi, hA, h⟩ := h
    refine la_enterH (by decide) hl hw (Nat.le_of_ble_eq_true rfl) ?_
    intro p e R s m args' below meth c C htab hr
    refine sl_aload_n C (i := 0) dL_addStation_0 rfl (sl_iload_n C (i := 1) dL_addStation_1 rfl (sl_iload_n C (i := 2) dL_addStation_2 rfl (sl_iload_n C (i := 3) dL_addStation_3 rfl (sl_iload C (i := 4) dL_addStation_4 (sl_iload C (i := 5) dL_addStation_6 (fun _ _ _ h => h)))))) _ _ _ (la_call (i := i) (n := 5) (As := [.int z1, .int z2, .int z3, .int z4, .int z5]) C htab hr hi rfl ⟨by decide, by decide, wl_780, wl_1, by decide +kernel⟩ wl_777 wl_778 wl_779 dL_addStation_8 dL_addStation_11 dL_addStation_12 rfl rfl [x_ar, x_st] (c_addStation z1 z2 z3 z4 z5) (cE_addStation z1 z2 z3 z4 z5) hA (fun hs => cb_X9_addStation hl (hw.1 i hi).2.1 z1 z2 z3 z4 z5 hs) (fun k E hk => ?_) h)
    rcases (by have := (List.getElem?_eq_some_iff.mp hk).1; simp only [List.length_cons, List.length_nil] at this; omega : k = 0 ∨ k = 1) with rfl | rfl
    · cases hk
      exact ⟨[], ⟨0, 12, 13, 15⟩, [⟨0, 12, 19, 19⟩], rfl, (fun y hy => absurd hy List.not_mem_nil), by decide, by decide, wl_655, wm_670, Or.inr ⟨6, dL_addStation_13, by decide, ⟨17, dL_addStation_15, wl_684, dL_addStation_18⟩⟩⟩
    · cases hk
      exact ⟨[⟨0, 12, 13, 15⟩], ⟨0, 12, 19, 19⟩, [], rfl, (fun y hy => by obtain rfl := List.mem_singleton.mp hy; exact ⟨by decide, _, wl_655, fun U h => h.2.2.1⟩), by decide, by decide, wl_322, wm_353, Or.inr ⟨6, dL_addStation_19, by decide, ⟨21, dL_addStation_21, wl_605, dL_addStation_24⟩⟩⟩
  · exact h.elim
theorem dL_addFinder_0 : decode cL_addFinder 0 = .ok (.aload_n 0, 1) := by decide +kernel
theorem dL_addFinder_1 : decode cL_addFinder 1 = .ok (.iload_n 1, 1) := by decide +kernel
theorem dL_addFinder_2 : decode cL_addFinder 2 = .ok (.iload_n 2, 1) := by decide +kernel
theorem dL_addFinder_3 : decode cL_addFinder 3 = .ok (.iload_n 3, 1) := by decide +kernel
theorem dL_addFinder_4 : decode cL_addFinder 4 = .ok (.invokevirtual 60, 3) := by decide +kernel
theorem dL_addFinder_7 : decode cL_addFinder 7 = .ok (.i2l, 1) := by decide +kernel
theorem dL_addFinder_8 : decode cL_addFinder 8 = .ok (.lreturn, 1) := by decide +kernel
theorem dL_addFinder_9 : decode cL_addFinder 9 = .ok (.astore 4, 2) := by decide +kernel
theorem dL_addFinder_11 : decode cL_addFinder 11 = .ok (.ldc2_w 17, 3) := by decide +kernel
theorem dL_addFinder_14 : decode cL_addFinder 14 = .ok (.lreturn, 1) := by decide +kernel
theorem dL_addFinder_15 : decode cL_addFinder 15 = .ok (.astore 4, 2) := by decide +kernel
theorem dL_addFinder_17 : decode cL_addFinder 17 = .ok (.ldc2_w 21, 3) := by decide +kernel
theorem dL_addFinder_20 : decode cL_addFinder 20 = .ok (.lreturn, 1) := by decide +kernel
def sp_L_addFinder : la_S := fun As A K => match As with
  | [.ref i, .int z1, .int z2, .int z3] => i < 2 ∧ okA (A i) ∧ K (some (.long (lr [x_ar, x_st] ((c_addFinder z1 z2 z3) (A i))))) (lup A i ((c_addFinder z1 z2 z3) (A i)).2.2)
  | _ => False
set_option maxRecDepth 20000 in
set_option maxHeartbeats 4000000 in
theorem ok_L_addFinder {l : Launch} (hl : l.stackTraces = false) : la_Ok l yL_addFinder (Cond.codeWith yL_addFinder cL_addFinder 5 (some .long) [(0, 8, 9, 15), (0, 8, 15, 19)]) 9 (30 * 9) 1 sp_L_addFinder := by
  intro Y A As K hw h
  unfold sp_L_addFinder at h
  split at h
  · next i z1 z2 z3 =>
    obtain ⟨hi, hA, h⟩ := h
    refine la_enterH (by decide) hl hw (Nat.le_of_ble_eq_true rfl) ?_
    intro p e R s m args' below meth c C htab hr
    refine sl_aload_n C (i := 0) dL_addFinder_0 rfl (sl_iload_n C (i := 1) dL_addFinder_1 rfl (sl_iload_n C (i := 2) dL_addFinder_2 rfl (sl_iload_n C (i := 3) dL_addFinder_3 rfl (fun _ _ _ h => h)))) _ _ _ (la_call (i := i) (n := 3) (As := [.int z1, .int z2, .int z3]) C htab hr hi rfl ⟨by decide, by decide, wl_801, wl_1, by decide +kernel⟩ wl_798 wl_799 wl_800 dL_addFinder_4 dL_addFinder_7 dL_addFinder_8 rfl rfl [x_ar, x_st] (c_addFinder z1 z2 z3) (cE_addFinder z1 z2 z3) hA (fun hs => cb_X9_addFinder hl (hw.1 i hi).2.1 z1 z2 z3 hs) (fun k E hk => ?_) h)
    rcases (by have := (List.getElem?_eq_some_iff.mp hk).1; simp only [List.length_cons, List.length_nil] at this; omega : k = 0 ∨ k = 1) with rfl | rfl
    · cases hk
      exact ⟨[], ⟨0, 8, 9, 15⟩, [⟨0, 8, 15, 19⟩], rfl, (fun y hy => absurd hy List.not_mem_nil), by decide, by decide, wl_655, wm_670, Or.inr ⟨4, dL_addFinder_9, by decide, ⟨17, dL_addFinder_11, wl_684, dL_addFinder_14⟩⟩⟩
    · cases hk
      exact ⟨[⟨0, 8, 9, 15⟩], ⟨0, 8, 15, 19⟩, [], rfl, (fun y hy => by obtain rfl := List.mem_singleton.mp hy; exact ⟨by decide, _, wl_655, fun U h => h.2.2.1⟩), by decide, by decide, wl_322, wm_353, Or.inr ⟨4, dL_addFinder_15, by decide, ⟨21, dL_addFinder_17, wl_605, dL_addFinder_20⟩⟩⟩
  · exact h.elim
theorem dL_wind_0 : decode cL_wind 0 = .ok (.aload_n 0, 1) := by decide +kernel
theorem dL_wind_1 : decode cL_wind 1 = .ok (.iload_n 1, 1) := by decide +kernel
theorem dL_wind_2 : decode cL_wind 2 = .ok (.iload_n 2, 1) := by decide +kernel
theorem dL_wind_3 : decode cL_wind 3 = .ok (.invokevirtual 64, 3) := by decide +kernel
theorem dL_wind_6 : decode cL_wind 6 = .ok (.i2l, 1) := by decide +kernel
theorem dL_wind_7 : decode cL_wind 7 = .ok (.lreturn, 1) := by decide +kernel
theorem dL_wind_8 : decode cL_wind 8 = .ok (.astore_n 3, 1) := by decide +kernel
theorem dL_wind_9 : decode cL_wind 9 = .ok (.ldc2_w 17, 3) := by decide +kernel
theorem dL_wind_12 : decode cL_wind 12 = .ok (.lreturn, 1) := by decide +kernel
def sp_L_wind : la_S := fun As A K => match As with
  | [.ref i, .int z1, .int z2] => i < 2 ∧ okA (A i) ∧ K (some (.long (lr [x_ar] ((c_wind z1 z2) (A i))))) (lup A i ((c_wind z1 z2) (A i)).2.2)
  | _ => False
set_option maxRecDepth 20000 in
set_option maxHeartbeats 4000000 in
theorem ok_L_wind {l : Launch} (hl : l.stackTraces = false) : la_Ok l yL_wind (Cond.codeWith yL_wind cL_wind 4 (some .long) [(0, 7, 8, 15)]) 9 (30 * 9) 1 sp_L_wind := by
  intro Y A As K hw h
  unfold sp_L_wind at h
  split at h
  · next i z1 z2 =>
    obtain ⟨hi, hA, h⟩ := h
    refine la_enterH (by decide) hl hw (Nat.le_of_ble_eq_true rfl) ?_
    intro p e R s m args' below meth c C htab hr
    refine sl_aload_n C (i := 0) dL_wind_0 rfl (sl_iload_n C (i := 1) dL_wind_1 rfl (sl_iload_n C (i := 2) dL_wind_2 rfl (fun _ _ _ h => h))) _ _ _ (la_call (i := i) (n := 2) (As := [.int z1, .int z2]) C htab hr hi rfl ⟨by decide, by decide, wl_809, wl_1, by decide +kernel⟩ wl_806 wl_807 wl_808 dL_wind_3 dL_wind_6 dL_wind_7 rfl rfl [x_ar] (c_wind z1 z2) (cE_wind z1 z2) hA (fun hs => cb_X9_wind hl (hw.1 i hi).2.1 z1 z2 hs) (fun k E hk => ?_) h)
    rcases (by have := (List.getElem?_eq_some_iff.mp hk).1; simp only [List.length_cons, List.length_nil] at this; omega : k = 0) with rfl
    · cases hk
      exact ⟨[], ⟨0, 7, 8, 15⟩, [], rfl, (fun y hy => absurd hy List.not_mem_nil), by decide, by decide, wl_655, wm_670, Or.inl ⟨3, dL_wind_8, by decide, ⟨17, dL_wind_9, wl_684, dL_wind_12⟩⟩⟩
  · exact h.elim
theorem dL_change_0 : decode cL_change 0 = .ok (.aload_n 0, 1) := by decide +kernel
theorem dL_change_1 : decode cL_change 1 = .ok (.iload_n 1, 1) := by decide +kernel
theorem dL_change_2 : decode cL_change 2 = .ok (.iload_n 2, 1) := by decide +kernel
theorem dL_change_3 : decode cL_change 3 = .ok (.iload_n 3, 1) := by decide +kernel
theorem dL_change_4 : decode cL_change 4 = .ok (.invokevirtual 67, 3) := by decide +kernel
theorem dL_change_7 : decode cL_change 7 = .ok (.i2l, 1) := by decide +kernel
theorem dL_change_8 : decode cL_change 8 = .ok (.lreturn, 1) := by decide +kernel
theorem dL_change_9 : decode cL_change 9 = .ok (.astore 4, 2) := by decide +kernel
theorem dL_change_11 : decode cL_change 11 = .ok (.ldc2_w 36, 3) := by decide +kernel
theorem dL_change_14 : decode cL_change 14 = .ok (.lreturn, 1) := by decide +kernel
theorem dL_change_15 : decode cL_change 15 = .ok (.astore 4, 2) := by decide +kernel
theorem dL_change_17 : decode cL_change 17 = .ok (.ldc2_w 17, 3) := by decide +kernel
theorem dL_change_20 : decode cL_change 20 = .ok (.lreturn, 1) := by decide +kernel
def sp_L_change : la_S := fun As A K => match As with
  | [.ref i, .int z1, .int z2, .int z3] => i < 2 ∧ okA (A i) ∧ K (some (.long (lr [x_ix, x_ar] ((c_change z1 z2 z3) (A i))))) (lup A i ((c_change z1 z2 z3) (A i)).2.2)
  | _ => False
set_option maxRecDepth 20000 in
set_option maxHeartbeats 4000000 in
theorem ok_L_change {l : Launch} (hl : l.stackTraces = false) : la_Ok l yL_change (Cond.codeWith yL_change cL_change 5 (some .long) [(0, 8, 9, 34), (0, 8, 15, 15)]) 9 (30 * 9) 1 sp_L_change := by
  intro Y A As K hw h
  unfold sp_L_change at h
  split at h
  · next i z1 z2 z3 =>
    obtain ⟨hi, hA, h⟩ := h
    refine la_enterH (by decide) hl hw (Nat.le_of_ble_eq_true rfl) ?_
    intro p e R s m args' below meth c C htab hr
    refine sl_aload_n C (i := 0) dL_change_0 rfl (sl_iload_n C (i := 1) dL_change_1 rfl (sl_iload_n C (i := 2) dL_change_2 rfl (sl_iload_n C (i := 3) dL_change_3 rfl (fun _ _ _ h => h)))) _ _ _ (la_call (i := i) (n := 3) (As := [.int z1, .int z2, .int z3]) C htab hr hi rfl ⟨by decide, by decide, wl_817, wl_1, by decide +kernel⟩ wl_814 wl_815 wl_816 dL_change_4 dL_change_7 dL_change_8 rfl rfl [x_ix, x_ar] (c_change z1 z2 z3) (cE_change z1 z2 z3) hA (fun hs => cb_X9_change hl (hw.1 i hi).2.1 z1 z2 z3 hs) (fun k E hk => ?_) h)
    rcases (by have := (List.getElem?_eq_some_iff.mp hk).1; simp only [List.length_cons, List.length_nil] at this; omega : k = 0 ∨ k = 1) with rfl | rfl
    · cases hk
      exact ⟨[], ⟨0, 8, 9, 34⟩, [⟨0, 8, 15, 15⟩], rfl, (fun y hy => absurd hy List.not_mem_nil), by decide, by decide, wl_609, wm_621, Or.inr ⟨4, dL_change_9, by decide, ⟨36, dL_change_11, wl_635, dL_change_14⟩⟩⟩
    · cases hk
      exact ⟨[⟨0, 8, 9, 34⟩], ⟨0, 8, 15, 15⟩, [], rfl, (fun y hy => by obtain rfl := List.mem_singleton.mp hy; exact ⟨by decide, _, wl_609, fun U h => h.2.1⟩), by decide, by decide, wl_655, wm_670, Or.inr ⟨4, dL_change_15, by decide, ⟨17, dL_change_17, wl_684, dL_change_20⟩⟩⟩
  · exact h.elim
theorem dL_deliver_0 : decode cL_deliver 0 = .ok (.aload_n 0, 1) := by decide +kernel
theorem dL_deliver_1 : decode cL_deliver 1 = .ok (.iload_n 1, 1) := by decide +kernel
theorem dL_deliver_2 : decode cL_deliver 2 = .ok (.iload_n 2, 1) := by decide +kernel
theorem dL_deliver_3 : decode cL_deliver 3 = .ok (.iload_n 3, 1) := by decide +kernel
theorem dL_deliver_4 : decode cL_deliver 4 = .ok (.invokevirtual 70, 3) := by decide +kernel
theorem dL_deliver_7 : decode cL_deliver 7 = .ok (.i2l, 1) := by decide +kernel
theorem dL_deliver_8 : decode cL_deliver 8 = .ok (.lreturn, 1) := by decide +kernel
theorem dL_deliver_9 : decode cL_deliver 9 = .ok (.astore 4, 2) := by decide +kernel
theorem dL_deliver_11 : decode cL_deliver 11 = .ok (.ldc2_w 36, 3) := by decide +kernel
theorem dL_deliver_14 : decode cL_deliver 14 = .ok (.lreturn, 1) := by decide +kernel
theorem dL_deliver_15 : decode cL_deliver 15 = .ok (.astore 4, 2) := by decide +kernel
theorem dL_deliver_17 : decode cL_deliver 17 = .ok (.ldc2_w 17, 3) := by decide +kernel
theorem dL_deliver_20 : decode cL_deliver 20 = .ok (.lreturn, 1) := by decide +kernel
theorem dL_deliver_21 : decode cL_deliver 21 = .ok (.astore 4, 2) := by decide +kernel
theorem dL_deliver_23 : decode cL_deliver 23 = .ok (.ldc2_w 21, 3) := by decide +kernel
theorem dL_deliver_26 : decode cL_deliver 26 = .ok (.lreturn, 1) := by decide +kernel
def sp_L_deliver : la_S := fun As A K => match As with
  | [.ref i, .int z1, .int z2, .int z3] => i < 2 ∧ okA (A i) ∧ K (some (.long (lr [x_ix, x_ar, x_st] ((c_deliver z1 z2 z3) (A i))))) (lup A i ((c_deliver z1 z2 z3) (A i)).2.2)
  | _ => False
set_option maxRecDepth 20000 in
set_option maxHeartbeats 4000000 in
theorem ok_L_deliver {l : Launch} (hl : l.stackTraces = false) : la_Ok l yL_deliver (Cond.codeWith yL_deliver cL_deliver 5 (some .long) [(0, 8, 9, 34), (0, 8, 15, 15), (0, 8, 21, 19)]) 9 (30 * 9) 1 sp_L_deliver := by
  intro Y A As K hw h
  unfold sp_L_deliver at h
  split at h
  · next i z1 z2 z3 =>
    obtain ⟨hi, hA, h⟩ := h
    refine la_enterH (by decide) hl hw (Nat.le_of_ble_eq_true rfl) ?_
    intro p e R s m args' below meth c C htab hr
    refine sl_aload_n C (i := 0) dL_deliver_0 rfl (sl_iload_n C (i := 1) dL_deliver_1 rfl (sl_iload_n C (i := 2) dL_deliver_2 rfl (sl_iload_n C (i := 3) dL_deliver_3 rfl (fun _ _ _ h => h)))) _ _ _ (la_call (i := i) (n := 3) (As := [.int z1, .int z2, .int z3]) C htab hr hi rfl ⟨by decide, by decide, wl_833, wl_1, by decide +kernel⟩ wl_830 wl_831 wl_832 dL_deliver_4 dL_deliver_7 dL_deliver_8 rfl rfl [x_ix, x_ar, x_st] (c_deliver z1 z2 z3) (cE_deliver z1 z2 z3) hA (fun hs => cb_X9_deliver hl (hw.1 i hi).2.1 z1 z2 z3 hs) (fun k E hk => ?_) h)
    rcases (by have := (List.getElem?_eq_some_iff.mp hk).1; simp only [List.length_cons, List.length_nil] at this; omega : k = 0 ∨ k = 1 ∨ k = 2) with rfl | rfl | rfl
    · cases hk
      exact ⟨[], ⟨0, 8, 9, 34⟩, [⟨0, 8, 15, 15⟩, ⟨0, 8, 21, 19⟩], rfl, (fun y hy => absurd hy List.not_mem_nil), by decide, by decide, wl_609, wm_621, Or.inr ⟨4, dL_deliver_9, by decide, ⟨36, dL_deliver_11, wl_635, dL_deliver_14⟩⟩⟩
    · cases hk
      exact ⟨[⟨0, 8, 9, 34⟩], ⟨0, 8, 15, 15⟩, [⟨0, 8, 21, 19⟩], rfl, (fun y hy => by obtain rfl := List.mem_singleton.mp hy; exact ⟨by decide, _, wl_609, fun U h => h.2.1⟩), by decide, by decide, wl_655, wm_670, Or.inr ⟨4, dL_deliver_15, by decide, ⟨17, dL_deliver_17, wl_684, dL_deliver_20⟩⟩⟩
    · cases hk
      exact ⟨[⟨0, 8, 9, 34⟩, ⟨0, 8, 15, 15⟩], ⟨0, 8, 21, 19⟩, [], rfl, (fun y hy => by
        rcases List.mem_cons.mp hy with rfl | hy
        · exact ⟨by decide, _, wl_609, fun U h => h.2.2.2⟩
        · obtain rfl := List.mem_singleton.mp hy; exact ⟨by decide, _, wl_655, fun U h => h.2.2.1⟩), by decide, by decide, wl_322, wm_353, Or.inr ⟨4, dL_deliver_21, by decide, ⟨21, dL_deliver_23, wl_605, dL_deliver_26⟩⟩⟩
  · exact h.elim
theorem dL_move_0 : decode cL_move 0 = .ok (.aload_n 0, 1) := by decide +kernel
theorem dL_move_1 : decode cL_move 1 = .ok (.iload_n 1, 1) := by decide +kernel
theorem dL_move_2 : decode cL_move 2 = .ok (.iload_n 2, 1) := by decide +kernel
theorem dL_move_3 : decode cL_move 3 = .ok (.invokevirtual 73, 3) := by decide +kernel
theorem dL_move_6 : decode cL_move 6 = .ok (.i2l, 1) := by decide +kernel
theorem dL_move_7 : decode cL_move 7 = .ok (.lreturn, 1) := by decide +kernel
theorem dL_move_8 : decode cL_move 8 = .ok (.astore_n 3, 1) := by decide +kernel
theorem dL_move_9 : decode cL_move 9 = .ok (.ldc2_w 36, 3) := by decide +kernel
theorem dL_move_12 : decode cL_move 12 = .ok (.lreturn, 1) := by decide +kernel
theorem dL_move_13 : decode cL_move 13 = .ok (.astore_n 3, 1) := by decide +kernel
theorem dL_move_14 : decode cL_move 14 = .ok (.ldc2_w 21, 3) := by decide +kernel
theorem dL_move_17 : decode cL_move 17 = .ok (.lreturn, 1) := by decide +kernel
def sp_L_move : la_S := fun As A K => match As with
  | [.ref i, .int z1, .int z2] => i < 2 ∧ okA (A i) ∧ K (some (.long (lr [x_ix, x_st] ((c_move z1 z2) (A i))))) (lup A i ((c_move z1 z2) (A i)).2.2)
  | _ => False
set_option maxRecDepth 20000 in
set_option maxHeartbeats 4000000 in
theorem ok_L_move {l : Launch} (hl : l.stackTraces = false) : la_Ok l yL_move (Cond.codeWith yL_move cL_move 4 (some .long) [(0, 7, 8, 34), (0, 7, 13, 19)]) 9 (30 * 9) 1 sp_L_move := by
  intro Y A As K hw h
  unfold sp_L_move at h
  split at h
  · next i z1 z2 =>
    obtain ⟨hi, hA, h⟩ := h
    refine la_enterH (by decide) hl hw (Nat.le_of_ble_eq_true rfl) ?_
    intro p e R s m args' below meth c C htab hr
    refine sl_aload_n C (i := 0) dL_move_0 rfl (sl_iload_n C (i := 1) dL_move_1 rfl (sl_iload_n C (i := 2) dL_move_2 rfl (fun _ _ _ h => h))) _ _ _ (la_call (i := i) (n := 2) (As := [.int z1, .int z2]) C htab hr hi rfl ⟨by decide, by decide, wl_842, wl_1, by decide +kernel⟩ wl_839 wl_840 wl_841 dL_move_3 dL_move_6 dL_move_7 rfl rfl [x_ix, x_st] (c_move z1 z2) (cE_move z1 z2) hA (fun hs => cb_X9_move hl (hw.1 i hi).2.1 z1 z2 hs) (fun k E hk => ?_) h)
    rcases (by have := (List.getElem?_eq_some_iff.mp hk).1; simp only [List.length_cons, List.length_nil] at this; omega : k = 0 ∨ k = 1) with rfl | rfl
    · cases hk
      exact ⟨[], ⟨0, 7, 8, 34⟩, [⟨0, 7, 13, 19⟩], rfl, (fun y hy => absurd hy List.not_mem_nil), by decide, by decide, wl_609, wm_621, Or.inl ⟨3, dL_move_8, by decide, ⟨36, dL_move_9, wl_635, dL_move_12⟩⟩⟩
    · cases hk
      exact ⟨[⟨0, 7, 8, 34⟩], ⟨0, 7, 13, 19⟩, [], rfl, (fun y hy => by obtain rfl := List.mem_singleton.mp hy; exact ⟨by decide, _, wl_609, fun U h => h.2.2.2⟩), by decide, by decide, wl_322, wm_353, Or.inl ⟨3, dL_move_13, by decide, ⟨21, dL_move_14, wl_605, dL_move_17⟩⟩⟩
  · exact h.elim
theorem dL_run_0 : decode cL_run 0 = .ok (.aload_n 0, 1) := by decide +kernel
theorem dL_run_1 : decode cL_run 1 = .ok (.iload_n 1, 1) := by decide +kernel
theorem dL_run_2 : decode cL_run 2 = .ok (.invokevirtual 76, 3) := by decide +kernel
theorem dL_run_5 : decode cL_run 5 = .ok (.i2l, 1) := by decide +kernel
theorem dL_run_6 : decode cL_run 6 = .ok (.lreturn, 1) := by decide +kernel
theorem dL_run_7 : decode cL_run 7 = .ok (.astore_n 2, 1) := by decide +kernel
theorem dL_run_8 : decode cL_run 8 = .ok (.ldc2_w 17, 3) := by decide +kernel
theorem dL_run_11 : decode cL_run 11 = .ok (.lreturn, 1) := by decide +kernel
def sp_L_run : la_S := fun As A K => match As with
  | [.ref i, .int z1] => i < 2 ∧ okA (A i) ∧ K (some (.long (lr [x_ar] ((c_run z1) (A i))))) (lup A i ((c_run z1) (A i)).2.2)
  | _ => False
set_option maxRecDepth 20000 in
set_option maxHeartbeats 4000000 in
theorem ok_L_run {l : Launch} (hl : l.stackTraces = false) : la_Ok l yL_run (Cond.codeWith yL_run cL_run 3 (some .long) [(0, 6, 7, 15)]) 9 (30 * 9) 1 sp_L_run := by
  intro Y A As K hw h
  unfold sp_L_run at h
  split at h
  · next i z1 =>
    obtain ⟨hi, hA, h⟩ := h
    refine la_enterH (by decide) hl hw (Nat.le_of_ble_eq_true rfl) ?_
    intro p e R s m args' below meth c C htab hr
    refine sl_aload_n C (i := 0) dL_run_0 rfl (sl_iload_n C (i := 1) dL_run_1 rfl (fun _ _ _ h => h)) _ _ _ (la_call (i := i) (n := 1) (As := [.int z1]) C htab hr hi rfl ⟨by decide, by decide, wl_859, wl_1, by decide +kernel⟩ wl_856 wl_857 wl_858 dL_run_2 dL_run_5 dL_run_6 rfl rfl [x_ar] (c_run z1) (cE_run z1) hA (fun hs => cb_X9_run hl (hw.1 i hi).2.1 z1 hs) (fun k E hk => ?_) h)
    rcases (by have := (List.getElem?_eq_some_iff.mp hk).1; simp only [List.length_cons, List.length_nil] at this; omega : k = 0) with rfl
    · cases hk
      exact ⟨[], ⟨0, 6, 7, 15⟩, [], rfl, (fun y hy => absurd hy List.not_mem_nil), by decide, by decide, wl_655, wm_670, Or.inl ⟨2, dL_run_7, by decide, ⟨17, dL_run_8, wl_684, dL_run_11⟩⟩⟩
  · exact h.elim
theorem dL_set_0 : decode cL_set 0 = .ok (.aload_n 0, 1) := by decide +kernel
theorem dL_set_1 : decode cL_set 1 = .ok (.iload_n 1, 1) := by decide +kernel
theorem dL_set_2 : decode cL_set 2 = .ok (.iload_n 2, 1) := by decide +kernel
theorem dL_set_3 : decode cL_set 3 = .ok (.invokevirtual 79, 3) := by decide +kernel
theorem dL_set_6 : decode cL_set 6 = .ok (.i2l, 1) := by decide +kernel
theorem dL_set_7 : decode cL_set 7 = .ok (.lreturn, 1) := by decide +kernel
theorem dL_set_8 : decode cL_set 8 = .ok (.astore_n 3, 1) := by decide +kernel
theorem dL_set_9 : decode cL_set 9 = .ok (.ldc2_w 17, 3) := by decide +kernel
theorem dL_set_12 : decode cL_set 12 = .ok (.lreturn, 1) := by decide +kernel
def sp_L_set : la_S := fun As A K => match As with
  | [.ref i, .int z1, .int z2] => i < 2 ∧ okA (A i) ∧ K (some (.long (lr [x_ar] ((c_set z1 z2) (A i))))) (lup A i ((c_set z1 z2) (A i)).2.2)
  | _ => False
set_option maxRecDepth 20000 in
set_option maxHeartbeats 4000000 in
theorem ok_L_set {l : Launch} (hl : l.stackTraces = false) : la_Ok l yL_set (Cond.codeWith yL_set cL_set 4 (some .long) [(0, 7, 8, 15)]) 9 (30 * 9) 1 sp_L_set := by
  intro Y A As K hw h
  unfold sp_L_set at h
  split at h
  · next i z1 z2 =>
    obtain ⟨hi, hA, h⟩ := h
    refine la_enterH (by decide) hl hw (Nat.le_of_ble_eq_true rfl) ?_
    intro p e R s m args' below meth c C htab hr
    refine sl_aload_n C (i := 0) dL_set_0 rfl (sl_iload_n C (i := 1) dL_set_1 rfl (sl_iload_n C (i := 2) dL_set_2 rfl (fun _ _ _ h => h))) _ _ _ (la_call (i := i) (n := 2) (As := [.int z1, .int z2]) C htab hr hi rfl ⟨by decide, by decide, wl_866, wl_1, by decide +kernel⟩ wl_863 wl_864 wl_865 dL_set_3 dL_set_6 dL_set_7 rfl rfl [x_ar] (c_set z1 z2) (cE_set z1 z2) hA (fun hs => cb_X9_set hl (hw.1 i hi).2.1 z1 z2 hs) (fun k E hk => ?_) h)
    rcases (by have := (List.getElem?_eq_some_iff.mp hk).1; simp only [List.length_cons, List.length_nil] at this; omega : k = 0) with rfl
    · cases hk
      exact ⟨[], ⟨0, 7, 8, 15⟩, [], rfl, (fun y hy => absurd hy List.not_mem_nil), by decide, by decide, wl_655, wm_670, Or.inl ⟨3, dL_set_8, by decide, ⟨17, dL_set_9, wl_684, dL_set_12⟩⟩⟩
  · exact h.elim
theorem dL_landing_0 : decode cL_landing 0 = .ok (.aload_n 0, 1) := by decide +kernel
theorem dL_landing_1 : decode cL_landing 1 = .ok (.iload_n 1, 1) := by decide +kernel
theorem dL_landing_2 : decode cL_landing 2 = .ok (.iload_n 2, 1) := by decide +kernel
theorem dL_landing_3 : decode cL_landing 3 = .ok (.invokevirtual 85, 3) := by decide +kernel
theorem dL_landing_6 : decode cL_landing 6 = .ok (.i2l, 1) := by decide +kernel
theorem dL_landing_7 : decode cL_landing 7 = .ok (.lreturn, 1) := by decide +kernel
theorem dL_landing_8 : decode cL_landing 8 = .ok (.astore_n 3, 1) := by decide +kernel
theorem dL_landing_9 : decode cL_landing 9 = .ok (.ldc2_w 36, 3) := by decide +kernel
theorem dL_landing_12 : decode cL_landing 12 = .ok (.lreturn, 1) := by decide +kernel
theorem dL_landing_13 : decode cL_landing 13 = .ok (.astore_n 3, 1) := by decide +kernel
theorem dL_landing_14 : decode cL_landing 14 = .ok (.ldc2_w 17, 3) := by decide +kernel
theorem dL_landing_17 : decode cL_landing 17 = .ok (.lreturn, 1) := by decide +kernel
def sp_L_landing : la_S := fun As A K => match As with
  | [.ref i, .int z1, .int z2] => i < 2 ∧ okA (A i) ∧ K (some (.long (v_landing z1 z2 (A i).1))) A
  | _ => False
set_option maxRecDepth 20000 in
set_option maxHeartbeats 4000000 in
theorem ok_L_landing {l : Launch} (hl : l.stackTraces = false) : la_Ok l yL_landing (Cond.codeWith yL_landing cL_landing 4 (some .long) [(0, 7, 8, 34), (0, 7, 13, 15)]) 8 (30 * 8) 1 sp_L_landing := by
  intro Y A As K hw h
  unfold sp_L_landing at h
  split at h
  · next i z1 z2 =>
    obtain ⟨hi, hA, h⟩ := h
    replace h : K (some (.long (lr [x_ix, x_ar] ((c_landing z1 z2) (A i))))) (lup A i ((c_landing z1 z2) (A i)).2.2) := by rw [cQ_landing, lup_self, lr_landing]; exact h
    refine la_enterH (by decide) hl hw (Nat.le_of_ble_eq_true rfl) ?_
    intro p e R s m args' below meth c C htab hr
    refine sl_aload_n C (i := 0) dL_landing_0 rfl (sl_iload_n C (i := 1) dL_landing_1 rfl (sl_iload_n C (i := 2) dL_landing_2 rfl (fun _ _ _ h => h))) _ _ _ (la_call (i := i) (n := 2) (As := [.int z1, .int z2]) C htab hr hi rfl ⟨by decide, by decide, wl_886, wl_1, by decide +kernel⟩ wl_883 wl_884 wl_885 dL_landing_3 dL_landing_6 dL_landing_7 rfl rfl [x_ix, x_ar] (c_landing z1 z2) (cE_q (fun _ => cQ_landing)) hA (fun hs => cb_X9_landing hl (hw.1 i hi).2.1 z1 z2 hs) (fun k E hk => ?_) h)
    rcases (by have := (List.getElem?_eq_some_iff.mp hk).1; simp only [List.length_cons, List.length_nil] at this; omega : k = 0 ∨ k = 1) with rfl | rfl
    · cases hk
      exact ⟨[], ⟨0, 7, 8, 34⟩, [⟨0, 7, 13, 15⟩], rfl, (fun y hy => absurd hy List.not_mem_nil), by decide, by decide, wl_609, wm_621, Or.inl ⟨3, dL_landing_8, by decide, ⟨36, dL_landing_9, wl_635, dL_landing_12⟩⟩⟩
    · cases hk
      exact ⟨[⟨0, 7, 8, 34⟩], ⟨0, 7, 13, 15⟩, [], rfl, (fun y hy => by obtain rfl := List.mem_singleton.mp hy; exact ⟨by decide, _, wl_609, fun U h => h.2.1⟩), by decide, by decide, wl_655, wm_670, Or.inl ⟨3, dL_landing_13, by decide, ⟨17, dL_landing_14, wl_684, dL_landing_17⟩⟩⟩
  · exact h.elim
theorem dL_finds_0 : decode cL_finds 0 = .ok (.aload_n 0, 1) := by decide +kernel
theorem dL_finds_1 : decode cL_finds 1 = .ok (.iload_n 1, 1) := by decide +kernel
theorem dL_finds_2 : decode cL_finds 2 = .ok (.invokevirtual 88, 3) := by decide +kernel
theorem dL_finds_5 : decode cL_finds 5 = .ok (.i2l, 1) := by decide +kernel
theorem dL_finds_6 : decode cL_finds 6 = .ok (.lreturn, 1) := by decide +kernel
theorem dL_finds_7 : decode cL_finds 7 = .ok (.astore_n 2, 1) := by decide +kernel
theorem dL_finds_8 : decode cL_finds 8 = .ok (.ldc2_w 17, 3) := by decide +kernel
theorem dL_finds_11 : decode cL_finds 11 = .ok (.lreturn, 1) := by decide +kernel
def sp_L_finds : la_S := fun As A K => match As with
  | [.ref i, .int z1] => i < 2 ∧ okA (A i) ∧ K (some (.long (v_finds z1 (A i).1))) A
  | _ => False
set_option maxRecDepth 20000 in
set_option maxHeartbeats 4000000 in
theorem ok_L_finds {l : Launch} (hl : l.stackTraces = false) : la_Ok l yL_finds (Cond.codeWith yL_finds cL_finds 3 (some .long) [(0, 6, 7, 15)]) 8 (30 * 8) 1 sp_L_finds := by
  intro Y A As K hw h
  unfold sp_L_finds at h
  split at h
  · next i z1 =>
    obtain ⟨hi, hA, h⟩ := h
    replace h : K (some (.long (lr [x_ar] ((c_finds z1) (A i))))) (lup A i ((c_finds z1) (A i)).2.2) := by rw [cQ_finds, lup_self, lr_finds]; exact h
    refine la_enterH (by decide) hl hw (Nat.le_of_ble_eq_true rfl) ?_
    intro p e R s m args' below meth c C htab hr
    refine sl_aload_n C (i := 0) dL_finds_0 rfl (sl_iload_n C (i := 1) dL_finds_1 rfl (fun _ _ _ h => h)) _ _ _ (la_call (i := i) (n := 1) (As := [.int z1]) C htab hr hi rfl ⟨by decide, by decide, wl_894, wl_1, by decide +kernel⟩ wl_891 wl_892 wl_893 dL_finds_2 dL_finds_5 dL_finds_6 rfl rfl [x_ar] (c_finds z1) (cE_q (fun _ => cQ_finds)) hA (fun hs => cb_X9_finds hl (hw.1 i hi).2.1 z1 hs) (fun k E hk => ?_) h)
    rcases (by have := (List.getElem?_eq_some_iff.mp hk).1; simp only [List.length_cons, List.length_nil] at this; omega : k = 0) with rfl
    · cases hk
      exact ⟨[], ⟨0, 6, 7, 15⟩, [], rfl, (fun y hy => absurd hy List.not_mem_nil), by decide, by decide, wl_655, wm_670, Or.inl ⟨2, dL_finds_7, by decide, ⟨17, dL_finds_8, wl_684, dL_finds_11⟩⟩⟩
  · exact h.elim
theorem dL_coming_0 : decode cL_coming 0 = .ok (.aload_n 0, 1) := by decide +kernel
theorem dL_coming_1 : decode cL_coming 1 = .ok (.iload_n 1, 1) := by decide +kernel
theorem dL_coming_2 : decode cL_coming 2 = .ok (.iload_n 2, 1) := by decide +kernel
theorem dL_coming_3 : decode cL_coming 3 = .ok (.invokevirtual 91, 3) := by decide +kernel
theorem dL_coming_6 : decode cL_coming 6 = .ok (.i2l, 1) := by decide +kernel
theorem dL_coming_7 : decode cL_coming 7 = .ok (.lreturn, 1) := by decide +kernel
theorem dL_coming_8 : decode cL_coming 8 = .ok (.astore_n 3, 1) := by decide +kernel
theorem dL_coming_9 : decode cL_coming 9 = .ok (.ldc2_w 17, 3) := by decide +kernel
theorem dL_coming_12 : decode cL_coming 12 = .ok (.lreturn, 1) := by decide +kernel
def sp_L_coming : la_S := fun As A K => match As with
  | [.ref i, .int z1, .int z2] => i < 2 ∧ okA (A i) ∧ K (some (.long (v_coming z1 z2 (A i).1))) A
  | _ => False
set_option maxRecDepth 20000 in
set_option maxHeartbeats 4000000 in
theorem ok_L_coming {l : Launch} (hl : l.stackTraces = false) : la_Ok l yL_coming (Cond.codeWith yL_coming cL_coming 4 (some .long) [(0, 7, 8, 15)]) 8 (30 * 8) 1 sp_L_coming := by
  intro Y A As K hw h
  unfold sp_L_coming at h
  split at h
  · next i z1 z2 =>
    obtain ⟨hi, hA, h⟩ := h
    replace h : K (some (.long (lr [x_ar] ((c_coming z1 z2) (A i))))) (lup A i ((c_coming z1 z2) (A i)).2.2) := by rw [cQ_coming, lup_self, lr_coming]; exact h
    refine la_enterH (by decide) hl hw (Nat.le_of_ble_eq_true rfl) ?_
    intro p e R s m args' below meth c C htab hr
    refine sl_aload_n C (i := 0) dL_coming_0 rfl (sl_iload_n C (i := 1) dL_coming_1 rfl (sl_iload_n C (i := 2) dL_coming_2 rfl (fun _ _ _ h => h))) _ _ _ (la_call (i := i) (n := 2) (As := [.int z1, .int z2]) C htab hr hi rfl ⟨by decide, by decide, wl_902, wl_1, by decide +kernel⟩ wl_899 wl_900 wl_901 dL_coming_3 dL_coming_6 dL_coming_7 rfl rfl [x_ar] (c_coming z1 z2) (cE_q (fun _ => cQ_coming)) hA (fun hs => cb_X9_coming hl (hw.1 i hi).2.1 z1 z2 hs) (fun k E hk => ?_) h)
    rcases (by have := (List.getElem?_eq_some_iff.mp hk).1; simp only [List.length_cons, List.length_nil] at this; omega : k = 0) with rfl
    · cases hk
      exact ⟨[], ⟨0, 7, 8, 15⟩, [], rfl, (fun y hy => absurd hy List.not_mem_nil), by decide, by decide, wl_655, wm_670, Or.inl ⟨3, dL_coming_8, by decide, ⟨17, dL_coming_9, wl_684, dL_coming_12⟩⟩⟩
  · exact h.elim
theorem dL_lacks_0 : decode cL_lacks 0 = .ok (.aload_n 0, 1) := by decide +kernel
theorem dL_lacks_1 : decode cL_lacks 1 = .ok (.iload_n 1, 1) := by decide +kernel
theorem dL_lacks_2 : decode cL_lacks 2 = .ok (.iload_n 2, 1) := by decide +kernel
theorem dL_lacks_3 : decode cL_lacks 3 = .ok (.invokevirtual 94, 3) := by decide +kernel
theorem dL_lacks_6 : decode cL_lacks 6 = .ok (.i2l, 1) := by decide +kernel
theorem dL_lacks_7 : decode cL_lacks 7 = .ok (.lreturn, 1) := by decide +kernel
theorem dL_lacks_8 : decode cL_lacks 8 = .ok (.astore_n 3, 1) := by decide +kernel
theorem dL_lacks_9 : decode cL_lacks 9 = .ok (.ldc2_w 36, 3) := by decide +kernel
theorem dL_lacks_12 : decode cL_lacks 12 = .ok (.lreturn, 1) := by decide +kernel
theorem dL_lacks_13 : decode cL_lacks 13 = .ok (.astore_n 3, 1) := by decide +kernel
theorem dL_lacks_14 : decode cL_lacks 14 = .ok (.ldc2_w 17, 3) := by decide +kernel
theorem dL_lacks_17 : decode cL_lacks 17 = .ok (.lreturn, 1) := by decide +kernel
def sp_L_lacks : la_S := fun As A K => match As with
  | [.ref i, .int z1, .int z2] => i < 2 ∧ okA (A i) ∧ K (some (.long (v_lacks z1 z2 (A i).1))) A
  | _ => False
set_option maxRecDepth 20000 in
set_option maxHeartbeats 4000000 in
theorem ok_L_lacks {l : Launch} (hl : l.stackTraces = false) : la_Ok l yL_lacks (Cond.codeWith yL_lacks cL_lacks 4 (some .long) [(0, 7, 8, 34), (0, 7, 13, 15)]) 8 (30 * 8) 1 sp_L_lacks := by
  intro Y A As K hw h
  unfold sp_L_lacks at h
  split at h
  · next i z1 z2 =>
    obtain ⟨hi, hA, h⟩ := h
    replace h : K (some (.long (lr [x_ix, x_ar] ((c_lacks z1 z2) (A i))))) (lup A i ((c_lacks z1 z2) (A i)).2.2) := by rw [cQ_lacks, lup_self, lr_lacks]; exact h
    refine la_enterH (by decide) hl hw (Nat.le_of_ble_eq_true rfl) ?_
    intro p e R s m args' below meth c C htab hr
    refine sl_aload_n C (i := 0) dL_lacks_0 rfl (sl_iload_n C (i := 1) dL_lacks_1 rfl (sl_iload_n C (i := 2) dL_lacks_2 rfl (fun _ _ _ h => h))) _ _ _ (la_call (i := i) (n := 2) (As := [.int z1, .int z2]) C htab hr hi rfl ⟨by decide, by decide, wl_909, wl_1, by decide +kernel⟩ wl_906 wl_907 wl_908 dL_lacks_3 dL_lacks_6 dL_lacks_7 rfl rfl [x_ix, x_ar] (c_lacks z1 z2) (cE_q (fun _ => cQ_lacks)) hA (fun hs => cb_X9_lacks hl (hw.1 i hi).2.1 z1 z2 hs) (fun k E hk => ?_) h)
    rcases (by have := (List.getElem?_eq_some_iff.mp hk).1; simp only [List.length_cons, List.length_nil] at this; omega : k = 0 ∨ k = 1) with rfl | rfl
    · cases hk
      exact ⟨[], ⟨0, 7, 8, 34⟩, [⟨0, 7, 13, 15⟩], rfl, (fun y hy => absurd hy List.not_mem_nil), by decide, by decide, wl_609, wm_621, Or.inl ⟨3, dL_lacks_8, by decide, ⟨36, dL_lacks_9, wl_635, dL_lacks_12⟩⟩⟩
    · cases hk
      exact ⟨[⟨0, 7, 8, 34⟩], ⟨0, 7, 13, 15⟩, [], rfl, (fun y hy => by obtain rfl := List.mem_singleton.mp hy; exact ⟨by decide, _, wl_609, fun U h => h.2.1⟩), by decide, by decide, wl_655, wm_670, Or.inl ⟨3, dL_lacks_13, by decide, ⟨17, dL_lacks_14, wl_684, dL_lacks_17⟩⟩⟩
  · exact h.elim
theorem dL_ifDelivered_0 : decode cL_ifDelivered 0 = .ok (.aload_n 0, 1) := by decide +kernel
theorem dL_ifDelivered_1 : decode cL_ifDelivered 1 = .ok (.iload_n 1, 1) := by decide +kernel
theorem dL_ifDelivered_2 : decode cL_ifDelivered 2 = .ok (.iload_n 2, 1) := by decide +kernel
theorem dL_ifDelivered_3 : decode cL_ifDelivered 3 = .ok (.iload_n 3, 1) := by decide +kernel
theorem dL_ifDelivered_4 : decode cL_ifDelivered 4 = .ok (.iload 4, 2) := by decide +kernel
theorem dL_ifDelivered_6 : decode cL_ifDelivered 6 = .ok (.invokevirtual 97, 3) := by decide +kernel
theorem dL_ifDelivered_9 : decode cL_ifDelivered 9 = .ok (.i2l, 1) := by decide +kernel
theorem dL_ifDelivered_10 : decode cL_ifDelivered 10 = .ok (.lreturn, 1) := by decide +kernel
theorem dL_ifDelivered_11 : decode cL_ifDelivered 11 = .ok (.astore 5, 2) := by decide +kernel
theorem dL_ifDelivered_13 : decode cL_ifDelivered 13 = .ok (.ldc2_w 36, 3) := by decide +kernel
theorem dL_ifDelivered_16 : decode cL_ifDelivered 16 = .ok (.lreturn, 1) := by decide +kernel
theorem dL_ifDelivered_17 : decode cL_ifDelivered 17 = .ok (.astore 5, 2) := by decide +kernel
theorem dL_ifDelivered_19 : decode cL_ifDelivered 19 = .ok (.ldc2_w 17, 3) := by decide +kernel
theorem dL_ifDelivered_22 : decode cL_ifDelivered 22 = .ok (.lreturn, 1) := by decide +kernel
theorem dL_ifDelivered_23 : decode cL_ifDelivered 23 = .ok (.astore 5, 2) := by decide +kernel
theorem dL_ifDelivered_25 : decode cL_ifDelivered 25 = .ok (.ldc2_w 21, 3) := by decide +kernel
theorem dL_ifDelivered_28 : decode cL_ifDelivered 28 = .ok (.lreturn, 1) := by decide +kernel
def sp_L_ifDelivered : la_S := fun As A K => match As with
  | [.ref i, .int z1, .int z2, .int z3, .int z4] => i < 2 ∧ okA (A i) ∧ K (some (.long (v_ifDelivered z1 z2 z3 z4 (A i).1))) A
  | _ => False
set_option maxRecDepth 20000 in
set_option maxHeartbeats 4000000 in
theorem ok_L_ifDelivered {l : Launch} (hl : l.stackTraces = false) : la_Ok l yL_ifDelivered (Cond.codeWith yL_ifDelivered cL_ifDelivered 6 (some .long) [(0, 10, 11, 34), (0, 10, 17, 15), (0, 10, 23, 19)]) 8 (30 * 8) 1 sp_L_ifDelivered := by
  intro Y A As K hw h
  unfold sp_L_ifDelivered at h
  split at h
  · next i z1 z2 z3 z4 =>
    obtain ⟨hi, hA, h⟩ := h
    replace h : K (some (.long (lr [x_ix, x_ar, x_st] ((c_ifDelivered z1 z2 z3 z4) (A i))))) (lup A i ((c_ifDelivered z1 z2 z3 z4) (A i)).2.2) := by rw [cQ_ifDelivered, lup_self, lr_ifDelivered]; exact h
    refine la_enterH (by decide) hl hw (Nat.le_of_ble_eq_true rfl) ?_
    intro p e R s m args' below meth c C htab hr
    refine sl_aload_n C (i := 0) dL_ifDelivered_0 rfl (sl_iload_n C (i := 1) dL_ifDelivered_1 rfl (sl_iload_n C (i := 2) dL_ifDelivered_2 rfl (sl_iload_n C (i := 3) dL_ifDelivered_3 rfl (sl_iload C (i := 4) dL_ifDelivered_4 (fun _ _ _ h => h))))) _ _ _ (la_call (i := i) (n := 4) (As := [.int z1, .int z2, .int z3, .int z4]) C htab hr hi rfl ⟨by decide, by decide, wl_921, wl_1, by decide +kernel⟩ wl_918 wl_919 wl_920 dL_ifDelivered_6 dL_ifDelivered_9 dL_ifDelivered_10 rfl rfl [x_ix, x_ar, x_st] (c_ifDelivered z1 z2 z3 z4) (cE_q (fun _ => cQ_ifDelivered)) hA (fun hs => cb_X9_ifDelivered hl (hw.1 i hi).2.1 z1 z2 z3 z4 hs) (fun k E hk => ?_) h)
    rcases (by have := (List.getElem?_eq_some_iff.mp hk).1; simp only [List.length_cons, List.length_nil] at this; omega : k = 0 ∨ k = 1 ∨ k = 2) with rfl | rfl | rfl
    · cases hk
      exact ⟨[], ⟨0, 10, 11, 34⟩, [⟨0, 10, 17, 15⟩, ⟨0, 10, 23, 19⟩], rfl, (fun y hy => absurd hy List.not_mem_nil), by decide, by decide, wl_609, wm_621, Or.inr ⟨5, dL_ifDelivered_11, by decide, ⟨36, dL_ifDelivered_13, wl_635, dL_ifDelivered_16⟩⟩⟩
    · cases hk
      exact ⟨[⟨0, 10, 11, 34⟩], ⟨0, 10, 17, 15⟩, [⟨0, 10, 23, 19⟩], rfl, (fun y hy => by obtain rfl := List.mem_singleton.mp hy; exact ⟨by decide, _, wl_609, fun U h => h.2.1⟩), by decide, by decide, wl_655, wm_670, Or.inr ⟨5, dL_ifDelivered_17, by decide, ⟨17, dL_ifDelivered_19, wl_684, dL_ifDelivered_22⟩⟩⟩
    · cases hk
      exact ⟨[⟨0, 10, 11, 34⟩, ⟨0, 10, 17, 15⟩], ⟨0, 10, 23, 19⟩, [], rfl, (fun y hy => by
        rcases List.mem_cons.mp hy with rfl | hy
        · exact ⟨by decide, _, wl_609, fun U h => h.2.2.2⟩
        · obtain rfl := List.mem_singleton.mp hy; exact ⟨by decide, _, wl_655, fun U h => h.2.2.1⟩), by decide, by decide, wl_322, wm_353, Or.inr ⟨5, dL_ifDelivered_23, by decide, ⟨21, dL_ifDelivered_25, wl_605, dL_ifDelivered_28⟩⟩⟩
  · exact h.elim
theorem dL_script_0 : decode cL_script 0 = .ok (.aload_n 0, 1) := by decide +kernel
theorem dL_script_1 : decode cL_script 1 = .ok (.iload_n 1, 1) := by decide +kernel
theorem dL_script_2 : decode cL_script 2 = .ok (.lload_n 2, 1) := by decide +kernel
theorem dL_script_3 : decode cL_script 3 = .ok (.invokevirtual 101, 3) := by decide +kernel
theorem dL_script_6 : decode cL_script 6 = .ok (.i2l, 1) := by decide +kernel
theorem dL_script_7 : decode cL_script 7 = .ok (.lreturn, 1) := by decide +kernel
theorem dL_script_8 : decode cL_script 8 = .ok (.astore 4, 2) := by decide +kernel
theorem dL_script_10 : decode cL_script 10 = .ok (.ldc2_w 17, 3) := by decide +kernel
theorem dL_script_13 : decode cL_script 13 = .ok (.lreturn, 1) := by decide +kernel
def sp_L_script : la_S := fun As A K => match As with
  | [.ref i, .int z1, .long z2] => i < 2 ∧ okA (A i) ∧ K (some (.long (v_script z1 z2 (A i).1))) A
  | _ => False
set_option maxRecDepth 20000 in
set_option maxHeartbeats 4000000 in
theorem ok_L_script {l : Launch} (hl : l.stackTraces = false) : la_Ok l yL_script (Cond.codeWith yL_script cL_script 5 (some .long) [(0, 7, 8, 15)]) 8 (30 * 8) 1 sp_L_script := by
  intro Y A As K hw h
  unfold sp_L_script at h
  split at h
  · next i z1 z2 =>
    obtain ⟨hi, hA, h⟩ := h
    replace h : K (some (.long (lr [x_ar] ((c_runScript z1 z2) (A i))))) (lup A i ((c_runScript z1 z2) (A i)).2.2) := by rw [cQ_runScript, lup_self, lr_script]; exact h
    refine la_enterH (by decide) hl hw (Nat.le_of_ble_eq_true rfl) ?_
    intro p e R s m args' below meth c C htab hr
    refine sl_aload_n C (i := 0) dL_script_0 rfl (sl_iload_n C (i := 1) dL_script_1 rfl (sl_lload_n C (i := 2) dL_script_2 rfl (fun _ _ _ h => h))) _ _ _ (la_call (i := i) (n := 2) (As := [.int z1, .long z2]) C htab hr hi rfl ⟨by decide, by decide, wl_929, wl_1, by decide +kernel⟩ wl_926 wl_927 wl_928 dL_script_3 dL_script_6 dL_script_7 rfl rfl [x_ar] (c_runScript z1 z2) (cE_q (fun _ => cQ_runScript)) hA (fun hs => cb_X9_runScript hl (hw.1 i hi).2.1 z1 z2 hs) (fun k E hk => ?_) h)
    rcases (by have := (List.getElem?_eq_some_iff.mp hk).1; simp only [List.length_cons, List.length_nil] at this; omega : k = 0) with rfl
    · cases hk
      exact ⟨[], ⟨0, 7, 8, 15⟩, [], rfl, (fun y hy => absurd hy List.not_mem_nil), by decide, by decide, wl_655, wm_670, Or.inr ⟨4, dL_script_8, by decide, ⟨17, dL_script_10, wl_684, dL_script_13⟩⟩⟩
  · exact h.elim
theorem dL_simulate_0 : decode cL_simulate 0 = .ok (.aload_n 0, 1) := by decide +kernel
theorem dL_simulate_1 : decode cL_simulate 1 = .ok (.lload_n 1, 1) := by decide +kernel
theorem dL_simulate_2 : decode cL_simulate 2 = .ok (.iload_n 3, 1) := by decide +kernel
theorem dL_simulate_3 : decode cL_simulate 3 = .ok (.invokevirtual 105, 3) := by decide +kernel
theorem dL_simulate_6 : decode cL_simulate 6 = .ok (.i2l, 1) := by decide +kernel
theorem dL_simulate_7 : decode cL_simulate 7 = .ok (.lreturn, 1) := by decide +kernel
theorem dL_simulate_8 : decode cL_simulate 8 = .ok (.astore 4, 2) := by decide +kernel
theorem dL_simulate_10 : decode cL_simulate 10 = .ok (.ldc2_w 17, 3) := by decide +kernel
theorem dL_simulate_13 : decode cL_simulate 13 = .ok (.lreturn, 1) := by decide +kernel
def sp_L_simulate : la_S := fun As A K => match As with
  | [.ref i, .long z1, .int z2] => i < 2 ∧ okA (A i) ∧ K (some (.long (v_simulate z1 z2 (A i).1))) A
  | _ => False
set_option maxRecDepth 20000 in
set_option maxHeartbeats 4000000 in
theorem ok_L_simulate {l : Launch} (hl : l.stackTraces = false) : la_Ok l yL_simulate (Cond.codeWith yL_simulate cL_simulate 5 (some .long) [(0, 7, 8, 15)]) 8 (30 * 8) 1 sp_L_simulate := by
  intro Y A As K hw h
  unfold sp_L_simulate at h
  split at h
  · next i z1 z2 =>
    obtain ⟨hi, hA, h⟩ := h
    replace h : K (some (.long (lr [x_ar] ((c_simulate z1 z2) (A i))))) (lup A i ((c_simulate z1 z2) (A i)).2.2) := by rw [cQ_simulate, lup_self, lr_simulate]; exact h
    refine la_enterH (by decide) hl hw (Nat.le_of_ble_eq_true rfl) ?_
    intro p e R s m args' below meth c C htab hr
    refine sl_aload_n C (i := 0) dL_simulate_0 rfl (sl_lload_n C (i := 1) dL_simulate_1 rfl (sl_iload_n C (i := 3) dL_simulate_2 rfl (fun _ _ _ h => h))) _ _ _ (la_call (i := i) (n := 2) (As := [.long z1, .int z2]) C htab hr hi rfl ⟨by decide, by decide, wl_952, wl_1, by decide +kernel⟩ wl_949 wl_950 wl_951 dL_simulate_3 dL_simulate_6 dL_simulate_7 rfl rfl [x_ar] (c_simulate z1 z2) (cE_q (fun _ => cQ_simulate)) hA (fun hs => cb_X9_simulate hl (hw.1 i hi).2.1 z1 z2 hs) (fun k E hk => ?_) h)
    rcases (by have := (List.getElem?_eq_some_iff.mp hk).1; simp only [List.length_cons, List.length_nil] at this; omega : k = 0) with rfl
    · cases hk
      exact ⟨[], ⟨0, 7, 8, 15⟩, [], rfl, (fun y hy => absurd hy List.not_mem_nil), by decide, by decide, wl_655, wm_670, Or.inr ⟨4, dL_simulate_8, by decide, ⟨17, dL_simulate_10, wl_684, dL_simulate_13⟩⟩⟩
  · exact h.elim
theorem dL_append_0 : decode cL_append 0 = .ok (.aload_n 0, 1) := by decide +kernel
theorem dL_append_1 : decode cL_append 1 = .ok (.iload_n 1, 1) := by decide +kernel
theorem dL_append_2 : decode cL_append 2 = .ok (.invokevirtual 9, 3) := by decide +kernel
theorem dL_append_5 : decode cL_append 5 = .ok (.i2l, 1) := by decide +kernel
theorem dL_append_6 : decode cL_append 6 = .ok (.lreturn, 1) := by decide +kernel
theorem dL_append_7 : decode cL_append 7 = .ok (.astore_n 2, 1) := by decide +kernel
theorem dL_append_8 : decode cL_append 8 = .ok (.ldc2_w 17, 3) := by decide +kernel
theorem dL_append_11 : decode cL_append 11 = .ok (.lreturn, 1) := by decide +kernel
theorem dL_append_12 : decode cL_append 12 = .ok (.astore_n 2, 1) := by decide +kernel
theorem dL_append_13 : decode cL_append 13 = .ok (.ldc2_w 21, 3) := by decide +kernel
theorem dL_append_16 : decode cL_append 16 = .ok (.lreturn, 1) := by decide +kernel
def sp_L_append : la_S := fun As A K => match As with
  | [.ref i, .int z1] => i < 2 ∧ okA (A i) ∧ K (some (.long (lr [x_ar, x_st] ((c_append z1) (A i))))) (lup A i ((c_append z1) (A i)).2.2)
  | _ => False
set_option maxRecDepth 20000 in
set_option maxHeartbeats 4000000 in
theorem ok_L_append {l : Launch} (hl : l.stackTraces = false) : la_Ok l yL_append (Cond.codeWith yL_append cL_append 3 (some .long) [(0, 6, 7, 15), (0, 6, 12, 19)]) 7 (30 * 7) 1 sp_L_append := by
  intro Y A As K hw h
  unfold sp_L_append at h
  split at h
  · next i z1 =>
    obtain ⟨hi, hA, h⟩ := h
    refine la_enterH (by decide) hl hw (Nat.le_of_ble_eq_true rfl) ?_
    intro p e R s m args' below meth c C htab hr
    refine sl_aload_n C (i := 0) dL_append_0 rfl (sl_iload_n C (i := 1) dL_append_1 rfl (fun _ _ _ h => h)) _ _ _ (la_call (i := i) (n := 1) (As := [.int z1]) C htab hr hi rfl ⟨by decide, by decide, wl_965, wl_1, by decide +kernel⟩ wl_962 wl_963 wl_964 dL_append_2 dL_append_5 dL_append_6 rfl rfl [x_ar, x_st] (c_append z1) (cE_append z1) hA (fun hs => cb_X9_append hl (hw.1 i hi).2.1 z1 hs) (fun k E hk => ?_) h)
    rcases (by have := (List.getElem?_eq_some_iff.mp hk).1; simp only [List.length_cons, List.length_nil] at this; omega : k = 0 ∨ k = 1) with rfl | rfl
    · cases hk
      exact ⟨[], ⟨0, 6, 7, 15⟩, [⟨0, 6, 12, 19⟩], rfl, (fun y hy => absurd hy List.not_mem_nil), by decide, by decide, wl_655, wm_670, Or.inl ⟨2, dL_append_7, by decide, ⟨17, dL_append_8, wl_684, dL_append_11⟩⟩⟩
    · cases hk
      exact ⟨[⟨0, 6, 7, 15⟩], ⟨0, 6, 12, 19⟩, [], rfl, (fun y hy => by obtain rfl := List.mem_singleton.mp hy; exact ⟨by decide, _, wl_655, fun U h => h.2.2.1⟩), by decide, by decide, wl_322, wm_353, Or.inl ⟨2, dL_append_12, by decide, ⟨21, dL_append_13, wl_605, dL_append_16⟩⟩⟩
  · exact h.elim
theorem dL_undo_0 : decode cL_undo 0 = .ok (.aload_n 0, 1) := by decide +kernel
theorem dL_undo_1 : decode cL_undo 1 = .ok (.invokevirtual 82, 3) := by decide +kernel
theorem dL_undo_4 : decode cL_undo 4 = .ok (.i2l, 1) := by decide +kernel
theorem dL_undo_5 : decode cL_undo 5 = .ok (.lreturn, 1) := by decide +kernel
theorem dL_undo_6 : decode cL_undo 6 = .ok (.astore_n 1, 1) := by decide +kernel
theorem dL_undo_7 : decode cL_undo 7 = .ok (.ldc2_w 21, 3) := by decide +kernel
theorem dL_undo_10 : decode cL_undo 10 = .ok (.lreturn, 1) := by decide +kernel
def sp_L_undo : la_S := fun As A K => match As with
  | [.ref i] => i < 2 ∧ okA (A i) ∧ K (some (.long (lr [x_st] (c_undo (A i))))) (lup A i (c_undo (A i)).2.2)
  | _ => False
set_option maxRecDepth 20000 in
set_option maxHeartbeats 4000000 in
theorem ok_L_undo {l : Launch} (hl : l.stackTraces = false) : la_Ok l yL_undo (Cond.codeWith yL_undo cL_undo 2 (some .long) [(0, 5, 6, 19)]) 7 (30 * 7) 1 sp_L_undo := by
  intro Y A As K hw h
  unfold sp_L_undo at h
  split at h
  · next i =>
    obtain ⟨hi, hA, h⟩ := h
    refine la_enterH (by decide) hl hw (Nat.le_of_ble_eq_true rfl) ?_
    intro p e R s m args' below meth c C htab hr
    refine sl_aload_n C (i := 0) dL_undo_0 rfl (fun _ _ _ h => h) _ _ _ (la_call (i := i) (n := 0) (As := []) C htab hr hi rfl ⟨by decide, by decide, wl_994, wl_1, by decide +kernel⟩ wl_991 wl_992 wl_993 dL_undo_1 dL_undo_4 dL_undo_5 rfl rfl [x_st] c_undo (cE_undo) hA (fun hs => cb_X9_undo hl (hw.1 i hi).2.1 hs) (fun k E hk => ?_) h)
    rcases (by have := (List.getElem?_eq_some_iff.mp hk).1; simp only [List.length_cons, List.length_nil] at this; omega : k = 0) with rfl
    · cases hk
      exact ⟨[], ⟨0, 5, 6, 19⟩, [], rfl, (fun y hy => absurd hy List.not_mem_nil), by decide, by decide, wl_322, wm_353, Or.inl ⟨1, dL_undo_6, by decide, ⟨21, dL_undo_7, wl_605, dL_undo_10⟩⟩⟩
  · exact h.elim
