theorem wm_490 : Cond.castable "java/lang/IllegalArgumentException" "java/lang/IllegalArgumentException" ∈ ab_N := ab_inN 490 (by decide +kernel) rfl
theorem wm_558 : Cond.castable "java/lang/IllegalStateException" "java/lang/IllegalStateException" ∈ ab_N := ab_inN 558 (by decide +kernel) rfl
theorem wm_674 : Cond.castable "java/lang/IndexOutOfBoundsException" "java/lang/IndexOutOfBoundsException" ∈ ab_N := ab_inN 674 (by decide +kernel) rfl
theorem wl_1 : Cond.initialized yX9_append.cls ∈ ab_T := ab_in 1 (by decide +kernel) rfl
theorem wl_481 : Cond.classLink RL 13 "java/lang/IllegalArgumentException" ∈ ab_T := ab_in 481 (by decide +kernel) rfl
theorem wl_482 : Cond.classLink RL 15 "java/lang/IllegalStateException" ∈ ab_T := ab_in 482 (by decide +kernel) rfl
theorem wl_483 : Cond.methodLink RL 7 yX9_append ∈ ab_T := ab_in 483 (by decide +kernel) rfl
theorem wl_484 : Cond.instanceMethod yX9_append ∈ ab_T := ab_in 484 (by decide +kernel) rfl
theorem wl_485 : Cond.selects yX9_append.cls yX9_append yX9_append ∈ ab_T := ab_in 485 (by decide +kernel) rfl
theorem wl_486 : Cond.code yX9_append cX9_append 2 (some .int) ∈ ab_T := ab_in 486 (by decide +kernel) rfl
theorem wl_579 : Cond.methodLink RL 17 yX9_load ∈ ab_T := ab_in 579 (by decide +kernel) rfl
theorem wl_580 : Cond.instanceMethod yX9_load ∈ ab_T := ab_in 580 (by decide +kernel) rfl
theorem wl_581 : Cond.selects yX9_load.cls yX9_load yX9_load ∈ ab_T := ab_in 581 (by decide +kernel) rfl
theorem wl_582 : Cond.code yX9_load cX9_load 3 (some .int) ∈ ab_T := ab_in 582 (by decide +kernel) rfl
theorem wl_646 : Cond.methodLink RL 21 yX9_about ∈ ab_T := ab_in 646 (by decide +kernel) rfl
theorem wl_647 : Cond.instanceMethod yX9_about ∈ ab_T := ab_in 647 (by decide +kernel) rfl
theorem wl_648 : Cond.selects yX9_about.cls yX9_about yX9_about ∈ ab_T := ab_in 648 (by decide +kernel) rfl
theorem wl_649 : Cond.code yX9_about cX9_about 2 (some .int) ∈ ab_T := ab_in 649 (by decide +kernel) rfl
theorem wl_662 : Cond.classLink RL 28 "java/lang/IndexOutOfBoundsException" ∈ ab_T := ab_in 662 (by decide +kernel) rfl
theorem wl_663 : Cond.methodLink RL 24 yX9_station ∈ ab_T := ab_in 663 (by decide +kernel) rfl
theorem wl_664 : Cond.instanceMethod yX9_station ∈ ab_T := ab_in 664 (by decide +kernel) rfl
theorem wl_665 : Cond.selects yX9_station.cls yX9_station yX9_station ∈ ab_T := ab_in 665 (by decide +kernel) rfl
theorem wl_666 : Cond.code yX9_station cX9_station 4 (some .int) ∈ ab_T := ab_in 666 (by decide +kernel) rfl
theorem wl_699 : Cond.methodLink RL 30 yX9_stock ∈ ab_T := ab_in 699 (by decide +kernel) rfl
theorem wl_700 : Cond.instanceMethod yX9_stock ∈ ab_T := ab_in 700 (by decide +kernel) rfl
theorem wl_701 : Cond.selects yX9_stock.cls yX9_stock yX9_stock ∈ ab_T := ab_in 701 (by decide +kernel) rfl
theorem wl_702 : Cond.code yX9_stock cX9_stock 3 (some .int) ∈ ab_T := ab_in 702 (by decide +kernel) rfl
theorem wl_714 : Cond.methodLink RL 33 yX9_finder ∈ ab_T := ab_in 714 (by decide +kernel) rfl
theorem wl_715 : Cond.instanceMethod yX9_finder ∈ ab_T := ab_in 715 (by decide +kernel) rfl
theorem wl_716 : Cond.selects yX9_finder.cls yX9_finder yX9_finder ∈ ab_T := ab_in 716 (by decide +kernel) rfl
theorem wl_717 : Cond.code yX9_finder cX9_finder 4 (some .int) ∈ ab_T := ab_in 717 (by decide +kernel) rfl
theorem wl_728 : Cond.methodLink RL 36 yX9_back ∈ ab_T := ab_in 728 (by decide +kernel) rfl
theorem wl_729 : Cond.instanceMethod yX9_back ∈ ab_T := ab_in 729 (by decide +kernel) rfl
theorem wl_730 : Cond.selects yX9_back.cls yX9_back yX9_back ∈ ab_T := ab_in 730 (by decide +kernel) rfl
theorem wl_731 : Cond.code yX9_back cX9_back 3 (some .int) ∈ ab_T := ab_in 731 (by decide +kernel) rfl
theorem wl_740 : Cond.methodLink RL 39 yX9_gap ∈ ab_T := ab_in 740 (by decide +kernel) rfl
theorem wl_741 : Cond.instanceMethod yX9_gap ∈ ab_T := ab_in 741 (by decide +kernel) rfl
theorem wl_742 : Cond.selects yX9_gap.cls yX9_gap yX9_gap ∈ ab_T := ab_in 742 (by decide +kernel) rfl
theorem wl_743 : Cond.code yX9_gap cX9_gap 3 (some .int) ∈ ab_T := ab_in 743 (by decide +kernel) rfl
theorem wl_753 : Cond.methodLink RL 42 yX9_windOf ∈ ab_T := ab_in 753 (by decide +kernel) rfl
theorem wl_754 : Cond.instanceMethod yX9_windOf ∈ ab_T := ab_in 754 (by decide +kernel) rfl
theorem wl_755 : Cond.selects yX9_windOf.cls yX9_windOf yX9_windOf ∈ ab_T := ab_in 755 (by decide +kernel) rfl
theorem wl_756 : Cond.code yX9_windOf cX9_windOf 2 (some .int) ∈ ab_T := ab_in 756 (by decide +kernel) rfl
theorem wl_760 : Cond.methodLink RL 45 yX9_setting ∈ ab_T := ab_in 760 (by decide +kernel) rfl
theorem wl_761 : Cond.instanceMethod yX9_setting ∈ ab_T := ab_in 761 (by decide +kernel) rfl
theorem wl_762 : Cond.selects yX9_setting.cls yX9_setting yX9_setting ∈ ab_T := ab_in 762 (by decide +kernel) rfl
theorem wl_763 : Cond.code yX9_setting cX9_setting 2 (some .int) ∈ ab_T := ab_in 763 (by decide +kernel) rfl
theorem wl_767 : Cond.methodLink RL 48 yX9_addStation ∈ ab_T := ab_in 767 (by decide +kernel) rfl
theorem wl_768 : Cond.instanceMethod yX9_addStation ∈ ab_T := ab_in 768 (by decide +kernel) rfl
theorem wl_769 : Cond.selects yX9_addStation.cls yX9_addStation yX9_addStation ∈ ab_T := ab_in 769 (by decide +kernel) rfl
theorem wl_770 : Cond.code yX9_addStation cX9_addStation 6 (some .int) ∈ ab_T := ab_in 770 (by decide +kernel) rfl
theorem wl_788 : Cond.methodLink RL 52 yX9_addFinder ∈ ab_T := ab_in 788 (by decide +kernel) rfl
theorem wl_789 : Cond.instanceMethod yX9_addFinder ∈ ab_T := ab_in 789 (by decide +kernel) rfl
theorem wl_790 : Cond.selects yX9_addFinder.cls yX9_addFinder yX9_addFinder ∈ ab_T := ab_in 790 (by decide +kernel) rfl
theorem wl_791 : Cond.code yX9_addFinder cX9_addFinder 4 (some .int) ∈ ab_T := ab_in 791 (by decide +kernel) rfl
theorem wl_796 : Cond.methodLink RL 56 yX9_wind ∈ ab_T := ab_in 796 (by decide +kernel) rfl
theorem wl_797 : Cond.instanceMethod yX9_wind ∈ ab_T := ab_in 797 (by decide +kernel) rfl
theorem wl_798 : Cond.selects yX9_wind.cls yX9_wind yX9_wind ∈ ab_T := ab_in 798 (by decide +kernel) rfl
theorem wl_799 : Cond.code yX9_wind cX9_wind 4 (some .int) ∈ ab_T := ab_in 799 (by decide +kernel) rfl
theorem wl_804 : Cond.methodLink RL 59 yX9_change ∈ ab_T := ab_in 804 (by decide +kernel) rfl
theorem wl_805 : Cond.instanceMethod yX9_change ∈ ab_T := ab_in 805 (by decide +kernel) rfl
theorem wl_806 : Cond.selects yX9_change.cls yX9_change yX9_change ∈ ab_T := ab_in 806 (by decide +kernel) rfl
theorem wl_807 : Cond.code yX9_change cX9_change 5 (some .int) ∈ ab_T := ab_in 807 (by decide +kernel) rfl
theorem wl_820 : Cond.methodLink RL 62 yX9_deliver ∈ ab_T := ab_in 820 (by decide +kernel) rfl
theorem wl_821 : Cond.instanceMethod yX9_deliver ∈ ab_T := ab_in 821 (by decide +kernel) rfl
theorem wl_822 : Cond.selects yX9_deliver.cls yX9_deliver yX9_deliver ∈ ab_T := ab_in 822 (by decide +kernel) rfl
theorem wl_823 : Cond.code yX9_deliver cX9_deliver 4 (some .int) ∈ ab_T := ab_in 823 (by decide +kernel) rfl
theorem wl_829 : Cond.methodLink RL 65 yX9_move ∈ ab_T := ab_in 829 (by decide +kernel) rfl
theorem wl_830 : Cond.instanceMethod yX9_move ∈ ab_T := ab_in 830 (by decide +kernel) rfl
theorem wl_831 : Cond.selects yX9_move.cls yX9_move yX9_move ∈ ab_T := ab_in 831 (by decide +kernel) rfl
theorem wl_832 : Cond.code yX9_move cX9_move 4 (some .int) ∈ ab_T := ab_in 832 (by decide +kernel) rfl
theorem wl_846 : Cond.methodLink RL 68 yX9_run ∈ ab_T := ab_in 846 (by decide +kernel) rfl
theorem wl_847 : Cond.instanceMethod yX9_run ∈ ab_T := ab_in 847 (by decide +kernel) rfl
theorem wl_848 : Cond.selects yX9_run.cls yX9_run yX9_run ∈ ab_T := ab_in 848 (by decide +kernel) rfl
theorem wl_849 : Cond.code yX9_run cX9_run 3 (some .int) ∈ ab_T := ab_in 849 (by decide +kernel) rfl
theorem wl_853 : Cond.methodLink RL 71 yX9_set ∈ ab_T := ab_in 853 (by decide +kernel) rfl
theorem wl_854 : Cond.instanceMethod yX9_set ∈ ab_T := ab_in 854 (by decide +kernel) rfl
theorem wl_855 : Cond.selects yX9_set.cls yX9_set yX9_set ∈ ab_T := ab_in 855 (by decide +kernel) rfl
theorem wl_856 : Cond.code yX9_set cX9_set 4 (some .int) ∈ ab_T := ab_in 856 (by decide +kernel) rfl
theorem wl_873 : Cond.methodLink RL 74 yX9_undo ∈ ab_T := ab_in 873 (by decide +kernel) rfl
theorem wl_874 : Cond.instanceMethod yX9_undo ∈ ab_T := ab_in 874 (by decide +kernel) rfl
theorem wl_875 : Cond.selects yX9_undo.cls yX9_undo yX9_undo ∈ ab_T := ab_in 875 (by decide +kernel) rfl
theorem wl_876 : Cond.code yX9_undo cX9_undo 1 (some .int) ∈ ab_T := ab_in 876 (by decide +kernel) rfl
theorem wl_885 : Cond.methodLink RL 77 yX9_landing ∈ ab_T := ab_in 885 (by decide +kernel) rfl
theorem wl_886 : Cond.instanceMethod yX9_landing ∈ ab_T := ab_in 886 (by decide +kernel) rfl
theorem wl_887 : Cond.selects yX9_landing.cls yX9_landing yX9_landing ∈ ab_T := ab_in 887 (by decide +kernel) rfl
theorem wl_888 : Cond.code yX9_landing cX9_landing 3 (some .int) ∈ ab_T := ab_in 888 (by decide +kernel) rfl
theorem wl_893 : Cond.methodLink RL 80 yX9_finds ∈ ab_T := ab_in 893 (by decide +kernel) rfl
theorem wl_894 : Cond.instanceMethod yX9_finds ∈ ab_T := ab_in 894 (by decide +kernel) rfl
theorem wl_895 : Cond.selects yX9_finds.cls yX9_finds yX9_finds ∈ ab_T := ab_in 895 (by decide +kernel) rfl
theorem wl_896 : Cond.code yX9_finds cX9_finds 2 (some .int) ∈ ab_T := ab_in 896 (by decide +kernel) rfl
theorem wl_901 : Cond.methodLink RL 83 yX9_coming ∈ ab_T := ab_in 901 (by decide +kernel) rfl
theorem wl_902 : Cond.instanceMethod yX9_coming ∈ ab_T := ab_in 902 (by decide +kernel) rfl
theorem wl_903 : Cond.selects yX9_coming.cls yX9_coming yX9_coming ∈ ab_T := ab_in 903 (by decide +kernel) rfl
theorem wl_904 : Cond.code yX9_coming cX9_coming 3 (some .int) ∈ ab_T := ab_in 904 (by decide +kernel) rfl
theorem wl_908 : Cond.methodLink RL 86 yX9_lacks ∈ ab_T := ab_in 908 (by decide +kernel) rfl
theorem wl_909 : Cond.instanceMethod yX9_lacks ∈ ab_T := ab_in 909 (by decide +kernel) rfl
theorem wl_910 : Cond.selects yX9_lacks.cls yX9_lacks yX9_lacks ∈ ab_T := ab_in 910 (by decide +kernel) rfl
theorem wl_911 : Cond.code yX9_lacks cX9_lacks 7 (some .int) ∈ ab_T := ab_in 911 (by decide +kernel) rfl
theorem wl_920 : Cond.methodLink RL 89 yX9_ifDelivered ∈ ab_T := ab_in 920 (by decide +kernel) rfl
theorem wl_921 : Cond.instanceMethod yX9_ifDelivered ∈ ab_T := ab_in 921 (by decide +kernel) rfl
theorem wl_922 : Cond.selects yX9_ifDelivered.cls yX9_ifDelivered yX9_ifDelivered ∈ ab_T := ab_in 922 (by decide +kernel) rfl
theorem wl_923 : Cond.code yX9_ifDelivered cX9_ifDelivered 6 (some .int) ∈ ab_T := ab_in 923 (by decide +kernel) rfl
theorem wl_927 : Cond.methodLink RL 93 yX9_runScript ∈ ab_T := ab_in 927 (by decide +kernel) rfl
theorem wl_928 : Cond.instanceMethod yX9_runScript ∈ ab_T := ab_in 928 (by decide +kernel) rfl
theorem wl_929 : Cond.selects yX9_runScript.cls yX9_runScript yX9_runScript ∈ ab_T := ab_in 929 (by decide +kernel) rfl
theorem wl_930 : Cond.code yX9_runScript cX9_runScript 5 (some .int) ∈ ab_T := ab_in 930 (by decide +kernel) rfl
theorem wl_949 : Cond.methodLink RL 97 yX9_simulate ∈ ab_T := ab_in 949 (by decide +kernel) rfl
theorem wl_950 : Cond.instanceMethod yX9_simulate ∈ ab_T := ab_in 950 (by decide +kernel) rfl
theorem wl_951 : Cond.selects yX9_simulate.cls yX9_simulate yX9_simulate ∈ ab_T := ab_in 951 (by decide +kernel) rfl
theorem wl_952 : Cond.code yX9_simulate cX9_simulate 7 (some .int) ∈ ab_T := ab_in 952 (by decide +kernel) rfl
theorem wl_962 : Cond.methodLink RL 101 yX9_save ∈ ab_T := ab_in 962 (by decide +kernel) rfl
theorem wl_963 : Cond.instanceMethod yX9_save ∈ ab_T := ab_in 963 (by decide +kernel) rfl
theorem wl_964 : Cond.selects yX9_save.cls yX9_save yX9_save ∈ ab_T := ab_in 964 (by decide +kernel) rfl
theorem wl_965 : Cond.code yX9_save cX9_save 3 (some .int) ∈ ab_T := ab_in 965 (by decide +kernel) rfl
theorem wl_974 : Cond.methodLink RL 104 yX9_restore ∈ ab_T := ab_in 974 (by decide +kernel) rfl
theorem wl_975 : Cond.instanceMethod yX9_restore ∈ ab_T := ab_in 975 (by decide +kernel) rfl
theorem wl_976 : Cond.selects yX9_restore.cls yX9_restore yX9_restore ∈ ab_T := ab_in 976 (by decide +kernel) rfl
theorem wl_977 : Cond.code yX9_restore cX9_restore 3 (some .int) ∈ ab_T := ab_in 977 (by decide +kernel) rfl
theorem dL_about_0 : decode cL_about 0 = .ok (.aload_n 2, 1) := by decide +kernel
theorem dL_about_1 : decode cL_about 1 = .ok (.iconst 0, 1) := by decide +kernel
theorem dL_about_2 : decode cL_about 2 = .ok (.aload_n 0, 1) := by decide +kernel
theorem dL_about_3 : decode cL_about 3 = .ok (.iload_n 1, 1) := by decide +kernel
theorem dL_about_4 : decode cL_about 4 = .ok (.invokevirtual 21, 3) := by decide +kernel
theorem dL_about_7 : decode cL_about 7 = .ok (.i2l, 1) := by decide +kernel
theorem dL_about_8 : decode cL_about 8 = .ok (.lastore, 1) := by decide +kernel
theorem dL_about_9 : decode cL_about 9 = .ok (.goto 6, 3) := by decide +kernel
theorem dL_about_12 : decode cL_about 12 = .ok (.astore_n 3, 1) := by decide +kernel
theorem dL_about_13 : decode cL_about 13 = .ok (.iconst 1, 1) := by decide +kernel
theorem dL_about_14 : decode cL_about 14 = .ok (.ireturn, 1) := by decide +kernel
theorem dL_about_15 : decode cL_about 15 = .ok (.iconst 0, 1) := by decide +kernel
theorem dL_about_16 : decode cL_about 16 = .ok (.ireturn, 1) := by decide +kernel
set_option maxRecDepth 20000 in
set_option maxHeartbeats 4000000 in
theorem lw_about {l : Launch} (hl : l.stackTraces = false) {w : ab_W} {σ : ab_H} {K : Int32 → ab_H → Prop} (hI : ab_Inj w) (z1 : Int32) (h : lwA w σ (c_about z1) K) : lw_Met l yL_about (Cond.codeWith yL_about cL_about 4 (some .int) [(0, 9, 12, 13)]) 7 w σ [.ref 0, .int z1, .ref 18] K := by
  obtain ⟨Kn, Kx, hs, hKn, hKx⟩ := lw_sb [x_ar] h
  have hM := cb_X9_about hl hI z1 hs
  refine lw_enter (by decide) hl hI (Nat.le_of_ble_eq_true rfl) (by decide) ?_
  intro p e R s m args' below meth c C hX htab hr
  refine sd_aload_n C (i := 2) dL_about_0 rfl (sd_iconst C (x := 0) dL_about_1 (by decide) (sd_aload_n C (i := 0) dL_about_2 rfl (sd_iload_n C (i := 1) dL_about_3 rfl (fun _ _ _ h => h)))) _ _ _ (lw_call (n := 1) C hX htab hr (ci := 9) (row := (RX9, TX9, 7)) rfl rfl ⟨by decide, by decide, wl_649, wl_1, by decide +kernel⟩ wl_646 wl_647 wl_648 dL_about_4 dL_about_7 dL_about_8 dL_about_9 (by decide) ⟨0, dL_about_15, by decide, dL_about_16⟩ (As := [.int z1]) (a := 0) (o := 18) rfl h.1.1 h.2.1 h.2.2.1 hM hKn (fun E σ' hk => ?_))
  obtain ⟨k, hk1, hk2⟩ := hKx E σ' hk
  rcases (by have := (List.getElem?_eq_some_iff.mp hk1).1; simp only [List.length_cons, List.length_nil] at this; omega : k = 0) with rfl
  · cases hk1
    exact ⟨_, ⟨[], ⟨0, 9, 12, 13⟩, [], rfl, (fun y hy => absurd hy List.not_mem_nil), by decide, by decide, wl_481, wm_490, Or.inl ⟨3, dL_about_12, by decide, ⟨1, dL_about_13, by decide, dL_about_14⟩⟩⟩, hk2⟩
theorem dL_station_0 : decode cL_station 0 = .ok (.aload_n 3, 1) := by decide +kernel
theorem dL_station_1 : decode cL_station 1 = .ok (.iconst 0, 1) := by decide +kernel
theorem dL_station_2 : decode cL_station 2 = .ok (.aload_n 0, 1) := by decide +kernel
theorem dL_station_3 : decode cL_station 3 = .ok (.iload_n 1, 1) := by decide +kernel
theorem dL_station_4 : decode cL_station 4 = .ok (.iload_n 2, 1) := by decide +kernel
theorem dL_station_5 : decode cL_station 5 = .ok (.invokevirtual 24, 3) := by decide +kernel
theorem dL_station_8 : decode cL_station 8 = .ok (.i2l, 1) := by decide +kernel
theorem dL_station_9 : decode cL_station 9 = .ok (.lastore, 1) := by decide +kernel
theorem dL_station_10 : decode cL_station 10 = .ok (.goto 11, 3) := by decide +kernel
theorem dL_station_13 : decode cL_station 13 = .ok (.astore 4, 2) := by decide +kernel
theorem dL_station_15 : decode cL_station 15 = .ok (.iconst 1, 1) := by decide +kernel
theorem dL_station_16 : decode cL_station 16 = .ok (.ireturn, 1) := by decide +kernel
theorem dL_station_17 : decode cL_station 17 = .ok (.astore 4, 2) := by decide +kernel
theorem dL_station_19 : decode cL_station 19 = .ok (.iconst 2, 1) := by decide +kernel
theorem dL_station_20 : decode cL_station 20 = .ok (.ireturn, 1) := by decide +kernel
theorem dL_station_21 : decode cL_station 21 = .ok (.iconst 0, 1) := by decide +kernel
theorem dL_station_22 : decode cL_station 22 = .ok (.ireturn, 1) := by decide +kernel
set_option maxRecDepth 20000 in
set_option maxHeartbeats 4000000 in
theorem lw_station {l : Launch} (hl : l.stackTraces = false) {w : ab_W} {σ : ab_H} {K : Int32 → ab_H → Prop} (hI : ab_Inj w) (z1 : Int32) (z2 : Int32) (h : lwA w σ (c_station z1 z2) K) : lw_Met l yL_station (Cond.codeWith yL_station cL_station 5 (some .int) [(0, 10, 13, 28), (0, 10, 17, 13)]) 8 w σ [.ref 0, .int z1, .int z2, .ref 18] K := by
  obtain ⟨Kn, Kx, hs, hKn, hKx⟩ := lw_sb [x_ix, x_ar] h
  have hM := cb_X9_station hl hI z1 z2 hs
  refine lw_enter (by decide) hl hI (Nat.le_of_ble_eq_true rfl) (by decide) ?_
  intro p e R s m args' below meth c C hX htab hr
  refine sd_aload_n C (i := 3) dL_station_0 rfl (sd_iconst C (x := 0) dL_station_1 (by decide) (sd_aload_n C (i := 0) dL_station_2 rfl (sd_iload_n C (i := 1) dL_station_3 rfl (sd_iload_n C (i := 2) dL_station_4 rfl (fun _ _ _ h => h))))) _ _ _ (lw_call (n := 2) C hX htab hr (ci := 9) (row := (RX9, TX9, 7)) rfl rfl ⟨by decide, by decide, wl_666, wl_1, by decide +kernel⟩ wl_663 wl_664 wl_665 dL_station_5 dL_station_8 dL_station_9 dL_station_10 (by decide) ⟨0, dL_station_21, by decide, dL_station_22⟩ (As := [.int z1, .int z2]) (a := 0) (o := 18) rfl h.1.1 h.2.1 h.2.2.1 hM hKn (fun E σ' hk => ?_))
  obtain ⟨k, hk1, hk2⟩ := hKx E σ' hk
  rcases (by have := (List.getElem?_eq_some_iff.mp hk1).1; simp only [List.length_cons, List.length_nil] at this; omega : k = 0 ∨ k = 1) with rfl | rfl
  · cases hk1
    exact ⟨_, ⟨[], ⟨0, 10, 13, 28⟩, [⟨0, 10, 17, 13⟩], rfl, (fun y hy => absurd hy List.not_mem_nil), by decide, by decide, wl_662, wm_674, Or.inr ⟨4, dL_station_13, by decide, ⟨1, dL_station_15, by decide, dL_station_16⟩⟩⟩, hk2⟩
  · cases hk1
    exact ⟨_, ⟨[⟨0, 10, 13, 28⟩], ⟨0, 10, 17, 13⟩, [], rfl, (fun y hy => by obtain rfl := List.mem_singleton.mp hy; exact ⟨by decide, _, wl_662, fun U h => h.2.1⟩), by decide, by decide, wl_481, wm_490, Or.inr ⟨4, dL_station_17, by decide, ⟨2, dL_station_19, by decide, dL_station_20⟩⟩⟩, hk2⟩
theorem dL_stock_0 : decode cL_stock 0 = .ok (.aload_n 3, 1) := by decide +kernel
theorem dL_stock_1 : decode cL_stock 1 = .ok (.iconst 0, 1) := by decide +kernel
theorem dL_stock_2 : decode cL_stock 2 = .ok (.aload_n 0, 1) := by decide +kernel
theorem dL_stock_3 : decode cL_stock 3 = .ok (.iload_n 1, 1) := by decide +kernel
theorem dL_stock_4 : decode cL_stock 4 = .ok (.iload_n 2, 1) := by decide +kernel
theorem dL_stock_5 : decode cL_stock 5 = .ok (.invokevirtual 30, 3) := by decide +kernel
theorem dL_stock_8 : decode cL_stock 8 = .ok (.i2l, 1) := by decide +kernel
theorem dL_stock_9 : decode cL_stock 9 = .ok (.lastore, 1) := by decide +kernel
theorem dL_stock_10 : decode cL_stock 10 = .ok (.goto 11, 3) := by decide +kernel
theorem dL_stock_13 : decode cL_stock 13 = .ok (.astore 4, 2) := by decide +kernel
theorem dL_stock_15 : decode cL_stock 15 = .ok (.iconst 1, 1) := by decide +kernel
theorem dL_stock_16 : decode cL_stock 16 = .ok (.ireturn, 1) := by decide +kernel
theorem dL_stock_17 : decode cL_stock 17 = .ok (.astore 4, 2) := by decide +kernel
theorem dL_stock_19 : decode cL_stock 19 = .ok (.iconst 2, 1) := by decide +kernel
theorem dL_stock_20 : decode cL_stock 20 = .ok (.ireturn, 1) := by decide +kernel
theorem dL_stock_21 : decode cL_stock 21 = .ok (.iconst 0, 1) := by decide +kernel
theorem dL_stock_22 : decode cL_stock 22 = .ok (.ireturn, 1) := by decide +kernel
set_option maxRecDepth 20000 in
set_option maxHeartbeats 4000000 in
theorem lw_stock {l : Launch} (hl : l.stackTraces = false) {w : ab_W} {σ : ab_H} {K : Int32 → ab_H → Prop} (hI : ab_Inj w) (z1 : Int32) (z2 : Int32) (h : lwA w σ (c_stock z1 z2) K) : lw_Met l yL_stock (Cond.codeWith yL_stock cL_stock 5 (some .int) [(0, 10, 13, 28), (0, 10, 17, 13)]) 8 w σ [.ref 0, .int z1, .int z2, .ref 18] K := by
  obtain ⟨Kn, Kx, hs, hKn, hKx⟩ := lw_sb [x_ix, x_ar] h
  have hM := cb_X9_stock hl hI z1 z2 hs
  refine lw_enter (by decide) hl hI (Nat.le_of_ble_eq_true rfl) (by decide) ?_
  intro p e R s m args' below meth c C hX htab hr
  refine sd_aload_n C (i := 3) dL_stock_0 rfl (sd_iconst C (x := 0) dL_stock_1 (by decide) (sd_aload_n C (i := 0) dL_stock_2 rfl (sd_iload_n C (i := 1) dL_stock_3 rfl (sd_iload_n C (i := 2) dL_stock_4 rfl (fun _ _ _ h => h))))) _ _ _ (lw_call (n := 2) C hX htab hr (ci := 9) (row := (RX9, TX9, 7)) rfl rfl ⟨by decide, by decide, wl_702, wl_1, by decide +kernel⟩ wl_699 wl_700 wl_701 dL_stock_5 dL_stock_8 dL_stock_9 dL_stock_10 (by decide) ⟨0, dL_stock_21, by decide, dL_stock_22⟩ (As := [.int z1, .int z2]) (a := 0) (o := 18) rfl h.1.1 h.2.1 h.2.2.1 hM hKn (fun E σ' hk => ?_))
  obtain ⟨k, hk1, hk2⟩ := hKx E σ' hk
  rcases (by have := (List.getElem?_eq_some_iff.mp hk1).1; simp only [List.length_cons, List.length_nil] at this; omega : k = 0 ∨ k = 1) with rfl | rfl
  · cases hk1
    exact ⟨_, ⟨[], ⟨0, 10, 13, 28⟩, [⟨0, 10, 17, 13⟩], rfl, (fun y hy => absurd hy List.not_mem_nil), by decide, by decide, wl_662, wm_674, Or.inr ⟨4, dL_stock_13, by decide, ⟨1, dL_stock_15, by decide, dL_stock_16⟩⟩⟩, hk2⟩
  · cases hk1
    exact ⟨_, ⟨[⟨0, 10, 13, 28⟩], ⟨0, 10, 17, 13⟩, [], rfl, (fun y hy => by obtain rfl := List.mem_singleton.mp hy; exact ⟨by decide, _, wl_662, fun U h => h.2.1⟩), by decide, by decide, wl_481, wm_490, Or.inr ⟨4, dL_stock_17, by decide, ⟨2, dL_stock_19, by decide, dL_stock_20⟩⟩⟩, hk2⟩
theorem dL_landing_0 : decode cL_landing 0 = .ok (.aload_n 3, 1) := by decide +kernel
theorem dL_landing_1 : decode cL_landing 1 = .ok (.iconst 0, 1) := by decide +kernel
theorem dL_landing_2 : decode cL_landing 2 = .ok (.aload_n 0, 1) := by decide +kernel
theorem dL_landing_3 : decode cL_landing 3 = .ok (.iload_n 1, 1) := by decide +kernel
theorem dL_landing_4 : decode cL_landing 4 = .ok (.iload_n 2, 1) := by decide +kernel
theorem dL_landing_5 : decode cL_landing 5 = .ok (.invokevirtual 77, 3) := by decide +kernel
theorem dL_landing_8 : decode cL_landing 8 = .ok (.i2l, 1) := by decide +kernel
theorem dL_landing_9 : decode cL_landing 9 = .ok (.lastore, 1) := by decide +kernel
theorem dL_landing_10 : decode cL_landing 10 = .ok (.goto 11, 3) := by decide +kernel
theorem dL_landing_13 : decode cL_landing 13 = .ok (.astore 4, 2) := by decide +kernel
theorem dL_landing_15 : decode cL_landing 15 = .ok (.iconst 1, 1) := by decide +kernel
theorem dL_landing_16 : decode cL_landing 16 = .ok (.ireturn, 1) := by decide +kernel
theorem dL_landing_17 : decode cL_landing 17 = .ok (.astore 4, 2) := by decide +kernel
theorem dL_landing_19 : decode cL_landing 19 = .ok (.iconst 2, 1) := by decide +kernel
theorem dL_landing_20 : decode cL_landing 20 = .ok (.ireturn, 1) := by decide +kernel
theorem dL_landing_21 : decode cL_landing 21 = .ok (.iconst 0, 1) := by decide +kernel
theorem dL_landing_22 : decode cL_landing 22 = .ok (.ireturn, 1) := by decide +kernel
set_option maxRecDepth 20000 in
set_option maxHeartbeats 4000000 in
theorem lw_landing {l : Launch} (hl : l.stackTraces = false) {w : ab_W} {σ : ab_H} {K : Int32 → ab_H → Prop} (hI : ab_Inj w) (z1 : Int32) (z2 : Int32) (h : lwA w σ (c_landing z1 z2) K) : lw_Met l yL_landing (Cond.codeWith yL_landing cL_landing 5 (some .int) [(0, 10, 13, 28), (0, 10, 17, 13)]) 8 w σ [.ref 0, .int z1, .int z2, .ref 18] K := by
  obtain ⟨Kn, Kx, hs, hKn, hKx⟩ := lw_sb [x_ix, x_ar] h
  have hM := cb_X9_landing hl hI z1 z2 hs
  refine lw_enter (by decide) hl hI (Nat.le_of_ble_eq_true rfl) (by decide) ?_
  intro p e R s m args' below meth c C hX htab hr
  refine sd_aload_n C (i := 3) dL_landing_0 rfl (sd_iconst C (x := 0) dL_landing_1 (by decide) (sd_aload_n C (i := 0) dL_landing_2 rfl (sd_iload_n C (i := 1) dL_landing_3 rfl (sd_iload_n C (i := 2) dL_landing_4 rfl (fun _ _ _ h => h))))) _ _ _ (lw_call (n := 2) C hX htab hr (ci := 9) (row := (RX9, TX9, 7)) rfl rfl ⟨by decide, by decide, wl_888, wl_1, by decide +kernel⟩ wl_885 wl_886 wl_887 dL_landing_5 dL_landing_8 dL_landing_9 dL_landing_10 (by decide) ⟨0, dL_landing_21, by decide, dL_landing_22⟩ (As := [.int z1, .int z2]) (a := 0) (o := 18) rfl h.1.1 h.2.1 h.2.2.1 hM hKn (fun E σ' hk => ?_))
  obtain ⟨k, hk1, hk2⟩ := hKx E σ' hk
  rcases (by have := (List.getElem?_eq_some_iff.mp hk1).1; simp only [List.length_cons, List.length_nil] at this; omega : k = 0 ∨ k = 1) with rfl | rfl
  · cases hk1
    exact ⟨_, ⟨[], ⟨0, 10, 13, 28⟩, [⟨0, 10, 17, 13⟩], rfl, (fun y hy => absurd hy List.not_mem_nil), by decide, by decide, wl_662, wm_674, Or.inr ⟨4, dL_landing_13, by decide, ⟨1, dL_landing_15, by decide, dL_landing_16⟩⟩⟩, hk2⟩
  · cases hk1
    exact ⟨_, ⟨[⟨0, 10, 13, 28⟩], ⟨0, 10, 17, 13⟩, [], rfl, (fun y hy => by obtain rfl := List.mem_singleton.mp hy; exact ⟨by decide, _, wl_662, fun U h => h.2.1⟩), by decide, by decide, wl_481, wm_490, Or.inr ⟨4, dL_landing_17, by decide, ⟨2, dL_landing_19, by decide, dL_landing_20⟩⟩⟩, hk2⟩
theorem dL_finder_0 : decode cL_finder 0 = .ok (.aload_n 3, 1) := by decide +kernel
theorem dL_finder_1 : decode cL_finder 1 = .ok (.iconst 0, 1) := by decide +kernel
theorem dL_finder_2 : decode cL_finder 2 = .ok (.aload_n 0, 1) := by decide +kernel
theorem dL_finder_3 : decode cL_finder 3 = .ok (.iload_n 1, 1) := by decide +kernel
theorem dL_finder_4 : decode cL_finder 4 = .ok (.iload_n 2, 1) := by decide +kernel
theorem dL_finder_5 : decode cL_finder 5 = .ok (.invokevirtual 33, 3) := by decide +kernel
theorem dL_finder_8 : decode cL_finder 8 = .ok (.i2l, 1) := by decide +kernel
theorem dL_finder_9 : decode cL_finder 9 = .ok (.lastore, 1) := by decide +kernel
theorem dL_finder_10 : decode cL_finder 10 = .ok (.goto 11, 3) := by decide +kernel
theorem dL_finder_13 : decode cL_finder 13 = .ok (.astore 4, 2) := by decide +kernel
theorem dL_finder_15 : decode cL_finder 15 = .ok (.iconst 1, 1) := by decide +kernel
theorem dL_finder_16 : decode cL_finder 16 = .ok (.ireturn, 1) := by decide +kernel
theorem dL_finder_17 : decode cL_finder 17 = .ok (.astore 4, 2) := by decide +kernel
theorem dL_finder_19 : decode cL_finder 19 = .ok (.iconst 2, 1) := by decide +kernel
theorem dL_finder_20 : decode cL_finder 20 = .ok (.ireturn, 1) := by decide +kernel
theorem dL_finder_21 : decode cL_finder 21 = .ok (.iconst 0, 1) := by decide +kernel
theorem dL_finder_22 : decode cL_finder 22 = .ok (.ireturn, 1) := by decide +kernel
set_option maxRecDepth 20000 in
set_option maxHeartbeats 4000000 in
theorem lw_finder {l : Launch} (hl : l.stackTraces = false) {w : ab_W} {σ : ab_H} {K : Int32 → ab_H → Prop} (hI : ab_Inj w) (z1 : Int32) (z2 : Int32) (h : lwA w σ (c_finder z1 z2) K) : lw_Met l yL_finder (Cond.codeWith yL_finder cL_finder 5 (some .int) [(0, 10, 13, 28), (0, 10, 17, 13)]) 7 w σ [.ref 0, .int z1, .int z2, .ref 18] K := by
  obtain ⟨Kn, Kx, hs, hKn, hKx⟩ := lw_sb [x_ix, x_ar] h
  have hM := cb_X9_finder hl hI z1 z2 hs
  refine lw_enter (by decide) hl hI (Nat.le_of_ble_eq_true rfl) (by decide) ?_
  intro p e R s m args' below meth c C hX htab hr
  refine sd_aload_n C (i := 3) dL_finder_0 rfl (sd_iconst C (x := 0) dL_finder_1 (by decide) (sd_aload_n C (i := 0) dL_finder_2 rfl (sd_iload_n C (i := 1) dL_finder_3 rfl (sd_iload_n C (i := 2) dL_finder_4 rfl (fun _ _ _ h => h))))) _ _ _ (lw_call (n := 2) C hX htab hr (ci := 9) (row := (RX9, TX9, 7)) rfl rfl ⟨by decide, by decide, wl_717, wl_1, by decide +kernel⟩ wl_714 wl_715 wl_716 dL_finder_5 dL_finder_8 dL_finder_9 dL_finder_10 (by decide) ⟨0, dL_finder_21, by decide, dL_finder_22⟩ (As := [.int z1, .int z2]) (a := 0) (o := 18) rfl h.1.1 h.2.1 h.2.2.1 hM hKn (fun E σ' hk => ?_))
  obtain ⟨k, hk1, hk2⟩ := hKx E σ' hk
  rcases (by have := (List.getElem?_eq_some_iff.mp hk1).1; simp only [List.length_cons, List.length_nil] at this; omega : k = 0 ∨ k = 1) with rfl | rfl
  · cases hk1
    exact ⟨_, ⟨[], ⟨0, 10, 13, 28⟩, [⟨0, 10, 17, 13⟩], rfl, (fun y hy => absurd hy List.not_mem_nil), by decide, by decide, wl_662, wm_674, Or.inr ⟨4, dL_finder_13, by decide, ⟨1, dL_finder_15, by decide, dL_finder_16⟩⟩⟩, hk2⟩
  · cases hk1
    exact ⟨_, ⟨[⟨0, 10, 13, 28⟩], ⟨0, 10, 17, 13⟩, [], rfl, (fun y hy => by obtain rfl := List.mem_singleton.mp hy; exact ⟨by decide, _, wl_662, fun U h => h.2.1⟩), by decide, by decide, wl_481, wm_490, Or.inr ⟨4, dL_finder_17, by decide, ⟨2, dL_finder_19, by decide, dL_finder_20⟩⟩⟩, hk2⟩
theorem dL_back_0 : decode cL_back 0 = .ok (.aload_n 3, 1) := by decide +kernel
theorem dL_back_1 : decode cL_back 1 = .ok (.iconst 0, 1) := by decide +kernel
theorem dL_back_2 : decode cL_back 2 = .ok (.aload_n 0, 1) := by decide +kernel
theorem dL_back_3 : decode cL_back 3 = .ok (.iload_n 1, 1) := by decide +kernel
theorem dL_back_4 : decode cL_back 4 = .ok (.iload_n 2, 1) := by decide +kernel
theorem dL_back_5 : decode cL_back 5 = .ok (.invokevirtual 36, 3) := by decide +kernel
theorem dL_back_8 : decode cL_back 8 = .ok (.i2l, 1) := by decide +kernel
theorem dL_back_9 : decode cL_back 9 = .ok (.lastore, 1) := by decide +kernel
theorem dL_back_10 : decode cL_back 10 = .ok (.goto 7, 3) := by decide +kernel
theorem dL_back_13 : decode cL_back 13 = .ok (.astore 4, 2) := by decide +kernel
theorem dL_back_15 : decode cL_back 15 = .ok (.iconst 1, 1) := by decide +kernel
theorem dL_back_16 : decode cL_back 16 = .ok (.ireturn, 1) := by decide +kernel
theorem dL_back_17 : decode cL_back 17 = .ok (.iconst 0, 1) := by decide +kernel
theorem dL_back_18 : decode cL_back 18 = .ok (.ireturn, 1) := by decide +kernel
set_option maxRecDepth 20000 in
set_option maxHeartbeats 4000000 in
theorem lw_back {l : Launch} (hl : l.stackTraces = false) {w : ab_W} {σ : ab_H} {K : Int32 → ab_H → Prop} (hI : ab_Inj w) (z1 : Int32) (z2 : Int32) (h : lwA w σ (c_back z1 z2) K) : lw_Met l yL_back (Cond.codeWith yL_back cL_back 5 (some .int) [(0, 10, 13, 13)]) 8 w σ [.ref 0, .int z1, .int z2, .ref 18] K := by
  obtain ⟨Kn, Kx, hs, hKn, hKx⟩ := lw_sb [x_ar] h
  have hM := cb_X9_back hl hI z1 z2 hs
  refine lw_enter (by decide) hl hI (Nat.le_of_ble_eq_true rfl) (by decide) ?_
  intro p e R s m args' below meth c C hX htab hr
  refine sd_aload_n C (i := 3) dL_back_0 rfl (sd_iconst C (x := 0) dL_back_1 (by decide) (sd_aload_n C (i := 0) dL_back_2 rfl (sd_iload_n C (i := 1) dL_back_3 rfl (sd_iload_n C (i := 2) dL_back_4 rfl (fun _ _ _ h => h))))) _ _ _ (lw_call (n := 2) C hX htab hr (ci := 9) (row := (RX9, TX9, 7)) rfl rfl ⟨by decide, by decide, wl_731, wl_1, by decide +kernel⟩ wl_728 wl_729 wl_730 dL_back_5 dL_back_8 dL_back_9 dL_back_10 (by decide) ⟨0, dL_back_17, by decide, dL_back_18⟩ (As := [.int z1, .int z2]) (a := 0) (o := 18) rfl h.1.1 h.2.1 h.2.2.1 hM hKn (fun E σ' hk => ?_))
  obtain ⟨k, hk1, hk2⟩ := hKx E σ' hk
  rcases (by have := (List.getElem?_eq_some_iff.mp hk1).1; simp only [List.length_cons, List.length_nil] at this; omega : k = 0) with rfl
  · cases hk1
    exact ⟨_, ⟨[], ⟨0, 10, 13, 13⟩, [], rfl, (fun y hy => absurd hy List.not_mem_nil), by decide, by decide, wl_481, wm_490, Or.inr ⟨4, dL_back_13, by decide, ⟨1, dL_back_15, by decide, dL_back_16⟩⟩⟩, hk2⟩
theorem dL_gap_0 : decode cL_gap 0 = .ok (.aload_n 3, 1) := by decide +kernel
theorem dL_gap_1 : decode cL_gap 1 = .ok (.iconst 0, 1) := by decide +kernel
theorem dL_gap_2 : decode cL_gap 2 = .ok (.aload_n 0, 1) := by decide +kernel
theorem dL_gap_3 : decode cL_gap 3 = .ok (.iload_n 1, 1) := by decide +kernel
theorem dL_gap_4 : decode cL_gap 4 = .ok (.iload_n 2, 1) := by decide +kernel
theorem dL_gap_5 : decode cL_gap 5 = .ok (.invokevirtual 39, 3) := by decide +kernel
theorem dL_gap_8 : decode cL_gap 8 = .ok (.i2l, 1) := by decide +kernel
theorem dL_gap_9 : decode cL_gap 9 = .ok (.lastore, 1) := by decide +kernel
theorem dL_gap_10 : decode cL_gap 10 = .ok (.goto 7, 3) := by decide +kernel
theorem dL_gap_13 : decode cL_gap 13 = .ok (.astore 4, 2) := by decide +kernel
theorem dL_gap_15 : decode cL_gap 15 = .ok (.iconst 1, 1) := by decide +kernel
theorem dL_gap_16 : decode cL_gap 16 = .ok (.ireturn, 1) := by decide +kernel
theorem dL_gap_17 : decode cL_gap 17 = .ok (.iconst 0, 1) := by decide +kernel
theorem dL_gap_18 : decode cL_gap 18 = .ok (.ireturn, 1) := by decide +kernel
set_option maxRecDepth 20000 in
set_option maxHeartbeats 4000000 in
theorem lw_gap {l : Launch} (hl : l.stackTraces = false) {w : ab_W} {σ : ab_H} {K : Int32 → ab_H → Prop} (hI : ab_Inj w) (z1 : Int32) (z2 : Int32) (h : lwA w σ (c_gap z1 z2) K) : lw_Met l yL_gap (Cond.codeWith yL_gap cL_gap 5 (some .int) [(0, 10, 13, 13)]) 8 w σ [.ref 0, .int z1, .int z2, .ref 18] K := by
  obtain ⟨Kn, Kx, hs, hKn, hKx⟩ := lw_sb [x_ar] h
  have hM := cb_X9_gap hl hI z1 z2 hs
  refine lw_enter (by decide) hl hI (Nat.le_of_ble_eq_true rfl) (by decide) ?_
  intro p e R s m args' below meth c C hX htab hr
  refine sd_aload_n C (i := 3) dL_gap_0 rfl (sd_iconst C (x := 0) dL_gap_1 (by decide) (sd_aload_n C (i := 0) dL_gap_2 rfl (sd_iload_n C (i := 1) dL_gap_3 rfl (sd_iload_n C (i := 2) dL_gap_4 rfl (fun _ _ _ h => h))))) _ _ _ (lw_call (n := 2) C hX htab hr (ci := 9) (row := (RX9, TX9, 7)) rfl rfl ⟨by decide, by decide, wl_743, wl_1, by decide +kernel⟩ wl_740 wl_741 wl_742 dL_gap_5 dL_gap_8 dL_gap_9 dL_gap_10 (by decide) ⟨0, dL_gap_17, by decide, dL_gap_18⟩ (As := [.int z1, .int z2]) (a := 0) (o := 18) rfl h.1.1 h.2.1 h.2.2.1 hM hKn (fun E σ' hk => ?_))
  obtain ⟨k, hk1, hk2⟩ := hKx E σ' hk
  rcases (by have := (List.getElem?_eq_some_iff.mp hk1).1; simp only [List.length_cons, List.length_nil] at this; omega : k = 0) with rfl
  · cases hk1
    exact ⟨_, ⟨[], ⟨0, 10, 13, 13⟩, [], rfl, (fun y hy => absurd hy List.not_mem_nil), by decide, by decide, wl_481, wm_490, Or.inr ⟨4, dL_gap_13, by decide, ⟨1, dL_gap_15, by decide, dL_gap_16⟩⟩⟩, hk2⟩
theorem dL_windOf_0 : decode cL_windOf 0 = .ok (.aload_n 2, 1) := by decide +kernel
theorem dL_windOf_1 : decode cL_windOf 1 = .ok (.iconst 0, 1) := by decide +kernel
theorem dL_windOf_2 : decode cL_windOf 2 = .ok (.aload_n 0, 1) := by decide +kernel
theorem dL_windOf_3 : decode cL_windOf 3 = .ok (.iload_n 1, 1) := by decide +kernel
theorem dL_windOf_4 : decode cL_windOf 4 = .ok (.invokevirtual 42, 3) := by decide +kernel
theorem dL_windOf_7 : decode cL_windOf 7 = .ok (.i2l, 1) := by decide +kernel
theorem dL_windOf_8 : decode cL_windOf 8 = .ok (.lastore, 1) := by decide +kernel
theorem dL_windOf_9 : decode cL_windOf 9 = .ok (.goto 6, 3) := by decide +kernel
theorem dL_windOf_12 : decode cL_windOf 12 = .ok (.astore_n 3, 1) := by decide +kernel
theorem dL_windOf_13 : decode cL_windOf 13 = .ok (.iconst 1, 1) := by decide +kernel
theorem dL_windOf_14 : decode cL_windOf 14 = .ok (.ireturn, 1) := by decide +kernel
theorem dL_windOf_15 : decode cL_windOf 15 = .ok (.iconst 0, 1) := by decide +kernel
theorem dL_windOf_16 : decode cL_windOf 16 = .ok (.ireturn, 1) := by decide +kernel
set_option maxRecDepth 20000 in
set_option maxHeartbeats 4000000 in
theorem lw_windOf {l : Launch} (hl : l.stackTraces = false) {w : ab_W} {σ : ab_H} {K : Int32 → ab_H → Prop} (hI : ab_Inj w) (z1 : Int32) (h : lwA w σ (c_windOf z1) K) : lw_Met l yL_windOf (Cond.codeWith yL_windOf cL_windOf 4 (some .int) [(0, 9, 12, 13)]) 8 w σ [.ref 0, .int z1, .ref 18] K := by
  obtain ⟨Kn, Kx, hs, hKn, hKx⟩ := lw_sb [x_ar] h
  have hM := cb_X9_windOf hl hI z1 hs
  refine lw_enter (by decide) hl hI (Nat.le_of_ble_eq_true rfl) (by decide) ?_
  intro p e R s m args' below meth c C hX htab hr
  refine sd_aload_n C (i := 2) dL_windOf_0 rfl (sd_iconst C (x := 0) dL_windOf_1 (by decide) (sd_aload_n C (i := 0) dL_windOf_2 rfl (sd_iload_n C (i := 1) dL_windOf_3 rfl (fun _ _ _ h => h)))) _ _ _ (lw_call (n := 1) C hX htab hr (ci := 9) (row := (RX9, TX9, 7)) rfl rfl ⟨by decide, by decide, wl_756, wl_1, by decide +kernel⟩ wl_753 wl_754 wl_755 dL_windOf_4 dL_windOf_7 dL_windOf_8 dL_windOf_9 (by decide) ⟨0, dL_windOf_15, by decide, dL_windOf_16⟩ (As := [.int z1]) (a := 0) (o := 18) rfl h.1.1 h.2.1 h.2.2.1 hM hKn (fun E σ' hk => ?_))
  obtain ⟨k, hk1, hk2⟩ := hKx E σ' hk
  rcases (by have := (List.getElem?_eq_some_iff.mp hk1).1; simp only [List.length_cons, List.length_nil] at this; omega : k = 0) with rfl
  · cases hk1
    exact ⟨_, ⟨[], ⟨0, 9, 12, 13⟩, [], rfl, (fun y hy => absurd hy List.not_mem_nil), by decide, by decide, wl_481, wm_490, Or.inl ⟨3, dL_windOf_12, by decide, ⟨1, dL_windOf_13, by decide, dL_windOf_14⟩⟩⟩, hk2⟩
theorem dL_setting_0 : decode cL_setting 0 = .ok (.aload_n 2, 1) := by decide +kernel
theorem dL_setting_1 : decode cL_setting 1 = .ok (.iconst 0, 1) := by decide +kernel
theorem dL_setting_2 : decode cL_setting 2 = .ok (.aload_n 0, 1) := by decide +kernel
theorem dL_setting_3 : decode cL_setting 3 = .ok (.iload_n 1, 1) := by decide +kernel
theorem dL_setting_4 : decode cL_setting 4 = .ok (.invokevirtual 45, 3) := by decide +kernel
theorem dL_setting_7 : decode cL_setting 7 = .ok (.i2l, 1) := by decide +kernel
theorem dL_setting_8 : decode cL_setting 8 = .ok (.lastore, 1) := by decide +kernel
theorem dL_setting_9 : decode cL_setting 9 = .ok (.goto 6, 3) := by decide +kernel
theorem dL_setting_12 : decode cL_setting 12 = .ok (.astore_n 3, 1) := by decide +kernel
theorem dL_setting_13 : decode cL_setting 13 = .ok (.iconst 1, 1) := by decide +kernel
theorem dL_setting_14 : decode cL_setting 14 = .ok (.ireturn, 1) := by decide +kernel
theorem dL_setting_15 : decode cL_setting 15 = .ok (.iconst 0, 1) := by decide +kernel
theorem dL_setting_16 : decode cL_setting 16 = .ok (.ireturn, 1) := by decide +kernel
set_option maxRecDepth 20000 in
set_option maxHeartbeats 4000000 in
theorem lw_setting {l : Launch} (hl : l.stackTraces = false) {w : ab_W} {σ : ab_H} {K : Int32 → ab_H → Prop} (hI : ab_Inj w) (z1 : Int32) (h : lwA w σ (c_setting z1) K) : lw_Met l yL_setting (Cond.codeWith yL_setting cL_setting 4 (some .int) [(0, 9, 12, 13)]) 8 w σ [.ref 0, .int z1, .ref 18] K := by
  obtain ⟨Kn, Kx, hs, hKn, hKx⟩ := lw_sb [x_ar] h
  have hM := cb_X9_setting hl hI z1 hs
  refine lw_enter (by decide) hl hI (Nat.le_of_ble_eq_true rfl) (by decide) ?_
  intro p e R s m args' below meth c C hX htab hr
  refine sd_aload_n C (i := 2) dL_setting_0 rfl (sd_iconst C (x := 0) dL_setting_1 (by decide) (sd_aload_n C (i := 0) dL_setting_2 rfl (sd_iload_n C (i := 1) dL_setting_3 rfl (fun _ _ _ h => h)))) _ _ _ (lw_call (n := 1) C hX htab hr (ci := 9) (row := (RX9, TX9, 7)) rfl rfl ⟨by decide, by decide, wl_763, wl_1, by decide +kernel⟩ wl_760 wl_761 wl_762 dL_setting_4 dL_setting_7 dL_setting_8 dL_setting_9 (by decide) ⟨0, dL_setting_15, by decide, dL_setting_16⟩ (As := [.int z1]) (a := 0) (o := 18) rfl h.1.1 h.2.1 h.2.2.1 hM hKn (fun E σ' hk => ?_))
  obtain ⟨k, hk1, hk2⟩ := hKx E σ' hk
  rcases (by have := (List.getElem?_eq_some_iff.mp hk1).1; simp only [List.length_cons, List.length_nil] at this; omega : k = 0) with rfl
  · cases hk1
    exact ⟨_, ⟨[], ⟨0, 9, 12, 13⟩, [], rfl, (fun y hy => absurd hy List.not_mem_nil), by decide, by decide, wl_481, wm_490, Or.inl ⟨3, dL_setting_12, by decide, ⟨1, dL_setting_13, by decide, dL_setting_14⟩⟩⟩, hk2⟩
theorem dL_finds_0 : decode cL_finds 0 = .ok (.aload_n 2, 1) := by decide +kernel
theorem dL_finds_1 : decode cL_finds 1 = .ok (.iconst 0, 1) := by decide +kernel
theorem dL_finds_2 : decode cL_finds 2 = .ok (.aload_n 0, 1) := by decide +kernel
theorem dL_finds_3 : decode cL_finds 3 = .ok (.iload_n 1, 1) := by decide +kernel
theorem dL_finds_4 : decode cL_finds 4 = .ok (.invokevirtual 80, 3) := by decide +kernel
theorem dL_finds_7 : decode cL_finds 7 = .ok (.i2l, 1) := by decide +kernel
theorem dL_finds_8 : decode cL_finds 8 = .ok (.lastore, 1) := by decide +kernel
theorem dL_finds_9 : decode cL_finds 9 = .ok (.goto 6, 3) := by decide +kernel
theorem dL_finds_12 : decode cL_finds 12 = .ok (.astore_n 3, 1) := by decide +kernel
theorem dL_finds_13 : decode cL_finds 13 = .ok (.iconst 1, 1) := by decide +kernel
theorem dL_finds_14 : decode cL_finds 14 = .ok (.ireturn, 1) := by decide +kernel
theorem dL_finds_15 : decode cL_finds 15 = .ok (.iconst 0, 1) := by decide +kernel
theorem dL_finds_16 : decode cL_finds 16 = .ok (.ireturn, 1) := by decide +kernel
set_option maxRecDepth 20000 in
set_option maxHeartbeats 4000000 in
theorem lw_finds {l : Launch} (hl : l.stackTraces = false) {w : ab_W} {σ : ab_H} {K : Int32 → ab_H → Prop} (hI : ab_Inj w) (z1 : Int32) (h : lwA w σ (c_finds z1) K) : lw_Met l yL_finds (Cond.codeWith yL_finds cL_finds 4 (some .int) [(0, 9, 12, 13)]) 8 w σ [.ref 0, .int z1, .ref 18] K := by
  obtain ⟨Kn, Kx, hs, hKn, hKx⟩ := lw_sb [x_ar] h
  have hM := cb_X9_finds hl hI z1 hs
  refine lw_enter (by decide) hl hI (Nat.le_of_ble_eq_true rfl) (by decide) ?_
  intro p e R s m args' below meth c C hX htab hr
  refine sd_aload_n C (i := 2) dL_finds_0 rfl (sd_iconst C (x := 0) dL_finds_1 (by decide) (sd_aload_n C (i := 0) dL_finds_2 rfl (sd_iload_n C (i := 1) dL_finds_3 rfl (fun _ _ _ h => h)))) _ _ _ (lw_call (n := 1) C hX htab hr (ci := 9) (row := (RX9, TX9, 7)) rfl rfl ⟨by decide, by decide, wl_896, wl_1, by decide +kernel⟩ wl_893 wl_894 wl_895 dL_finds_4 dL_finds_7 dL_finds_8 dL_finds_9 (by decide) ⟨0, dL_finds_15, by decide, dL_finds_16⟩ (As := [.int z1]) (a := 0) (o := 18) rfl h.1.1 h.2.1 h.2.2.1 hM hKn (fun E σ' hk => ?_))
  obtain ⟨k, hk1, hk2⟩ := hKx E σ' hk
  rcases (by have := (List.getElem?_eq_some_iff.mp hk1).1; simp only [List.length_cons, List.length_nil] at this; omega : k = 0) with rfl
  · cases hk1
    exact ⟨_, ⟨[], ⟨0, 9, 12, 13⟩, [], rfl, (fun y hy => absurd hy List.not_mem_nil), by decide, by decide, wl_481, wm_490, Or.inl ⟨3, dL_finds_12, by decide, ⟨1, dL_finds_13, by decide, dL_finds_14⟩⟩⟩, hk2⟩
theorem dL_coming_0 : decode cL_coming 0 = .ok (.aload_n 3, 1) := by decide +kernel
theorem dL_coming_1 : decode cL_coming 1 = .ok (.iconst 0, 1) := by decide +kernel
theorem dL_coming_2 : decode cL_coming 2 = .ok (.aload_n 0, 1) := by decide +kernel
theorem dL_coming_3 : decode cL_coming 3 = .ok (.iload_n 1, 1) := by decide +kernel
theorem dL_coming_4 : decode cL_coming 4 = .ok (.iload_n 2, 1) := by decide +kernel
theorem dL_coming_5 : decode cL_coming 5 = .ok (.invokevirtual 83, 3) := by decide +kernel
theorem dL_coming_8 : decode cL_coming 8 = .ok (.i2l, 1) := by decide +kernel
theorem dL_coming_9 : decode cL_coming 9 = .ok (.lastore, 1) := by decide +kernel
theorem dL_coming_10 : decode cL_coming 10 = .ok (.goto 7, 3) := by decide +kernel
theorem dL_coming_13 : decode cL_coming 13 = .ok (.astore 4, 2) := by decide +kernel
theorem dL_coming_15 : decode cL_coming 15 = .ok (.iconst 1, 1) := by decide +kernel
theorem dL_coming_16 : decode cL_coming 16 = .ok (.ireturn, 1) := by decide +kernel
theorem dL_coming_17 : decode cL_coming 17 = .ok (.iconst 0, 1) := by decide +kernel
theorem dL_coming_18 : decode cL_coming 18 = .ok (.ireturn, 1) := by decide +kernel
set_option maxRecDepth 20000 in
set_option maxHeartbeats 4000000 in
theorem lw_coming {l : Launch} (hl : l.stackTraces = false) {w : ab_W} {σ : ab_H} {K : Int32 → ab_H → Prop} (hI : ab_Inj w) (z1 : Int32) (z2 : Int32) (h : lwA w σ (c_coming z1 z2) K) : lw_Met l yL_coming (Cond.codeWith yL_coming cL_coming 5 (some .int) [(0, 10, 13, 13)]) 8 w σ [.ref 0, .int z1, .int z2, .ref 18] K := by
  obtain ⟨Kn, Kx, hs, hKn, hKx⟩ := lw_sb [x_ar] h
  have hM := cb_X9_coming hl hI z1 z2 hs
  refine lw_enter (by decide) hl hI (Nat.le_of_ble_eq_true rfl) (by decide) ?_
  intro p e R s m args' below meth c C hX htab hr
  refine sd_aload_n C (i := 3) dL_coming_0 rfl (sd_iconst C (x := 0) dL_coming_1 (by decide) (sd_aload_n C (i := 0) dL_coming_2 rfl (sd_iload_n C (i := 1) dL_coming_3 rfl (sd_iload_n C (i := 2) dL_coming_4 rfl (fun _ _ _ h => h))))) _ _ _ (lw_call (n := 2) C hX htab hr (ci := 9) (row := (RX9, TX9, 7)) rfl rfl ⟨by decide, by decide, wl_904, wl_1, by decide +kernel⟩ wl_901 wl_902 wl_903 dL_coming_5 dL_coming_8 dL_coming_9 dL_coming_10 (by decide) ⟨0, dL_coming_17, by decide, dL_coming_18⟩ (As := [.int z1, .int z2]) (a := 0) (o := 18) rfl h.1.1 h.2.1 h.2.2.1 hM hKn (fun E σ' hk => ?_))
  obtain ⟨k, hk1, hk2⟩ := hKx E σ' hk
  rcases (by have := (List.getElem?_eq_some_iff.mp hk1).1; simp only [List.length_cons, List.length_nil] at this; omega : k = 0) with rfl
  · cases hk1
    exact ⟨_, ⟨[], ⟨0, 10, 13, 13⟩, [], rfl, (fun y hy => absurd hy List.not_mem_nil), by decide, by decide, wl_481, wm_490, Or.inr ⟨4, dL_coming_13, by decide, ⟨1, dL_coming_15, by decide, dL_coming_16⟩⟩⟩, hk2⟩
theorem dL_addStation_0 : decode cL_addStation 0 = .ok (.aload 6, 2) := by decide +kernel
theorem dL_addStation_2 : decode cL_addStation 2 = .ok (.iconst 0, 1) := by decide +kernel
theorem dL_addStation_3 : decode cL_addStation 3 = .ok (.aload_n 0, 1) := by decide +kernel
theorem dL_addStation_4 : decode cL_addStation 4 = .ok (.iload_n 1, 1) := by decide +kernel
theorem dL_addStation_5 : decode cL_addStation 5 = .ok (.iload_n 2, 1) := by decide +kernel
theorem dL_addStation_6 : decode cL_addStation 6 = .ok (.iload_n 3, 1) := by decide +kernel
theorem dL_addStation_7 : decode cL_addStation 7 = .ok (.iload 4, 2) := by decide +kernel
theorem dL_addStation_9 : decode cL_addStation 9 = .ok (.iload 5, 2) := by decide +kernel
theorem dL_addStation_11 : decode cL_addStation 11 = .ok (.invokevirtual 48, 3) := by decide +kernel
theorem dL_addStation_14 : decode cL_addStation 14 = .ok (.i2l, 1) := by decide +kernel
theorem dL_addStation_15 : decode cL_addStation 15 = .ok (.lastore, 1) := by decide +kernel
theorem dL_addStation_16 : decode cL_addStation 16 = .ok (.goto 11, 3) := by decide +kernel
theorem dL_addStation_19 : decode cL_addStation 19 = .ok (.astore 7, 2) := by decide +kernel
theorem dL_addStation_21 : decode cL_addStation 21 = .ok (.iconst 1, 1) := by decide +kernel
theorem dL_addStation_22 : decode cL_addStation 22 = .ok (.ireturn, 1) := by decide +kernel
theorem dL_addStation_23 : decode cL_addStation 23 = .ok (.astore 7, 2) := by decide +kernel
theorem dL_addStation_25 : decode cL_addStation 25 = .ok (.iconst 2, 1) := by decide +kernel
theorem dL_addStation_26 : decode cL_addStation 26 = .ok (.ireturn, 1) := by decide +kernel
theorem dL_addStation_27 : decode cL_addStation 27 = .ok (.iconst 0, 1) := by decide +kernel
theorem dL_addStation_28 : decode cL_addStation 28 = .ok (.ireturn, 1) := by decide +kernel
set_option maxRecDepth 20000 in
set_option maxHeartbeats 4000000 in
theorem lw_addStation {l : Launch} (hl : l.stackTraces = false) {w : ab_W} {σ : ab_H} {K : Int32 → ab_H → Prop} (hI : ab_Inj w) (z1 : Int32) (z2 : Int32) (z3 : Int32) (z4 : Int32) (z5 : Int32) (h : lwA w σ (c_addStation z1 z2 z3 z4 z5) K) : lw_Met l yL_addStation (Cond.codeWith yL_addStation cL_addStation 8 (some .int) [(0, 16, 19, 13), (0, 16, 23, 15)]) 9 w σ [.ref 0, .int z1, .int z2, .int z3, .int z4, .int z5, .ref 18] K := by
  obtain ⟨Kn, Kx, hs, hKn, hKx⟩ := lw_sb [x_ar, x_st] h
  have hM := cb_X9_addStation hl hI z1 z2 z3 z4 z5 hs
  refine lw_enter (by decide) hl hI (Nat.le_of_ble_eq_true rfl) (by decide) ?_
  intro p e R s m args' below meth c C hX htab hr
  refine sd_aload C (i := 6) dL_addStation_0 (sd_iconst C (x := 0) dL_addStation_2 (by decide) (sd_aload_n C (i := 0) dL_addStation_3 rfl (sd_iload_n C (i := 1) dL_addStation_4 rfl (sd_iload_n C (i := 2) dL_addStation_5 rfl (sd_iload_n C (i := 3) dL_addStation_6 rfl (sd_iload C (i := 4) dL_addStation_7 (sd_iload C (i := 5) dL_addStation_9 (fun _ _ _ h => h)))))))) _ _ _ (lw_call (n := 5) C hX htab hr (ci := 9) (row := (RX9, TX9, 7)) rfl rfl ⟨by decide, by decide, wl_770, wl_1, by decide +kernel⟩ wl_767 wl_768 wl_769 dL_addStation_11 dL_addStation_14 dL_addStation_15 dL_addStation_16 (by decide) ⟨0, dL_addStation_27, by decide, dL_addStation_28⟩ (As := [.int z1, .int z2, .int z3, .int z4, .int z5]) (a := 0) (o := 18) rfl h.1.1 h.2.1 h.2.2.1 hM hKn (fun E σ' hk => ?_))
  obtain ⟨k, hk1, hk2⟩ := hKx E σ' hk
  rcases (by have := (List.getElem?_eq_some_iff.mp hk1).1; simp only [List.length_cons, List.length_nil] at this; omega : k = 0 ∨ k = 1) with rfl | rfl
  · cases hk1
    exact ⟨_, ⟨[], ⟨0, 16, 19, 13⟩, [⟨0, 16, 23, 15⟩], rfl, (fun y hy => absurd hy List.not_mem_nil), by decide, by decide, wl_481, wm_490, Or.inr ⟨7, dL_addStation_19, by decide, ⟨1, dL_addStation_21, by decide, dL_addStation_22⟩⟩⟩, hk2⟩
  · cases hk1
    exact ⟨_, ⟨[⟨0, 16, 19, 13⟩], ⟨0, 16, 23, 15⟩, [], rfl, (fun y hy => by obtain rfl := List.mem_singleton.mp hy; exact ⟨by decide, _, wl_481, fun U h => h.2.2.1⟩), by decide, by decide, wl_482, wm_558, Or.inr ⟨7, dL_addStation_23, by decide, ⟨2, dL_addStation_25, by decide, dL_addStation_26⟩⟩⟩, hk2⟩
theorem dL_addFinder_0 : decode cL_addFinder 0 = .ok (.aload 4, 2) := by decide +kernel
theorem dL_addFinder_2 : decode cL_addFinder 2 = .ok (.iconst 0, 1) := by decide +kernel
theorem dL_addFinder_3 : decode cL_addFinder 3 = .ok (.aload_n 0, 1) := by decide +kernel
theorem dL_addFinder_4 : decode cL_addFinder 4 = .ok (.iload_n 1, 1) := by decide +kernel
theorem dL_addFinder_5 : decode cL_addFinder 5 = .ok (.iload_n 2, 1) := by decide +kernel
theorem dL_addFinder_6 : decode cL_addFinder 6 = .ok (.iload_n 3, 1) := by decide +kernel
theorem dL_addFinder_7 : decode cL_addFinder 7 = .ok (.invokevirtual 52, 3) := by decide +kernel
theorem dL_addFinder_10 : decode cL_addFinder 10 = .ok (.i2l, 1) := by decide +kernel
theorem dL_addFinder_11 : decode cL_addFinder 11 = .ok (.lastore, 1) := by decide +kernel
theorem dL_addFinder_12 : decode cL_addFinder 12 = .ok (.goto 11, 3) := by decide +kernel
theorem dL_addFinder_15 : decode cL_addFinder 15 = .ok (.astore 5, 2) := by decide +kernel
theorem dL_addFinder_17 : decode cL_addFinder 17 = .ok (.iconst 1, 1) := by decide +kernel
theorem dL_addFinder_18 : decode cL_addFinder 18 = .ok (.ireturn, 1) := by decide +kernel
theorem dL_addFinder_19 : decode cL_addFinder 19 = .ok (.astore 5, 2) := by decide +kernel
theorem dL_addFinder_21 : decode cL_addFinder 21 = .ok (.iconst 2, 1) := by decide +kernel
theorem dL_addFinder_22 : decode cL_addFinder 22 = .ok (.ireturn, 1) := by decide +kernel
theorem dL_addFinder_23 : decode cL_addFinder 23 = .ok (.iconst 0, 1) := by decide +kernel
theorem dL_addFinder_24 : decode cL_addFinder 24 = .ok (.ireturn, 1) := by decide +kernel
set_option maxRecDepth 20000 in
set_option maxHeartbeats 4000000 in
theorem lw_addFinder {l : Launch} (hl : l.stackTraces = false) {w : ab_W} {σ : ab_H} {K : Int32 → ab_H → Prop} (hI : ab_Inj w) (z1 : Int32) (z2 : Int32) (z3 : Int32) (h : lwA w σ (c_addFinder z1 z2 z3) K) : lw_Met l yL_addFinder (Cond.codeWith yL_addFinder cL_addFinder 6 (some .int) [(0, 12, 15, 13), (0, 12, 19, 15)]) 9 w σ [.ref 0, .int z1, .int z2, .int z3, .ref 18] K := by
  obtain ⟨Kn, Kx, hs, hKn, hKx⟩ := lw_sb [x_ar, x_st] h
  have hM := cb_X9_addFinder hl hI z1 z2 z3 hs
  refine lw_enter (by decide) hl hI (Nat.le_of_ble_eq_true rfl) (by decide) ?_
  intro p e R s m args' below meth c C hX htab hr
  refine sd_aload C (i := 4) dL_addFinder_0 (sd_iconst C (x := 0) dL_addFinder_2 (by decide) (sd_aload_n C (i := 0) dL_addFinder_3 rfl (sd_iload_n C (i := 1) dL_addFinder_4 rfl (sd_iload_n C (i := 2) dL_addFinder_5 rfl (sd_iload_n C (i := 3) dL_addFinder_6 rfl (fun _ _ _ h => h)))))) _ _ _ (lw_call (n := 3) C hX htab hr (ci := 9) (row := (RX9, TX9, 7)) rfl rfl ⟨by decide, by decide, wl_791, wl_1, by decide +kernel⟩ wl_788 wl_789 wl_790 dL_addFinder_7 dL_addFinder_10 dL_addFinder_11 dL_addFinder_12 (by decide) ⟨0, dL_addFinder_23, by decide, dL_addFinder_24⟩ (As := [.int z1, .int z2, .int z3]) (a := 0) (o := 18) rfl h.1.1 h.2.1 h.2.2.1 hM hKn (fun E σ' hk => ?_))
  obtain ⟨k, hk1, hk2⟩ := hKx E σ' hk
  rcases (by have := (List.getElem?_eq_some_iff.mp hk1).1; simp only [List.length_cons, List.length_nil] at this; omega : k = 0 ∨ k = 1) with rfl | rfl
  · cases hk1
    exact ⟨_, ⟨[], ⟨0, 12, 15, 13⟩, [⟨0, 12, 19, 15⟩], rfl, (fun y hy => absurd hy List.not_mem_nil), by decide, by decide, wl_481, wm_490, Or.inr ⟨5, dL_addFinder_15, by decide, ⟨1, dL_addFinder_17, by decide, dL_addFinder_18⟩⟩⟩, hk2⟩
  · cases hk1
    exact ⟨_, ⟨[⟨0, 12, 15, 13⟩], ⟨0, 12, 19, 15⟩, [], rfl, (fun y hy => by obtain rfl := List.mem_singleton.mp hy; exact ⟨by decide, _, wl_481, fun U h => h.2.2.1⟩), by decide, by decide, wl_482, wm_558, Or.inr ⟨5, dL_addFinder_19, by decide, ⟨2, dL_addFinder_21, by decide, dL_addFinder_22⟩⟩⟩, hk2⟩
theorem dL_wind_0 : decode cL_wind 0 = .ok (.aload_n 3, 1) := by decide +kernel
theorem dL_wind_1 : decode cL_wind 1 = .ok (.iconst 0, 1) := by decide +kernel
theorem dL_wind_2 : decode cL_wind 2 = .ok (.aload_n 0, 1) := by decide +kernel
theorem dL_wind_3 : decode cL_wind 3 = .ok (.iload_n 1, 1) := by decide +kernel
theorem dL_wind_4 : decode cL_wind 4 = .ok (.iload_n 2, 1) := by decide +kernel
theorem dL_wind_5 : decode cL_wind 5 = .ok (.invokevirtual 56, 3) := by decide +kernel
theorem dL_wind_8 : decode cL_wind 8 = .ok (.i2l, 1) := by decide +kernel
theorem dL_wind_9 : decode cL_wind 9 = .ok (.lastore, 1) := by decide +kernel
theorem dL_wind_10 : decode cL_wind 10 = .ok (.goto 7, 3) := by decide +kernel
theorem dL_wind_13 : decode cL_wind 13 = .ok (.astore 4, 2) := by decide +kernel
theorem dL_wind_15 : decode cL_wind 15 = .ok (.iconst 1, 1) := by decide +kernel
theorem dL_wind_16 : decode cL_wind 16 = .ok (.ireturn, 1) := by decide +kernel
theorem dL_wind_17 : decode cL_wind 17 = .ok (.iconst 0, 1) := by decide +kernel
theorem dL_wind_18 : decode cL_wind 18 = .ok (.ireturn, 1) := by decide +kernel
set_option maxRecDepth 20000 in
set_option maxHeartbeats 4000000 in
theorem lw_wind {l : Launch} (hl : l.stackTraces = false) {w : ab_W} {σ : ab_H} {K : Int32 → ab_H → Prop} (hI : ab_Inj w) (z1 : Int32) (z2 : Int32) (h : lwA w σ (c_wind z1 z2) K) : lw_Met l yL_wind (Cond.codeWith yL_wind cL_wind 5 (some .int) [(0, 10, 13, 13)]) 9 w σ [.ref 0, .int z1, .int z2, .ref 18] K := by
  obtain ⟨Kn, Kx, hs, hKn, hKx⟩ := lw_sb [x_ar] h
  have hM := cb_X9_wind hl hI z1 z2 hs
  refine lw_enter (by decide) hl hI (Nat.le_of_ble_eq_true rfl) (by decide) ?_
  intro p e R s m args' below meth c C hX htab hr
  refine sd_aload_n C (i := 3) dL_wind_0 rfl (sd_iconst C (x := 0) dL_wind_1 (by decide) (sd_aload_n C (i := 0) dL_wind_2 rfl (sd_iload_n C (i := 1) dL_wind_3 rfl (sd_iload_n C (i := 2) dL_wind_4 rfl (fun _ _ _ h => h))))) _ _ _ (lw_call (n := 2) C hX htab hr (ci := 9) (row := (RX9, TX9, 7)) rfl rfl ⟨by decide, by decide, wl_799, wl_1, by decide +kernel⟩ wl_796 wl_797 wl_798 dL_wind_5 dL_wind_8 dL_wind_9 dL_wind_10 (by decide) ⟨0, dL_wind_17, by decide, dL_wind_18⟩ (As := [.int z1, .int z2]) (a := 0) (o := 18) rfl h.1.1 h.2.1 h.2.2.1 hM hKn (fun E σ' hk => ?_))
  obtain ⟨k, hk1, hk2⟩ := hKx E σ' hk
  rcases (by have := (List.getElem?_eq_some_iff.mp hk1).1; simp only [List.length_cons, List.length_nil] at this; omega : k = 0) with rfl
  · cases hk1
    exact ⟨_, ⟨[], ⟨0, 10, 13, 13⟩, [], rfl, (fun y hy => absurd hy List.not_mem_nil), by decide, by decide, wl_481, wm_490, Or.inr ⟨4, dL_wind_13, by decide, ⟨1, dL_wind_15, by decide, dL_wind_16⟩⟩⟩, hk2⟩
theorem dL_set_0 : decode cL_set 0 = .ok (.aload_n 3, 1) := by decide +kernel
theorem dL_set_1 : decode cL_set 1 = .ok (.iconst 0, 1) := by decide +kernel
theorem dL_set_2 : decode cL_set 2 = .ok (.aload_n 0, 1) := by decide +kernel
theorem dL_set_3 : decode cL_set 3 = .ok (.iload_n 1, 1) := by decide +kernel
theorem dL_set_4 : decode cL_set 4 = .ok (.iload_n 2, 1) := by decide +kernel
theorem dL_set_5 : decode cL_set 5 = .ok (.invokevirtual 71, 3) := by decide +kernel
theorem dL_set_8 : decode cL_set 8 = .ok (.i2l, 1) := by decide +kernel
theorem dL_set_9 : decode cL_set 9 = .ok (.lastore, 1) := by decide +kernel
theorem dL_set_10 : decode cL_set 10 = .ok (.goto 7, 3) := by decide +kernel
theorem dL_set_13 : decode cL_set 13 = .ok (.astore 4, 2) := by decide +kernel
theorem dL_set_15 : decode cL_set 15 = .ok (.iconst 1, 1) := by decide +kernel
theorem dL_set_16 : decode cL_set 16 = .ok (.ireturn, 1) := by decide +kernel
theorem dL_set_17 : decode cL_set 17 = .ok (.iconst 0, 1) := by decide +kernel
theorem dL_set_18 : decode cL_set 18 = .ok (.ireturn, 1) := by decide +kernel
set_option maxRecDepth 20000 in
set_option maxHeartbeats 4000000 in
theorem lw_set {l : Launch} (hl : l.stackTraces = false) {w : ab_W} {σ : ab_H} {K : Int32 → ab_H → Prop} (hI : ab_Inj w) (z1 : Int32) (z2 : Int32) (h : lwA w σ (c_set z1 z2) K) : lw_Met l yL_set (Cond.codeWith yL_set cL_set 5 (some .int) [(0, 10, 13, 13)]) 9 w σ [.ref 0, .int z1, .int z2, .ref 18] K := by
  obtain ⟨Kn, Kx, hs, hKn, hKx⟩ := lw_sb [x_ar] h
  have hM := cb_X9_set hl hI z1 z2 hs
  refine lw_enter (by decide) hl hI (Nat.le_of_ble_eq_true rfl) (by decide) ?_
  intro p e R s m args' below meth c C hX htab hr
  refine sd_aload_n C (i := 3) dL_set_0 rfl (sd_iconst C (x := 0) dL_set_1 (by decide) (sd_aload_n C (i := 0) dL_set_2 rfl (sd_iload_n C (i := 1) dL_set_3 rfl (sd_iload_n C (i := 2) dL_set_4 rfl (fun _ _ _ h => h))))) _ _ _ (lw_call (n := 2) C hX htab hr (ci := 9) (row := (RX9, TX9, 7)) rfl rfl ⟨by decide, by decide, wl_856, wl_1, by decide +kernel⟩ wl_853 wl_854 wl_855 dL_set_5 dL_set_8 dL_set_9 dL_set_10 (by decide) ⟨0, dL_set_17, by decide, dL_set_18⟩ (As := [.int z1, .int z2]) (a := 0) (o := 18) rfl h.1.1 h.2.1 h.2.2.1 hM hKn (fun E σ' hk => ?_))
  obtain ⟨k, hk1, hk2⟩ := hKx E σ' hk
  rcases (by have := (List.getElem?_eq_some_iff.mp hk1).1; simp only [List.length_cons, List.length_nil] at this; omega : k = 0) with rfl
  · cases hk1
    exact ⟨_, ⟨[], ⟨0, 10, 13, 13⟩, [], rfl, (fun y hy => absurd hy List.not_mem_nil), by decide, by decide, wl_481, wm_490, Or.inr ⟨4, dL_set_13, by decide, ⟨1, dL_set_15, by decide, dL_set_16⟩⟩⟩, hk2⟩
theorem dL_change_0 : decode cL_change 0 = .ok (.aload 4, 2) := by decide +kernel
theorem dL_change_2 : decode cL_change 2 = .ok (.iconst 0, 1) := by decide +kernel
theorem dL_change_3 : decode cL_change 3 = .ok (.aload_n 0, 1) := by decide +kernel
theorem dL_change_4 : decode cL_change 4 = .ok (.iload_n 1, 1) := by decide +kernel
theorem dL_change_5 : decode cL_change 5 = .ok (.iload_n 2, 1) := by decide +kernel
theorem dL_change_6 : decode cL_change 6 = .ok (.iload_n 3, 1) := by decide +kernel
theorem dL_change_7 : decode cL_change 7 = .ok (.invokevirtual 59, 3) := by decide +kernel
theorem dL_change_10 : decode cL_change 10 = .ok (.i2l, 1) := by decide +kernel
theorem dL_change_11 : decode cL_change 11 = .ok (.lastore, 1) := by decide +kernel
theorem dL_change_12 : decode cL_change 12 = .ok (.goto 11, 3) := by decide +kernel
theorem dL_change_15 : decode cL_change 15 = .ok (.astore 5, 2) := by decide +kernel
theorem dL_change_17 : decode cL_change 17 = .ok (.iconst 1, 1) := by decide +kernel
theorem dL_change_18 : decode cL_change 18 = .ok (.ireturn, 1) := by decide +kernel
theorem dL_change_19 : decode cL_change 19 = .ok (.astore 5, 2) := by decide +kernel
theorem dL_change_21 : decode cL_change 21 = .ok (.iconst 2, 1) := by decide +kernel
theorem dL_change_22 : decode cL_change 22 = .ok (.ireturn, 1) := by decide +kernel
theorem dL_change_23 : decode cL_change 23 = .ok (.iconst 0, 1) := by decide +kernel
theorem dL_change_24 : decode cL_change 24 = .ok (.ireturn, 1) := by decide +kernel
set_option maxRecDepth 20000 in
set_option maxHeartbeats 4000000 in
theorem lw_change {l : Launch} (hl : l.stackTraces = false) {w : ab_W} {σ : ab_H} {K : Int32 → ab_H → Prop} (hI : ab_Inj w) (z1 : Int32) (z2 : Int32) (z3 : Int32) (h : lwA w σ (c_change z1 z2 z3) K) : lw_Met l yL_change (Cond.codeWith yL_change cL_change 6 (some .int) [(0, 12, 15, 28), (0, 12, 19, 13)]) 9 w σ [.ref 0, .int z1, .int z2, .int z3, .ref 18] K := by
  obtain ⟨Kn, Kx, hs, hKn, hKx⟩ := lw_sb [x_ix, x_ar] h
  have hM := cb_X9_change hl hI z1 z2 z3 hs
  refine lw_enter (by decide) hl hI (Nat.le_of_ble_eq_true rfl) (by decide) ?_
  intro p e R s m args' below meth c C hX htab hr
  refine sd_aload C (i := 4) dL_change_0 (sd_iconst C (x := 0) dL_change_2 (by decide) (sd_aload_n C (i := 0) dL_change_3 rfl (sd_iload_n C (i := 1) dL_change_4 rfl (sd_iload_n C (i := 2) dL_change_5 rfl (sd_iload_n C (i := 3) dL_change_6 rfl (fun _ _ _ h => h)))))) _ _ _ (lw_call (n := 3) C hX htab hr (ci := 9) (row := (RX9, TX9, 7)) rfl rfl ⟨by decide, by decide, wl_807, wl_1, by decide +kernel⟩ wl_804 wl_805 wl_806 dL_change_7 dL_change_10 dL_change_11 dL_change_12 (by decide) ⟨0, dL_change_23, by decide, dL_change_24⟩ (As := [.int z1, .int z2, .int z3]) (a := 0) (o := 18) rfl h.1.1 h.2.1 h.2.2.1 hM hKn (fun E σ' hk => ?_))
  obtain ⟨k, hk1, hk2⟩ := hKx E σ' hk
  rcases (by have := (List.getElem?_eq_some_iff.mp hk1).1; simp only [List.length_cons, List.length_nil] at this; omega : k = 0 ∨ k = 1) with rfl | rfl
  · cases hk1
    exact ⟨_, ⟨[], ⟨0, 12, 15, 28⟩, [⟨0, 12, 19, 13⟩], rfl, (fun y hy => absurd hy List.not_mem_nil), by decide, by decide, wl_662, wm_674, Or.inr ⟨5, dL_change_15, by decide, ⟨1, dL_change_17, by decide, dL_change_18⟩⟩⟩, hk2⟩
  · cases hk1
    exact ⟨_, ⟨[⟨0, 12, 15, 28⟩], ⟨0, 12, 19, 13⟩, [], rfl, (fun y hy => by obtain rfl := List.mem_singleton.mp hy; exact ⟨by decide, _, wl_662, fun U h => h.2.1⟩), by decide, by decide, wl_481, wm_490, Or.inr ⟨5, dL_change_19, by decide, ⟨2, dL_change_21, by decide, dL_change_22⟩⟩⟩, hk2⟩
theorem dL_deliver_0 : decode cL_deliver 0 = .ok (.aload 4, 2) := by decide +kernel
theorem dL_deliver_2 : decode cL_deliver 2 = .ok (.iconst 0, 1) := by decide +kernel
theorem dL_deliver_3 : decode cL_deliver 3 = .ok (.aload_n 0, 1) := by decide +kernel
theorem dL_deliver_4 : decode cL_deliver 4 = .ok (.iload_n 1, 1) := by decide +kernel
theorem dL_deliver_5 : decode cL_deliver 5 = .ok (.iload_n 2, 1) := by decide +kernel
theorem dL_deliver_6 : decode cL_deliver 6 = .ok (.iload_n 3, 1) := by decide +kernel
theorem dL_deliver_7 : decode cL_deliver 7 = .ok (.invokevirtual 62, 3) := by decide +kernel
theorem dL_deliver_10 : decode cL_deliver 10 = .ok (.i2l, 1) := by decide +kernel
theorem dL_deliver_11 : decode cL_deliver 11 = .ok (.lastore, 1) := by decide +kernel
theorem dL_deliver_12 : decode cL_deliver 12 = .ok (.goto 15, 3) := by decide +kernel
theorem dL_deliver_15 : decode cL_deliver 15 = .ok (.astore 5, 2) := by decide +kernel
theorem dL_deliver_17 : decode cL_deliver 17 = .ok (.iconst 1, 1) := by decide +kernel
theorem dL_deliver_18 : decode cL_deliver 18 = .ok (.ireturn, 1) := by decide +kernel
theorem dL_deliver_19 : decode cL_deliver 19 = .ok (.astore 5, 2) := by decide +kernel
theorem dL_deliver_21 : decode cL_deliver 21 = .ok (.iconst 2, 1) := by decide +kernel
theorem dL_deliver_22 : decode cL_deliver 22 = .ok (.ireturn, 1) := by decide +kernel
theorem dL_deliver_23 : decode cL_deliver 23 = .ok (.astore 5, 2) := by decide +kernel
theorem dL_deliver_25 : decode cL_deliver 25 = .ok (.iconst 3, 1) := by decide +kernel
theorem dL_deliver_26 : decode cL_deliver 26 = .ok (.ireturn, 1) := by decide +kernel
theorem dL_deliver_27 : decode cL_deliver 27 = .ok (.iconst 0, 1) := by decide +kernel
theorem dL_deliver_28 : decode cL_deliver 28 = .ok (.ireturn, 1) := by decide +kernel
set_option maxRecDepth 20000 in
set_option maxHeartbeats 4000000 in
theorem lw_deliver {l : Launch} (hl : l.stackTraces = false) {w : ab_W} {σ : ab_H} {K : Int32 → ab_H → Prop} (hI : ab_Inj w) (z1 : Int32) (z2 : Int32) (z3 : Int32) (h : lwA w σ (c_deliver z1 z2 z3) K) : lw_Met l yL_deliver (Cond.codeWith yL_deliver cL_deliver 6 (some .int) [(0, 12, 15, 28), (0, 12, 19, 13), (0, 12, 23, 15)]) 9 w σ [.ref 0, .int z1, .int z2, .int z3, .ref 18] K := by
  obtain ⟨Kn, Kx, hs, hKn, hKx⟩ := lw_sb [x_ix, x_ar, x_st] h
  have hM := cb_X9_deliver hl hI z1 z2 z3 hs
  refine lw_enter (by decide) hl hI (Nat.le_of_ble_eq_true rfl) (by decide) ?_
  intro p e R s m args' below meth c C hX htab hr
  refine sd_aload C (i := 4) dL_deliver_0 (sd_iconst C (x := 0) dL_deliver_2 (by decide) (sd_aload_n C (i := 0) dL_deliver_3 rfl (sd_iload_n C (i := 1) dL_deliver_4 rfl (sd_iload_n C (i := 2) dL_deliver_5 rfl (sd_iload_n C (i := 3) dL_deliver_6 rfl (fun _ _ _ h => h)))))) _ _ _ (lw_call (n := 3) C hX htab hr (ci := 9) (row := (RX9, TX9, 7)) rfl rfl ⟨by decide, by decide, wl_823, wl_1, by decide +kernel⟩ wl_820 wl_821 wl_822 dL_deliver_7 dL_deliver_10 dL_deliver_11 dL_deliver_12 (by decide) ⟨0, dL_deliver_27, by decide, dL_deliver_28⟩ (As := [.int z1, .int z2, .int z3]) (a := 0) (o := 18) rfl h.1.1 h.2.1 h.2.2.1 hM hKn (fun E σ' hk => ?_))
  obtain ⟨k, hk1, hk2⟩ := hKx E σ' hk
  rcases (by have := (List.getElem?_eq_some_iff.mp hk1).1; simp only [List.length_cons, List.length_nil] at this; omega : k = 0 ∨ k = 1 ∨ k = 2) with rfl | rfl | rfl
  · cases hk1
    exact ⟨_, ⟨[], ⟨0, 12, 15, 28⟩, [⟨0, 12, 19, 13⟩, ⟨0, 12, 23, 15⟩], rfl, (fun y hy => absurd hy List.not_mem_nil), by decide, by decide, wl_662, wm_674, Or.inr ⟨5, dL_deliver_15, by decide, ⟨1, dL_deliver_17, by decide, dL_deliver_18⟩⟩⟩, hk2⟩
  · cases hk1
    exact ⟨_, ⟨[⟨0, 12, 15, 28⟩], ⟨0, 12, 19, 13⟩, [⟨0, 12, 23, 15⟩], rfl, (fun y hy => by obtain rfl := List.mem_singleton.mp hy; exact ⟨by decide, _, wl_662, fun U h => h.2.1⟩), by decide, by decide, wl_481, wm_490, Or.inr ⟨5, dL_deliver_19, by decide, ⟨2, dL_deliver_21, by decide, dL_deliver_22⟩⟩⟩, hk2⟩
  · cases hk1
    exact ⟨_, ⟨[⟨0, 12, 15, 28⟩, ⟨0, 12, 19, 13⟩], ⟨0, 12, 23, 15⟩, [], rfl, (fun y hy => by
      rcases List.mem_cons.mp hy with rfl | hy
      · exact ⟨by decide, _, wl_662, fun U h => h.2.2.2⟩
      · obtain rfl := List.mem_singleton.mp hy; exact ⟨by decide, _, wl_481, fun U h => h.2.2.1⟩), by decide, by decide, wl_482, wm_558, Or.inr ⟨5, dL_deliver_23, by decide, ⟨3, dL_deliver_25, by decide, dL_deliver_26⟩⟩⟩, hk2⟩
theorem dL_move_0 : decode cL_move 0 = .ok (.aload_n 3, 1) := by decide +kernel
theorem dL_move_1 : decode cL_move 1 = .ok (.iconst 0, 1) := by decide +kernel
theorem dL_move_2 : decode cL_move 2 = .ok (.aload_n 0, 1) := by decide +kernel
theorem dL_move_3 : decode cL_move 3 = .ok (.iload_n 1, 1) := by decide +kernel
theorem dL_move_4 : decode cL_move 4 = .ok (.iload_n 2, 1) := by decide +kernel
theorem dL_move_5 : decode cL_move 5 = .ok (.invokevirtual 65, 3) := by decide +kernel
theorem dL_move_8 : decode cL_move 8 = .ok (.i2l, 1) := by decide +kernel
theorem dL_move_9 : decode cL_move 9 = .ok (.lastore, 1) := by decide +kernel
theorem dL_move_10 : decode cL_move 10 = .ok (.goto 11, 3) := by decide +kernel
theorem dL_move_13 : decode cL_move 13 = .ok (.astore 4, 2) := by decide +kernel
theorem dL_move_15 : decode cL_move 15 = .ok (.iconst 1, 1) := by decide +kernel
theorem dL_move_16 : decode cL_move 16 = .ok (.ireturn, 1) := by decide +kernel
theorem dL_move_17 : decode cL_move 17 = .ok (.astore 4, 2) := by decide +kernel
theorem dL_move_19 : decode cL_move 19 = .ok (.iconst 2, 1) := by decide +kernel
theorem dL_move_20 : decode cL_move 20 = .ok (.ireturn, 1) := by decide +kernel
theorem dL_move_21 : decode cL_move 21 = .ok (.iconst 0, 1) := by decide +kernel
theorem dL_move_22 : decode cL_move 22 = .ok (.ireturn, 1) := by decide +kernel
set_option maxRecDepth 20000 in
set_option maxHeartbeats 4000000 in
theorem lw_move {l : Launch} (hl : l.stackTraces = false) {w : ab_W} {σ : ab_H} {K : Int32 → ab_H → Prop} (hI : ab_Inj w) (z1 : Int32) (z2 : Int32) (h : lwA w σ (c_move z1 z2) K) : lw_Met l yL_move (Cond.codeWith yL_move cL_move 5 (some .int) [(0, 10, 13, 28), (0, 10, 17, 15)]) 9 w σ [.ref 0, .int z1, .int z2, .ref 18] K := by
  obtain ⟨Kn, Kx, hs, hKn, hKx⟩ := lw_sb [x_ix, x_st] h
  have hM := cb_X9_move hl hI z1 z2 hs
  refine lw_enter (by decide) hl hI (Nat.le_of_ble_eq_true rfl) (by decide) ?_
  intro p e R s m args' below meth c C hX htab hr
  refine sd_aload_n C (i := 3) dL_move_0 rfl (sd_iconst C (x := 0) dL_move_1 (by decide) (sd_aload_n C (i := 0) dL_move_2 rfl (sd_iload_n C (i := 1) dL_move_3 rfl (sd_iload_n C (i := 2) dL_move_4 rfl (fun _ _ _ h => h))))) _ _ _ (lw_call (n := 2) C hX htab hr (ci := 9) (row := (RX9, TX9, 7)) rfl rfl ⟨by decide, by decide, wl_832, wl_1, by decide +kernel⟩ wl_829 wl_830 wl_831 dL_move_5 dL_move_8 dL_move_9 dL_move_10 (by decide) ⟨0, dL_move_21, by decide, dL_move_22⟩ (As := [.int z1, .int z2]) (a := 0) (o := 18) rfl h.1.1 h.2.1 h.2.2.1 hM hKn (fun E σ' hk => ?_))
  obtain ⟨k, hk1, hk2⟩ := hKx E σ' hk
  rcases (by have := (List.getElem?_eq_some_iff.mp hk1).1; simp only [List.length_cons, List.length_nil] at this; omega : k = 0 ∨ k = 1) with rfl | rfl
  · cases hk1
    exact ⟨_, ⟨[], ⟨0, 10, 13, 28⟩, [⟨0, 10, 17, 15⟩], rfl, (fun y hy => absurd hy List.not_mem_nil), by decide, by decide, wl_662, wm_674, Or.inr ⟨4, dL_move_13, by decide, ⟨1, dL_move_15, by decide, dL_move_16⟩⟩⟩, hk2⟩
  · cases hk1
    exact ⟨_, ⟨[⟨0, 10, 13, 28⟩], ⟨0, 10, 17, 15⟩, [], rfl, (fun y hy => by obtain rfl := List.mem_singleton.mp hy; exact ⟨by decide, _, wl_662, fun U h => h.2.2.2⟩), by decide, by decide, wl_482, wm_558, Or.inr ⟨4, dL_move_17, by decide, ⟨2, dL_move_19, by decide, dL_move_20⟩⟩⟩, hk2⟩
theorem dL_run_0 : decode cL_run 0 = .ok (.aload_n 2, 1) := by decide +kernel
theorem dL_run_1 : decode cL_run 1 = .ok (.iconst 0, 1) := by decide +kernel
theorem dL_run_2 : decode cL_run 2 = .ok (.aload_n 0, 1) := by decide +kernel
theorem dL_run_3 : decode cL_run 3 = .ok (.iload_n 1, 1) := by decide +kernel
theorem dL_run_4 : decode cL_run 4 = .ok (.invokevirtual 68, 3) := by decide +kernel
theorem dL_run_7 : decode cL_run 7 = .ok (.i2l, 1) := by decide +kernel
theorem dL_run_8 : decode cL_run 8 = .ok (.lastore, 1) := by decide +kernel
theorem dL_run_9 : decode cL_run 9 = .ok (.goto 6, 3) := by decide +kernel
theorem dL_run_12 : decode cL_run 12 = .ok (.astore_n 3, 1) := by decide +kernel
theorem dL_run_13 : decode cL_run 13 = .ok (.iconst 1, 1) := by decide +kernel
theorem dL_run_14 : decode cL_run 14 = .ok (.ireturn, 1) := by decide +kernel
theorem dL_run_15 : decode cL_run 15 = .ok (.iconst 0, 1) := by decide +kernel
theorem dL_run_16 : decode cL_run 16 = .ok (.ireturn, 1) := by decide +kernel
set_option maxRecDepth 20000 in
set_option maxHeartbeats 4000000 in
theorem lw_run {l : Launch} (hl : l.stackTraces = false) {w : ab_W} {σ : ab_H} {K : Int32 → ab_H → Prop} (hI : ab_Inj w) (z1 : Int32) (h : lwA w σ (c_run z1) K) : lw_Met l yL_run (Cond.codeWith yL_run cL_run 4 (some .int) [(0, 9, 12, 13)]) 9 w σ [.ref 0, .int z1, .ref 18] K := by
  obtain ⟨Kn, Kx, hs, hKn, hKx⟩ := lw_sb [x_ar] h
  have hM := cb_X9_run hl hI z1 hs
  refine lw_enter (by decide) hl hI (Nat.le_of_ble_eq_true rfl) (by decide) ?_
  intro p e R s m args' below meth c C hX htab hr
  refine sd_aload_n C (i := 2) dL_run_0 rfl (sd_iconst C (x := 0) dL_run_1 (by decide) (sd_aload_n C (i := 0) dL_run_2 rfl (sd_iload_n C (i := 1) dL_run_3 rfl (fun _ _ _ h => h)))) _ _ _ (lw_call (n := 1) C hX htab hr (ci := 9) (row := (RX9, TX9, 7)) rfl rfl ⟨by decide, by decide, wl_849, wl_1, by decide +kernel⟩ wl_846 wl_847 wl_848 dL_run_4 dL_run_7 dL_run_8 dL_run_9 (by decide) ⟨0, dL_run_15, by decide, dL_run_16⟩ (As := [.int z1]) (a := 0) (o := 18) rfl h.1.1 h.2.1 h.2.2.1 hM hKn (fun E σ' hk => ?_))
  obtain ⟨k, hk1, hk2⟩ := hKx E σ' hk
  rcases (by have := (List.getElem?_eq_some_iff.mp hk1).1; simp only [List.length_cons, List.length_nil] at this; omega : k = 0) with rfl
  · cases hk1
    exact ⟨_, ⟨[], ⟨0, 9, 12, 13⟩, [], rfl, (fun y hy => absurd hy List.not_mem_nil), by decide, by decide, wl_481, wm_490, Or.inl ⟨3, dL_run_12, by decide, ⟨1, dL_run_13, by decide, dL_run_14⟩⟩⟩, hk2⟩
theorem dL_undo_0 : decode cL_undo 0 = .ok (.aload_n 1, 1) := by decide +kernel
theorem dL_undo_1 : decode cL_undo 1 = .ok (.iconst 0, 1) := by decide +kernel
theorem dL_undo_2 : decode cL_undo 2 = .ok (.aload_n 0, 1) := by decide +kernel
theorem dL_undo_3 : decode cL_undo 3 = .ok (.invokevirtual 74, 3) := by decide +kernel
theorem dL_undo_6 : decode cL_undo 6 = .ok (.i2l, 1) := by decide +kernel
theorem dL_undo_7 : decode cL_undo 7 = .ok (.lastore, 1) := by decide +kernel
theorem dL_undo_8 : decode cL_undo 8 = .ok (.goto 6, 3) := by decide +kernel
theorem dL_undo_11 : decode cL_undo 11 = .ok (.astore_n 2, 1) := by decide +kernel
theorem dL_undo_12 : decode cL_undo 12 = .ok (.iconst 1, 1) := by decide +kernel
theorem dL_undo_13 : decode cL_undo 13 = .ok (.ireturn, 1) := by decide +kernel
theorem dL_undo_14 : decode cL_undo 14 = .ok (.iconst 0, 1) := by decide +kernel
theorem dL_undo_15 : decode cL_undo 15 = .ok (.ireturn, 1) := by decide +kernel
set_option maxRecDepth 20000 in
set_option maxHeartbeats 4000000 in
theorem lw_undo {l : Launch} (hl : l.stackTraces = false) {w : ab_W} {σ : ab_H} {K : Int32 → ab_H → Prop} (hI : ab_Inj w) (h : lwA w σ c_undo K) : lw_Met l yL_undo (Cond.codeWith yL_undo cL_undo 3 (some .int) [(0, 8, 11, 15)]) 7 w σ [.ref 0, .ref 18] K := by
  obtain ⟨Kn, Kx, hs, hKn, hKx⟩ := lw_sb [x_st] h
  have hM := cb_X9_undo hl hI hs
  refine lw_enter (by decide) hl hI (Nat.le_of_ble_eq_true rfl) (by decide) ?_
  intro p e R s m args' below meth c C hX htab hr
  refine sd_aload_n C (i := 1) dL_undo_0 rfl (sd_iconst C (x := 0) dL_undo_1 (by decide) (sd_aload_n C (i := 0) dL_undo_2 rfl (fun _ _ _ h => h))) _ _ _ (lw_call (n := 0) C hX htab hr (ci := 9) (row := (RX9, TX9, 7)) rfl rfl ⟨by decide, by decide, wl_876, wl_1, by decide +kernel⟩ wl_873 wl_874 wl_875 dL_undo_3 dL_undo_6 dL_undo_7 dL_undo_8 (by decide) ⟨0, dL_undo_14, by decide, dL_undo_15⟩ (As := []) (a := 0) (o := 18) rfl h.1.1 h.2.1 h.2.2.1 hM hKn (fun E σ' hk => ?_))
  obtain ⟨k, hk1, hk2⟩ := hKx E σ' hk
  rcases (by have := (List.getElem?_eq_some_iff.mp hk1).1; simp only [List.length_cons, List.length_nil] at this; omega : k = 0) with rfl
  · cases hk1
    exact ⟨_, ⟨[], ⟨0, 8, 11, 15⟩, [], rfl, (fun y hy => absurd hy List.not_mem_nil), by decide, by decide, wl_482, wm_558, Or.inl ⟨2, dL_undo_11, by decide, ⟨1, dL_undo_12, by decide, dL_undo_13⟩⟩⟩, hk2⟩
theorem dL_save_0 : decode cL_save 0 = .ok (.aload_n 2, 1) := by decide +kernel
theorem dL_save_1 : decode cL_save 1 = .ok (.iconst 0, 1) := by decide +kernel
theorem dL_save_2 : decode cL_save 2 = .ok (.aload_n 0, 1) := by decide +kernel
theorem dL_save_3 : decode cL_save 3 = .ok (.iload_n 1, 1) := by decide +kernel
theorem dL_save_4 : decode cL_save 4 = .ok (.invokevirtual 101, 3) := by decide +kernel
theorem dL_save_7 : decode cL_save 7 = .ok (.i2l, 1) := by decide +kernel
theorem dL_save_8 : decode cL_save 8 = .ok (.lastore, 1) := by decide +kernel
theorem dL_save_9 : decode cL_save 9 = .ok (.goto 6, 3) := by decide +kernel
theorem dL_save_12 : decode cL_save 12 = .ok (.astore_n 3, 1) := by decide +kernel
theorem dL_save_13 : decode cL_save 13 = .ok (.iconst 1, 1) := by decide +kernel
theorem dL_save_14 : decode cL_save 14 = .ok (.ireturn, 1) := by decide +kernel
theorem dL_save_15 : decode cL_save 15 = .ok (.iconst 0, 1) := by decide +kernel
theorem dL_save_16 : decode cL_save 16 = .ok (.ireturn, 1) := by decide +kernel
set_option maxRecDepth 20000 in
set_option maxHeartbeats 4000000 in
theorem lw_save {l : Launch} (hl : l.stackTraces = false) {w : ab_W} {σ : ab_H} {K : Int32 → ab_H → Prop} (hI : ab_Inj w) (z1 : Int32) (h : lwA w σ (c_save z1) K) : lw_Met l yL_save (Cond.codeWith yL_save cL_save 4 (some .int) [(0, 9, 12, 28)]) 8 w σ [.ref 0, .int z1, .ref 18] K := by
  obtain ⟨Kn, Kx, hs, hKn, hKx⟩ := lw_sb [x_ix] h
  have hM := cb_X9_save hl hI z1 hs
  refine lw_enter (by decide) hl hI (Nat.le_of_ble_eq_true rfl) (by decide) ?_
  intro p e R s m args' below meth c C hX htab hr
  refine sd_aload_n C (i := 2) dL_save_0 rfl (sd_iconst C (x := 0) dL_save_1 (by decide) (sd_aload_n C (i := 0) dL_save_2 rfl (sd_iload_n C (i := 1) dL_save_3 rfl (fun _ _ _ h => h)))) _ _ _ (lw_call (n := 1) C hX htab hr (ci := 9) (row := (RX9, TX9, 7)) rfl rfl ⟨by decide, by decide, wl_965, wl_1, by decide +kernel⟩ wl_962 wl_963 wl_964 dL_save_4 dL_save_7 dL_save_8 dL_save_9 (by decide) ⟨0, dL_save_15, by decide, dL_save_16⟩ (As := [.int z1]) (a := 0) (o := 18) rfl h.1.1 h.2.1 h.2.2.1 hM hKn (fun E σ' hk => ?_))
  obtain ⟨k, hk1, hk2⟩ := hKx E σ' hk
  rcases (by have := (List.getElem?_eq_some_iff.mp hk1).1; simp only [List.length_cons, List.length_nil] at this; omega : k = 0) with rfl
  · cases hk1
    exact ⟨_, ⟨[], ⟨0, 9, 12, 28⟩, [], rfl, (fun y hy => absurd hy List.not_mem_nil), by decide, by decide, wl_662, wm_674, Or.inl ⟨3, dL_save_12, by decide, ⟨1, dL_save_13, by decide, dL_save_14⟩⟩⟩, hk2⟩
theorem dL_restore_0 : decode cL_restore 0 = .ok (.aload_n 2, 1) := by decide +kernel
theorem dL_restore_1 : decode cL_restore 1 = .ok (.iconst 0, 1) := by decide +kernel
theorem dL_restore_2 : decode cL_restore 2 = .ok (.aload_n 0, 1) := by decide +kernel
theorem dL_restore_3 : decode cL_restore 3 = .ok (.iload_n 1, 1) := by decide +kernel
theorem dL_restore_4 : decode cL_restore 4 = .ok (.invokevirtual 104, 3) := by decide +kernel
theorem dL_restore_7 : decode cL_restore 7 = .ok (.i2l, 1) := by decide +kernel
theorem dL_restore_8 : decode cL_restore 8 = .ok (.lastore, 1) := by decide +kernel
theorem dL_restore_9 : decode cL_restore 9 = .ok (.goto 9, 3) := by decide +kernel
theorem dL_restore_12 : decode cL_restore 12 = .ok (.astore_n 3, 1) := by decide +kernel
theorem dL_restore_13 : decode cL_restore 13 = .ok (.iconst 1, 1) := by decide +kernel
theorem dL_restore_14 : decode cL_restore 14 = .ok (.ireturn, 1) := by decide +kernel
theorem dL_restore_15 : decode cL_restore 15 = .ok (.astore_n 3, 1) := by decide +kernel
theorem dL_restore_16 : decode cL_restore 16 = .ok (.iconst 2, 1) := by decide +kernel
theorem dL_restore_17 : decode cL_restore 17 = .ok (.ireturn, 1) := by decide +kernel
theorem dL_restore_18 : decode cL_restore 18 = .ok (.iconst 0, 1) := by decide +kernel
theorem dL_restore_19 : decode cL_restore 19 = .ok (.ireturn, 1) := by decide +kernel
set_option maxRecDepth 20000 in
set_option maxHeartbeats 4000000 in
theorem lw_restore {l : Launch} (hl : l.stackTraces = false) {w : ab_W} {σ : ab_H} {K : Int32 → ab_H → Prop} (hI : ab_Inj w) (z1 : Int32) (h : lwA w σ (c_restore z1) K) : lw_Met l yL_restore (Cond.codeWith yL_restore cL_restore 4 (some .int) [(0, 9, 12, 28), (0, 9, 15, 15)]) 8 w σ [.ref 0, .int z1, .ref 18] K := by
  obtain ⟨Kn, Kx, hs, hKn, hKx⟩ := lw_sb [x_ix, x_st] h
  have hM := cb_X9_restore hl hI z1 hs
  refine lw_enter (by decide) hl hI (Nat.le_of_ble_eq_true rfl) (by decide) ?_
  intro p e R s m args' below meth c C hX htab hr
  refine sd_aload_n C (i := 2) dL_restore_0 rfl (sd_iconst C (x := 0) dL_restore_1 (by decide) (sd_aload_n C (i := 0) dL_restore_2 rfl (sd_iload_n C (i := 1) dL_restore_3 rfl (fun _ _ _ h => h)))) _ _ _ (lw_call (n := 1) C hX htab hr (ci := 9) (row := (RX9, TX9, 7)) rfl rfl ⟨by decide, by decide, wl_977, wl_1, by decide +kernel⟩ wl_974 wl_975 wl_976 dL_restore_4 dL_restore_7 dL_restore_8 dL_restore_9 (by decide) ⟨0, dL_restore_18, by decide, dL_restore_19⟩ (As := [.int z1]) (a := 0) (o := 18) rfl h.1.1 h.2.1 h.2.2.1 hM hKn (fun E σ' hk => ?_))
  obtain ⟨k, hk1, hk2⟩ := hKx E σ' hk
  rcases (by have := (List.getElem?_eq_some_iff.mp hk1).1; simp only [List.length_cons, List.length_nil] at this; omega : k = 0 ∨ k = 1) with rfl | rfl
  · cases hk1
    exact ⟨_, ⟨[], ⟨0, 9, 12, 28⟩, [⟨0, 9, 15, 15⟩], rfl, (fun y hy => absurd hy List.not_mem_nil), by decide, by decide, wl_662, wm_674, Or.inl ⟨3, dL_restore_12, by decide, ⟨1, dL_restore_13, by decide, dL_restore_14⟩⟩⟩, hk2⟩
  · cases hk1
    exact ⟨_, ⟨[⟨0, 9, 12, 28⟩], ⟨0, 9, 15, 15⟩, [], rfl, (fun y hy => by obtain rfl := List.mem_singleton.mp hy; exact ⟨by decide, _, wl_662, fun U h => h.2.2.2⟩), by decide, by decide, wl_482, wm_558, Or.inl ⟨3, dL_restore_15, by decide, ⟨2, dL_restore_16, by decide, dL_restore_17⟩⟩⟩, hk2⟩
theorem dL_ifDelivered_0 : decode cL_ifDelivered 0 = .ok (.aload 5, 2) := by decide +kernel
theorem dL_ifDelivered_2 : decode cL_ifDelivered 2 = .ok (.iconst 0, 1) := by decide +kernel
theorem dL_ifDelivered_3 : decode cL_ifDelivered 3 = .ok (.aload_n 0, 1) := by decide +kernel
theorem dL_ifDelivered_4 : decode cL_ifDelivered 4 = .ok (.iload_n 1, 1) := by decide +kernel
theorem dL_ifDelivered_5 : decode cL_ifDelivered 5 = .ok (.iload_n 2, 1) := by decide +kernel
theorem dL_ifDelivered_6 : decode cL_ifDelivered 6 = .ok (.iload_n 3, 1) := by decide +kernel
theorem dL_ifDelivered_7 : decode cL_ifDelivered 7 = .ok (.iload 4, 2) := by decide +kernel
theorem dL_ifDelivered_9 : decode cL_ifDelivered 9 = .ok (.invokevirtual 89, 3) := by decide +kernel
theorem dL_ifDelivered_12 : decode cL_ifDelivered 12 = .ok (.i2l, 1) := by decide +kernel
theorem dL_ifDelivered_13 : decode cL_ifDelivered 13 = .ok (.lastore, 1) := by decide +kernel
theorem dL_ifDelivered_14 : decode cL_ifDelivered 14 = .ok (.goto 15, 3) := by decide +kernel
theorem dL_ifDelivered_17 : decode cL_ifDelivered 17 = .ok (.astore 6, 2) := by decide +kernel
theorem dL_ifDelivered_19 : decode cL_ifDelivered 19 = .ok (.iconst 1, 1) := by decide +kernel
theorem dL_ifDelivered_20 : decode cL_ifDelivered 20 = .ok (.ireturn, 1) := by decide +kernel
theorem dL_ifDelivered_21 : decode cL_ifDelivered 21 = .ok (.astore 6, 2) := by decide +kernel
theorem dL_ifDelivered_23 : decode cL_ifDelivered 23 = .ok (.iconst 2, 1) := by decide +kernel
theorem dL_ifDelivered_24 : decode cL_ifDelivered 24 = .ok (.ireturn, 1) := by decide +kernel
theorem dL_ifDelivered_25 : decode cL_ifDelivered 25 = .ok (.astore 6, 2) := by decide +kernel
theorem dL_ifDelivered_27 : decode cL_ifDelivered 27 = .ok (.iconst 3, 1) := by decide +kernel
theorem dL_ifDelivered_28 : decode cL_ifDelivered 28 = .ok (.ireturn, 1) := by decide +kernel
theorem dL_ifDelivered_29 : decode cL_ifDelivered 29 = .ok (.iconst 0, 1) := by decide +kernel
theorem dL_ifDelivered_30 : decode cL_ifDelivered 30 = .ok (.ireturn, 1) := by decide +kernel
set_option maxRecDepth 20000 in
set_option maxHeartbeats 4000000 in
theorem lw_ifDelivered {l : Launch} (hl : l.stackTraces = false) {w : ab_W} {σ : ab_H} {K : Int32 → ab_H → Prop} (hI : ab_Inj w) (z1 : Int32) (z2 : Int32) (z3 : Int32) (z4 : Int32) (h : lwA w σ (c_ifDelivered z1 z2 z3 z4) K) : lw_Met l yL_ifDelivered (Cond.codeWith yL_ifDelivered cL_ifDelivered 7 (some .int) [(0, 14, 17, 28), (0, 14, 21, 13), (0, 14, 25, 15)]) 8 w σ [.ref 0, .int z1, .int z2, .int z3, .int z4, .ref 18] K := by
  obtain ⟨Kn, Kx, hs, hKn, hKx⟩ := lw_sb [x_ix, x_ar, x_st] h
  have hM := cb_X9_ifDelivered hl hI z1 z2 z3 z4 hs
  refine lw_enter (by decide) hl hI (Nat.le_of_ble_eq_true rfl) (by decide) ?_
  intro p e R s m args' below meth c C hX htab hr
  refine sd_aload C (i := 5) dL_ifDelivered_0 (sd_iconst C (x := 0) dL_ifDelivered_2 (by decide) (sd_aload_n C (i := 0) dL_ifDelivered_3 rfl (sd_iload_n C (i := 1) dL_ifDelivered_4 rfl (sd_iload_n C (i := 2) dL_ifDelivered_5 rfl (sd_iload_n C (i := 3) dL_ifDelivered_6 rfl (sd_iload C (i := 4) dL_ifDelivered_7 (fun _ _ _ h => h))))))) _ _ _ (lw_call (n := 4) C hX htab hr (ci := 9) (row := (RX9, TX9, 7)) rfl rfl ⟨by decide, by decide, wl_923, wl_1, by decide +kernel⟩ wl_920 wl_921 wl_922 dL_ifDelivered_9 dL_ifDelivered_12 dL_ifDelivered_13 dL_ifDelivered_14 (by decide) ⟨0, dL_ifDelivered_29, by decide, dL_ifDelivered_30⟩ (As := [.int z1, .int z2, .int z3, .int z4]) (a := 0) (o := 18) rfl h.1.1 h.2.1 h.2.2.1 hM hKn (fun E σ' hk => ?_))
  obtain ⟨k, hk1, hk2⟩ := hKx E σ' hk
  rcases (by have := (List.getElem?_eq_some_iff.mp hk1).1; simp only [List.length_cons, List.length_nil] at this; omega : k = 0 ∨ k = 1 ∨ k = 2) with rfl | rfl | rfl
  · cases hk1
    exact ⟨_, ⟨[], ⟨0, 14, 17, 28⟩, [⟨0, 14, 21, 13⟩, ⟨0, 14, 25, 15⟩], rfl, (fun y hy => absurd hy List.not_mem_nil), by decide, by decide, wl_662, wm_674, Or.inr ⟨6, dL_ifDelivered_17, by decide, ⟨1, dL_ifDelivered_19, by decide, dL_ifDelivered_20⟩⟩⟩, hk2⟩
  · cases hk1
    exact ⟨_, ⟨[⟨0, 14, 17, 28⟩], ⟨0, 14, 21, 13⟩, [⟨0, 14, 25, 15⟩], rfl, (fun y hy => by obtain rfl := List.mem_singleton.mp hy; exact ⟨by decide, _, wl_662, fun U h => h.2.1⟩), by decide, by decide, wl_481, wm_490, Or.inr ⟨6, dL_ifDelivered_21, by decide, ⟨2, dL_ifDelivered_23, by decide, dL_ifDelivered_24⟩⟩⟩, hk2⟩
  · cases hk1
    exact ⟨_, ⟨[⟨0, 14, 17, 28⟩, ⟨0, 14, 21, 13⟩], ⟨0, 14, 25, 15⟩, [], rfl, (fun y hy => by
      rcases List.mem_cons.mp hy with rfl | hy
      · exact ⟨by decide, _, wl_662, fun U h => h.2.2.2⟩
      · obtain rfl := List.mem_singleton.mp hy; exact ⟨by decide, _, wl_481, fun U h => h.2.2.1⟩), by decide, by decide, wl_482, wm_558, Or.inr ⟨6, dL_ifDelivered_25, by decide, ⟨3, dL_ifDelivered_27, by decide, dL_ifDelivered_28⟩⟩⟩, hk2⟩
theorem dL_load_0 : decode cL_load 0 = .ok (.aload_n 1, 1) := by decide +kernel
theorem dL_load_1 : decode cL_load 1 = .ok (.iconst 0, 1) := by decide +kernel
theorem dL_load_2 : decode cL_load 2 = .ok (.aload_n 0, 1) := by decide +kernel
theorem dL_load_3 : decode cL_load 3 = .ok (.invokevirtual 17, 3) := by decide +kernel
theorem dL_load_6 : decode cL_load 6 = .ok (.i2l, 1) := by decide +kernel
theorem dL_load_7 : decode cL_load 7 = .ok (.lastore, 1) := by decide +kernel
theorem dL_load_8 : decode cL_load 8 = .ok (.goto 6, 3) := by decide +kernel
theorem dL_load_11 : decode cL_load 11 = .ok (.astore_n 2, 1) := by decide +kernel
theorem dL_load_12 : decode cL_load 12 = .ok (.iconst 1, 1) := by decide +kernel
theorem dL_load_13 : decode cL_load 13 = .ok (.ireturn, 1) := by decide +kernel
theorem dL_load_14 : decode cL_load 14 = .ok (.iconst 0, 1) := by decide +kernel
theorem dL_load_15 : decode cL_load 15 = .ok (.ireturn, 1) := by decide +kernel
set_option maxRecDepth 20000 in
set_option maxHeartbeats 4000000 in
theorem lw_load {l : Launch} (hl : l.stackTraces = false) {w : ab_W} {σ : ab_H} {K : Int32 → ab_H → Prop} (hI : ab_Inj w) (h : lwA w σ c_load K) : lw_Met l yL_load (Cond.codeWith yL_load cL_load 3 (some .int) [(0, 8, 11, 15)]) 8 w σ [.ref 0, .ref 18] K := by
  obtain ⟨Kn, Kx, hs, hKn, hKx⟩ := lw_sb [x_st] h
  have hM := cb_X9_load hl hI hs
  refine lw_enter (by decide) hl hI (Nat.le_of_ble_eq_true rfl) (by decide) ?_
  intro p e R s m args' below meth c C hX htab hr
  refine sd_aload_n C (i := 1) dL_load_0 rfl (sd_iconst C (x := 0) dL_load_1 (by decide) (sd_aload_n C (i := 0) dL_load_2 rfl (fun _ _ _ h => h))) _ _ _ (lw_call (n := 0) C hX htab hr (ci := 9) (row := (RX9, TX9, 7)) rfl rfl ⟨by decide, by decide, wl_582, wl_1, by decide +kernel⟩ wl_579 wl_580 wl_581 dL_load_3 dL_load_6 dL_load_7 dL_load_8 (by decide) ⟨0, dL_load_14, by decide, dL_load_15⟩ (As := []) (a := 0) (o := 18) rfl h.1.1 h.2.1 h.2.2.1 hM hKn (fun E σ' hk => ?_))
  obtain ⟨k, hk1, hk2⟩ := hKx E σ' hk
  rcases (by have := (List.getElem?_eq_some_iff.mp hk1).1; simp only [List.length_cons, List.length_nil] at this; omega : k = 0) with rfl
  · cases hk1
    exact ⟨_, ⟨[], ⟨0, 8, 11, 15⟩, [], rfl, (fun y hy => absurd hy List.not_mem_nil), by decide, by decide, wl_482, wm_558, Or.inl ⟨2, dL_load_11, by decide, ⟨1, dL_load_12, by decide, dL_load_13⟩⟩⟩, hk2⟩
theorem dL_lacks_0 : decode cL_lacks 0 = .ok (.aload_n 3, 1) := by decide +kernel
theorem dL_lacks_1 : decode cL_lacks 1 = .ok (.iconst 0, 1) := by decide +kernel
theorem dL_lacks_2 : decode cL_lacks 2 = .ok (.aload_n 0, 1) := by decide +kernel
theorem dL_lacks_3 : decode cL_lacks 3 = .ok (.iload_n 1, 1) := by decide +kernel
theorem dL_lacks_4 : decode cL_lacks 4 = .ok (.iload_n 2, 1) := by decide +kernel
theorem dL_lacks_5 : decode cL_lacks 5 = .ok (.invokevirtual 86, 3) := by decide +kernel
theorem dL_lacks_8 : decode cL_lacks 8 = .ok (.i2l, 1) := by decide +kernel
theorem dL_lacks_9 : decode cL_lacks 9 = .ok (.lastore, 1) := by decide +kernel
theorem dL_lacks_10 : decode cL_lacks 10 = .ok (.goto 11, 3) := by decide +kernel
theorem dL_lacks_13 : decode cL_lacks 13 = .ok (.astore 4, 2) := by decide +kernel
theorem dL_lacks_15 : decode cL_lacks 15 = .ok (.iconst 1, 1) := by decide +kernel
theorem dL_lacks_16 : decode cL_lacks 16 = .ok (.ireturn, 1) := by decide +kernel
theorem dL_lacks_17 : decode cL_lacks 17 = .ok (.astore 4, 2) := by decide +kernel
theorem dL_lacks_19 : decode cL_lacks 19 = .ok (.iconst 2, 1) := by decide +kernel
theorem dL_lacks_20 : decode cL_lacks 20 = .ok (.ireturn, 1) := by decide +kernel
theorem dL_lacks_21 : decode cL_lacks 21 = .ok (.iconst 0, 1) := by decide +kernel
theorem dL_lacks_22 : decode cL_lacks 22 = .ok (.ireturn, 1) := by decide +kernel
set_option maxRecDepth 20000 in
set_option maxHeartbeats 4000000 in
theorem lw_lacks {l : Launch} (hl : l.stackTraces = false) {w : ab_W} {σ : ab_H} {K : Int32 → ab_H → Prop} (hI : ab_Inj w) (z1 : Int32) (z2 : Int32) (h : lwA w σ (c_lacks z1 z2) K) : lw_Met l yL_lacks (Cond.codeWith yL_lacks cL_lacks 5 (some .int) [(0, 10, 13, 28), (0, 10, 17, 13)]) 8 w σ [.ref 0, .int z1, .int z2, .ref 18] K := by
  obtain ⟨Kn, Kx, hs, hKn, hKx⟩ := lw_sb [x_ix, x_ar] h
  have hM := cb_X9_lacks hl hI z1 z2 hs
  refine lw_enter (by decide) hl hI (Nat.le_of_ble_eq_true rfl) (by decide) ?_
  intro p e R s m args' below meth c C hX htab hr
  refine sd_aload_n C (i := 3) dL_lacks_0 rfl (sd_iconst C (x := 0) dL_lacks_1 (by decide) (sd_aload_n C (i := 0) dL_lacks_2 rfl (sd_iload_n C (i := 1) dL_lacks_3 rfl (sd_iload_n C (i := 2) dL_lacks_4 rfl (fun _ _ _ h => h))))) _ _ _ (lw_call (n := 2) C hX htab hr (ci := 9) (row := (RX9, TX9, 7)) rfl rfl ⟨by decide, by decide, wl_911, wl_1, by decide +kernel⟩ wl_908 wl_909 wl_910 dL_lacks_5 dL_lacks_8 dL_lacks_9 dL_lacks_10 (by decide) ⟨0, dL_lacks_21, by decide, dL_lacks_22⟩ (As := [.int z1, .int z2]) (a := 0) (o := 18) rfl h.1.1 h.2.1 h.2.2.1 hM hKn (fun E σ' hk => ?_))
  obtain ⟨k, hk1, hk2⟩ := hKx E σ' hk
  rcases (by have := (List.getElem?_eq_some_iff.mp hk1).1; simp only [List.length_cons, List.length_nil] at this; omega : k = 0 ∨ k = 1) with rfl | rfl
  · cases hk1
    exact ⟨_, ⟨[], ⟨0, 10, 13, 28⟩, [⟨0, 10, 17, 13⟩], rfl, (fun y hy => absurd hy List.not_mem_nil), by decide, by decide, wl_662, wm_674, Or.inr ⟨4, dL_lacks_13, by decide, ⟨1, dL_lacks_15, by decide, dL_lacks_16⟩⟩⟩, hk2⟩
  · cases hk1
    exact ⟨_, ⟨[⟨0, 10, 13, 28⟩], ⟨0, 10, 17, 13⟩, [], rfl, (fun y hy => by obtain rfl := List.mem_singleton.mp hy; exact ⟨by decide, _, wl_662, fun U h => h.2.1⟩), by decide, by decide, wl_481, wm_490, Or.inr ⟨4, dL_lacks_17, by decide, ⟨2, dL_lacks_19, by decide, dL_lacks_20⟩⟩⟩, hk2⟩
theorem dL_simulate_0 : decode cL_simulate 0 = .ok (.aload 4, 2) := by decide +kernel
theorem dL_simulate_2 : decode cL_simulate 2 = .ok (.iconst 0, 1) := by decide +kernel
theorem dL_simulate_3 : decode cL_simulate 3 = .ok (.aload_n 0, 1) := by decide +kernel
theorem dL_simulate_4 : decode cL_simulate 4 = .ok (.lload_n 1, 1) := by decide +kernel
theorem dL_simulate_5 : decode cL_simulate 5 = .ok (.iload_n 3, 1) := by decide +kernel
theorem dL_simulate_6 : decode cL_simulate 6 = .ok (.invokevirtual 97, 3) := by decide +kernel
theorem dL_simulate_9 : decode cL_simulate 9 = .ok (.i2l, 1) := by decide +kernel
theorem dL_simulate_10 : decode cL_simulate 10 = .ok (.lastore, 1) := by decide +kernel
theorem dL_simulate_11 : decode cL_simulate 11 = .ok (.goto 7, 3) := by decide +kernel
theorem dL_simulate_14 : decode cL_simulate 14 = .ok (.astore 5, 2) := by decide +kernel
theorem dL_simulate_16 : decode cL_simulate 16 = .ok (.iconst 1, 1) := by decide +kernel
theorem dL_simulate_17 : decode cL_simulate 17 = .ok (.ireturn, 1) := by decide +kernel
theorem dL_simulate_18 : decode cL_simulate 18 = .ok (.iconst 0, 1) := by decide +kernel
theorem dL_simulate_19 : decode cL_simulate 19 = .ok (.ireturn, 1) := by decide +kernel
set_option maxRecDepth 20000 in
set_option maxHeartbeats 4000000 in
theorem lw_simulate {l : Launch} (hl : l.stackTraces = false) {w : ab_W} {σ : ab_H} {K : Int32 → ab_H → Prop} (hI : ab_Inj w) (z1 : Int64) (z2 : Int32) (h : lwA w σ (c_simulate z1 z2) K) : lw_Met l yL_simulate (Cond.codeWith yL_simulate cL_simulate 6 (some .int) [(0, 11, 14, 13)]) 8 w σ [.ref 0, .long z1, .int z2, .ref 18] K := by
  obtain ⟨Kn, Kx, hs, hKn, hKx⟩ := lw_sb [x_ar] h
  have hM := cb_X9_simulate hl hI z1 z2 hs
  refine lw_enter (by decide) hl hI (Nat.le_of_ble_eq_true rfl) (by decide) ?_
  intro p e R s m args' below meth c C hX htab hr
  refine sd_aload C (i := 4) dL_simulate_0 (sd_iconst C (x := 0) dL_simulate_2 (by decide) (sd_aload_n C (i := 0) dL_simulate_3 rfl (sd_lload_n C (i := 1) dL_simulate_4 rfl (sd_iload_n C (i := 3) dL_simulate_5 rfl (fun _ _ _ h => h))))) _ _ _ (lw_call (n := 2) C hX htab hr (ci := 9) (row := (RX9, TX9, 7)) rfl rfl ⟨by decide, by decide, wl_952, wl_1, by decide +kernel⟩ wl_949 wl_950 wl_951 dL_simulate_6 dL_simulate_9 dL_simulate_10 dL_simulate_11 (by decide) ⟨0, dL_simulate_18, by decide, dL_simulate_19⟩ (As := [.long z1, .int z2]) (a := 0) (o := 18) rfl h.1.1 h.2.1 h.2.2.1 hM hKn (fun E σ' hk => ?_))
  obtain ⟨k, hk1, hk2⟩ := hKx E σ' hk
  rcases (by have := (List.getElem?_eq_some_iff.mp hk1).1; simp only [List.length_cons, List.length_nil] at this; omega : k = 0) with rfl
  · cases hk1
    exact ⟨_, ⟨[], ⟨0, 11, 14, 13⟩, [], rfl, (fun y hy => absurd hy List.not_mem_nil), by decide, by decide, wl_481, wm_490, Or.inr ⟨5, dL_simulate_14, by decide, ⟨1, dL_simulate_16, by decide, dL_simulate_17⟩⟩⟩, hk2⟩
theorem dL_runScript_0 : decode cL_runScript 0 = .ok (.aload 4, 2) := by decide +kernel
theorem dL_runScript_2 : decode cL_runScript 2 = .ok (.iconst 0, 1) := by decide +kernel
theorem dL_runScript_3 : decode cL_runScript 3 = .ok (.aload_n 0, 1) := by decide +kernel
theorem dL_runScript_4 : decode cL_runScript 4 = .ok (.iload_n 1, 1) := by decide +kernel
theorem dL_runScript_5 : decode cL_runScript 5 = .ok (.lload_n 2, 1) := by decide +kernel
theorem dL_runScript_6 : decode cL_runScript 6 = .ok (.invokevirtual 93, 3) := by decide +kernel
theorem dL_runScript_9 : decode cL_runScript 9 = .ok (.i2l, 1) := by decide +kernel
theorem dL_runScript_10 : decode cL_runScript 10 = .ok (.lastore, 1) := by decide +kernel
theorem dL_runScript_11 : decode cL_runScript 11 = .ok (.goto 7, 3) := by decide +kernel
theorem dL_runScript_14 : decode cL_runScript 14 = .ok (.astore 5, 2) := by decide +kernel
theorem dL_runScript_16 : decode cL_runScript 16 = .ok (.iconst 1, 1) := by decide +kernel
theorem dL_runScript_17 : decode cL_runScript 17 = .ok (.ireturn, 1) := by decide +kernel
theorem dL_runScript_18 : decode cL_runScript 18 = .ok (.iconst 0, 1) := by decide +kernel
theorem dL_runScript_19 : decode cL_runScript 19 = .ok (.ireturn, 1) := by decide +kernel
set_option maxRecDepth 20000 in
set_option maxHeartbeats 4000000 in
theorem lw_runScript {l : Launch} (hl : l.stackTraces = false) {w : ab_W} {σ : ab_H} {K : Int32 → ab_H → Prop} (hI : ab_Inj w) (z1 : Int32) (z2 : Int64) (h : lwA w σ (c_runScript z1 z2) K) : lw_Met l yL_runScript (Cond.codeWith yL_runScript cL_runScript 6 (some .int) [(0, 11, 14, 13)]) 8 w σ [.ref 0, .int z1, .long z2, .ref 18] K := by
  obtain ⟨Kn, Kx, hs, hKn, hKx⟩ := lw_sb [x_ar] h
  have hM := cb_X9_runScript hl hI z1 z2 hs
  refine lw_enter (by decide) hl hI (Nat.le_of_ble_eq_true rfl) (by decide) ?_
  intro p e R s m args' below meth c C hX htab hr
  refine sd_aload C (i := 4) dL_runScript_0 (sd_iconst C (x := 0) dL_runScript_2 (by decide) (sd_aload_n C (i := 0) dL_runScript_3 rfl (sd_iload_n C (i := 1) dL_runScript_4 rfl (sd_lload_n C (i := 2) dL_runScript_5 rfl (fun _ _ _ h => h))))) _ _ _ (lw_call (n := 2) C hX htab hr (ci := 9) (row := (RX9, TX9, 7)) rfl rfl ⟨by decide, by decide, wl_930, wl_1, by decide +kernel⟩ wl_927 wl_928 wl_929 dL_runScript_6 dL_runScript_9 dL_runScript_10 dL_runScript_11 (by decide) ⟨0, dL_runScript_18, by decide, dL_runScript_19⟩ (As := [.int z1, .long z2]) (a := 0) (o := 18) rfl h.1.1 h.2.1 h.2.2.1 hM hKn (fun E σ' hk => ?_))
  obtain ⟨k, hk1, hk2⟩ := hKx E σ' hk
  rcases (by have := (List.getElem?_eq_some_iff.mp hk1).1; simp only [List.length_cons, List.length_nil] at this; omega : k = 0) with rfl
  · cases hk1
    exact ⟨_, ⟨[], ⟨0, 11, 14, 13⟩, [], rfl, (fun y hy => absurd hy List.not_mem_nil), by decide, by decide, wl_481, wm_490, Or.inr ⟨5, dL_runScript_14, by decide, ⟨1, dL_runScript_16, by decide, dL_runScript_17⟩⟩⟩, hk2⟩
theorem dL_append_0 : decode cL_append 0 = .ok (.aload_n 2, 1) := by decide +kernel
theorem dL_append_1 : decode cL_append 1 = .ok (.iconst 0, 1) := by decide +kernel
theorem dL_append_2 : decode cL_append 2 = .ok (.aload_n 0, 1) := by decide +kernel
theorem dL_append_3 : decode cL_append 3 = .ok (.iload_n 1, 1) := by decide +kernel
theorem dL_append_4 : decode cL_append 4 = .ok (.invokevirtual 7, 3) := by decide +kernel
theorem dL_append_7 : decode cL_append 7 = .ok (.i2l, 1) := by decide +kernel
theorem dL_append_8 : decode cL_append 8 = .ok (.lastore, 1) := by decide +kernel
theorem dL_append_9 : decode cL_append 9 = .ok (.goto 9, 3) := by decide +kernel
theorem dL_append_12 : decode cL_append 12 = .ok (.astore_n 3, 1) := by decide +kernel
theorem dL_append_13 : decode cL_append 13 = .ok (.iconst 1, 1) := by decide +kernel
theorem dL_append_14 : decode cL_append 14 = .ok (.ireturn, 1) := by decide +kernel
theorem dL_append_15 : decode cL_append 15 = .ok (.astore_n 3, 1) := by decide +kernel
theorem dL_append_16 : decode cL_append 16 = .ok (.iconst 2, 1) := by decide +kernel
theorem dL_append_17 : decode cL_append 17 = .ok (.ireturn, 1) := by decide +kernel
theorem dL_append_18 : decode cL_append 18 = .ok (.iconst 0, 1) := by decide +kernel
theorem dL_append_19 : decode cL_append 19 = .ok (.ireturn, 1) := by decide +kernel
set_option maxRecDepth 20000 in
set_option maxHeartbeats 4000000 in
theorem lw_append {l : Launch} (hl : l.stackTraces = false) {w : ab_W} {σ : ab_H} {K : Int32 → ab_H → Prop} (hI : ab_Inj w) (z1 : Int32) (h : lwA w σ (c_append z1) K) : lw_Met l yL_append (Cond.codeWith yL_append cL_append 4 (some .int) [(0, 9, 12, 13), (0, 9, 15, 15)]) 7 w σ [.ref 0, .int z1, .ref 18] K := by
  obtain ⟨Kn, Kx, hs, hKn, hKx⟩ := lw_sb [x_ar, x_st] h
  have hM := cb_X9_append hl hI z1 hs
  refine lw_enter (by decide) hl hI (Nat.le_of_ble_eq_true rfl) (by decide) ?_
  intro p e R s m args' below meth c C hX htab hr
  refine sd_aload_n C (i := 2) dL_append_0 rfl (sd_iconst C (x := 0) dL_append_1 (by decide) (sd_aload_n C (i := 0) dL_append_2 rfl (sd_iload_n C (i := 1) dL_append_3 rfl (fun _ _ _ h => h)))) _ _ _ (lw_call (n := 1) C hX htab hr (ci := 9) (row := (RX9, TX9, 7)) rfl rfl ⟨by decide, by decide, wl_486, wl_1, by decide +kernel⟩ wl_483 wl_484 wl_485 dL_append_4 dL_append_7 dL_append_8 dL_append_9 (by decide) ⟨0, dL_append_18, by decide, dL_append_19⟩ (As := [.int z1]) (a := 0) (o := 18) rfl h.1.1 h.2.1 h.2.2.1 hM hKn (fun E σ' hk => ?_))
  obtain ⟨k, hk1, hk2⟩ := hKx E σ' hk
  rcases (by have := (List.getElem?_eq_some_iff.mp hk1).1; simp only [List.length_cons, List.length_nil] at this; omega : k = 0 ∨ k = 1) with rfl | rfl
  · cases hk1
    exact ⟨_, ⟨[], ⟨0, 9, 12, 13⟩, [⟨0, 9, 15, 15⟩], rfl, (fun y hy => absurd hy List.not_mem_nil), by decide, by decide, wl_481, wm_490, Or.inl ⟨3, dL_append_12, by decide, ⟨1, dL_append_13, by decide, dL_append_14⟩⟩⟩, hk2⟩
  · cases hk1
    exact ⟨_, ⟨[⟨0, 9, 12, 13⟩], ⟨0, 9, 15, 15⟩, [], rfl, (fun y hy => by obtain rfl := List.mem_singleton.mp hy; exact ⟨by decide, _, wl_481, fun U h => h.2.2.1⟩), by decide, by decide, wl_482, wm_558, Or.inl ⟨3, dL_append_15, by decide, ⟨2, dL_append_16, by decide, dL_append_17⟩⟩⟩, hk2⟩
