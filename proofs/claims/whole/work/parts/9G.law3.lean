theorem wq_0 : Cond.initialized RL ∈ ab_T := ab_in 0 (by decide +kernel) rfl
theorem wq_1 : Cond.initialized yX9_firstGap.cls ∈ ab_T := ab_in 1 (by decide +kernel) rfl
theorem wq_11 : Cond.initialized RX10 ∈ ab_T := ab_in 11 (by decide +kernel) rfl
theorem wq_315 : Cond.methodLink RL 120 yX9_clearText ∈ ab_T := ab_in 315 (by decide +kernel) rfl
theorem wq_316 : Cond.instanceMethod yX9_clearText ∈ ab_T := ab_in 316 (by decide +kernel) rfl
theorem wq_317 : Cond.selects yX9_clearText.cls yX9_clearText yX9_clearText ∈ ab_T := ab_in 317 (by decide +kernel) rfl
theorem wq_318 : Cond.code yX9_clearText cX9_clearText 2 (some .int) ∈ ab_T := ab_in 318 (by decide +kernel) rfl
theorem wq_319 : Cond.methodLink RL 124 yX9_errorPosition ∈ ab_T := ab_in 319 (by decide +kernel) rfl
theorem wq_320 : Cond.instanceMethod yX9_errorPosition ∈ ab_T := ab_in 320 (by decide +kernel) rfl
theorem wq_321 : Cond.selects yX9_errorPosition.cls yX9_errorPosition yX9_errorPosition ∈ ab_T := ab_in 321 (by decide +kernel) rfl
theorem wq_322 : Cond.code yX9_errorPosition cX9_errorPosition 1 (some .int) ∈ ab_T := ab_in 322 (by decide +kernel) rfl
theorem wq_347 : Cond.methodLink RL 195 yX9_firstGap ∈ ab_T := ab_in 347 (by decide +kernel) rfl
theorem wq_348 : Cond.instanceMethod yX9_firstGap ∈ ab_T := ab_in 348 (by decide +kernel) rfl
theorem wq_349 : Cond.selects yX9_firstGap.cls yX9_firstGap yX9_firstGap ∈ ab_T := ab_in 349 (by decide +kernel) rfl
theorem wq_350 : Cond.code yX9_firstGap cX9_firstGap 2 (some .int) ∈ ab_T := ab_in 350 (by decide +kernel) rfl
theorem wq_478 : Cond.methodLink RL 111 yL_append ∈ ab_T := ab_in 478 (by decide +kernel) rfl
theorem wq_479 : Cond.static yL_append ∈ ab_T := ab_in 479 (by decide +kernel) rfl
theorem wq_480 : Cond.codeWith yL_append cL_append 4 (some .int) [(0, 9, 12, 13), (0, 9, 15, 15)] ∈ ab_T := ab_in 480 (by decide +kernel) rfl
theorem wq_576 : Cond.methodLink RL 128 yL_load ∈ ab_T := ab_in 576 (by decide +kernel) rfl
theorem wq_577 : Cond.static yL_load ∈ ab_T := ab_in 577 (by decide +kernel) rfl
theorem wq_578 : Cond.codeWith yL_load cL_load 3 (some .int) [(0, 8, 11, 15)] ∈ ab_T := ab_in 578 (by decide +kernel) rfl
theorem wq_643 : Cond.methodLink RL 132 yL_about ∈ ab_T := ab_in 643 (by decide +kernel) rfl
theorem wq_644 : Cond.static yL_about ∈ ab_T := ab_in 644 (by decide +kernel) rfl
theorem wq_645 : Cond.codeWith yL_about cL_about 4 (some .int) [(0, 9, 12, 13)] ∈ ab_T := ab_in 645 (by decide +kernel) rfl
theorem wq_659 : Cond.methodLink RL 135 yL_station ∈ ab_T := ab_in 659 (by decide +kernel) rfl
theorem wq_660 : Cond.static yL_station ∈ ab_T := ab_in 660 (by decide +kernel) rfl
theorem wq_661 : Cond.codeWith yL_station cL_station 5 (some .int) [(0, 10, 13, 28), (0, 10, 17, 13)] ∈ ab_T := ab_in 661 (by decide +kernel) rfl
theorem wq_696 : Cond.methodLink RL 139 yL_stock ∈ ab_T := ab_in 696 (by decide +kernel) rfl
theorem wq_697 : Cond.static yL_stock ∈ ab_T := ab_in 697 (by decide +kernel) rfl
theorem wq_698 : Cond.codeWith yL_stock cL_stock 5 (some .int) [(0, 10, 13, 28), (0, 10, 17, 13)] ∈ ab_T := ab_in 698 (by decide +kernel) rfl
theorem wq_711 : Cond.methodLink RL 142 yL_finder ∈ ab_T := ab_in 711 (by decide +kernel) rfl
theorem wq_712 : Cond.static yL_finder ∈ ab_T := ab_in 712 (by decide +kernel) rfl
theorem wq_713 : Cond.codeWith yL_finder cL_finder 5 (some .int) [(0, 10, 13, 28), (0, 10, 17, 13)] ∈ ab_T := ab_in 713 (by decide +kernel) rfl
theorem wq_725 : Cond.methodLink RL 145 yL_back ∈ ab_T := ab_in 725 (by decide +kernel) rfl
theorem wq_726 : Cond.static yL_back ∈ ab_T := ab_in 726 (by decide +kernel) rfl
theorem wq_727 : Cond.codeWith yL_back cL_back 5 (some .int) [(0, 10, 13, 13)] ∈ ab_T := ab_in 727 (by decide +kernel) rfl
theorem wq_737 : Cond.methodLink RL 148 yL_gap ∈ ab_T := ab_in 737 (by decide +kernel) rfl
theorem wq_738 : Cond.static yL_gap ∈ ab_T := ab_in 738 (by decide +kernel) rfl
theorem wq_739 : Cond.codeWith yL_gap cL_gap 5 (some .int) [(0, 10, 13, 13)] ∈ ab_T := ab_in 739 (by decide +kernel) rfl
theorem wq_750 : Cond.methodLink RL 151 yL_windOf ∈ ab_T := ab_in 750 (by decide +kernel) rfl
theorem wq_751 : Cond.static yL_windOf ∈ ab_T := ab_in 751 (by decide +kernel) rfl
theorem wq_752 : Cond.codeWith yL_windOf cL_windOf 4 (some .int) [(0, 9, 12, 13)] ∈ ab_T := ab_in 752 (by decide +kernel) rfl
theorem wq_757 : Cond.methodLink RL 154 yL_setting ∈ ab_T := ab_in 757 (by decide +kernel) rfl
theorem wq_758 : Cond.static yL_setting ∈ ab_T := ab_in 758 (by decide +kernel) rfl
theorem wq_759 : Cond.codeWith yL_setting cL_setting 4 (some .int) [(0, 9, 12, 13)] ∈ ab_T := ab_in 759 (by decide +kernel) rfl
theorem wq_764 : Cond.methodLink RL 157 yL_addStation ∈ ab_T := ab_in 764 (by decide +kernel) rfl
theorem wq_765 : Cond.static yL_addStation ∈ ab_T := ab_in 765 (by decide +kernel) rfl
theorem wq_766 : Cond.codeWith yL_addStation cL_addStation 8 (some .int) [(0, 16, 19, 13), (0, 16, 23, 15)] ∈ ab_T := ab_in 766 (by decide +kernel) rfl
theorem wq_785 : Cond.methodLink RL 161 yL_addFinder ∈ ab_T := ab_in 785 (by decide +kernel) rfl
theorem wq_786 : Cond.static yL_addFinder ∈ ab_T := ab_in 786 (by decide +kernel) rfl
theorem wq_787 : Cond.codeWith yL_addFinder cL_addFinder 6 (some .int) [(0, 12, 15, 13), (0, 12, 19, 15)] ∈ ab_T := ab_in 787 (by decide +kernel) rfl
theorem wq_793 : Cond.methodLink RL 165 yL_wind ∈ ab_T := ab_in 793 (by decide +kernel) rfl
theorem wq_794 : Cond.static yL_wind ∈ ab_T := ab_in 794 (by decide +kernel) rfl
theorem wq_795 : Cond.codeWith yL_wind cL_wind 5 (some .int) [(0, 10, 13, 13)] ∈ ab_T := ab_in 795 (by decide +kernel) rfl
theorem wq_801 : Cond.methodLink RL 168 yL_change ∈ ab_T := ab_in 801 (by decide +kernel) rfl
theorem wq_802 : Cond.static yL_change ∈ ab_T := ab_in 802 (by decide +kernel) rfl
theorem wq_803 : Cond.codeWith yL_change cL_change 6 (some .int) [(0, 12, 15, 28), (0, 12, 19, 13)] ∈ ab_T := ab_in 803 (by decide +kernel) rfl
theorem wq_817 : Cond.methodLink RL 171 yL_deliver ∈ ab_T := ab_in 817 (by decide +kernel) rfl
theorem wq_818 : Cond.static yL_deliver ∈ ab_T := ab_in 818 (by decide +kernel) rfl
theorem wq_819 : Cond.codeWith yL_deliver cL_deliver 6 (some .int) [(0, 12, 15, 28), (0, 12, 19, 13), (0, 12, 23, 15)] ∈ ab_T := ab_in 819 (by decide +kernel) rfl
theorem wq_826 : Cond.methodLink RL 174 yL_move ∈ ab_T := ab_in 826 (by decide +kernel) rfl
theorem wq_827 : Cond.static yL_move ∈ ab_T := ab_in 827 (by decide +kernel) rfl
theorem wq_828 : Cond.codeWith yL_move cL_move 5 (some .int) [(0, 10, 13, 28), (0, 10, 17, 15)] ∈ ab_T := ab_in 828 (by decide +kernel) rfl
theorem wq_843 : Cond.methodLink RL 177 yL_run ∈ ab_T := ab_in 843 (by decide +kernel) rfl
theorem wq_844 : Cond.static yL_run ∈ ab_T := ab_in 844 (by decide +kernel) rfl
theorem wq_845 : Cond.codeWith yL_run cL_run 4 (some .int) [(0, 9, 12, 13)] ∈ ab_T := ab_in 845 (by decide +kernel) rfl
theorem wq_850 : Cond.methodLink RL 180 yL_set ∈ ab_T := ab_in 850 (by decide +kernel) rfl
theorem wq_851 : Cond.static yL_set ∈ ab_T := ab_in 851 (by decide +kernel) rfl
theorem wq_852 : Cond.codeWith yL_set cL_set 5 (some .int) [(0, 10, 13, 13)] ∈ ab_T := ab_in 852 (by decide +kernel) rfl
theorem wq_870 : Cond.methodLink RL 183 yL_undo ∈ ab_T := ab_in 870 (by decide +kernel) rfl
theorem wq_871 : Cond.static yL_undo ∈ ab_T := ab_in 871 (by decide +kernel) rfl
theorem wq_872 : Cond.codeWith yL_undo cL_undo 3 (some .int) [(0, 8, 11, 15)] ∈ ab_T := ab_in 872 (by decide +kernel) rfl
theorem wq_882 : Cond.methodLink RL 186 yL_landing ∈ ab_T := ab_in 882 (by decide +kernel) rfl
theorem wq_883 : Cond.static yL_landing ∈ ab_T := ab_in 883 (by decide +kernel) rfl
theorem wq_884 : Cond.codeWith yL_landing cL_landing 5 (some .int) [(0, 10, 13, 28), (0, 10, 17, 13)] ∈ ab_T := ab_in 884 (by decide +kernel) rfl
theorem wq_890 : Cond.methodLink RL 189 yL_finds ∈ ab_T := ab_in 890 (by decide +kernel) rfl
theorem wq_891 : Cond.static yL_finds ∈ ab_T := ab_in 891 (by decide +kernel) rfl
theorem wq_892 : Cond.codeWith yL_finds cL_finds 4 (some .int) [(0, 9, 12, 13)] ∈ ab_T := ab_in 892 (by decide +kernel) rfl
theorem wq_898 : Cond.methodLink RL 192 yL_coming ∈ ab_T := ab_in 898 (by decide +kernel) rfl
theorem wq_899 : Cond.static yL_coming ∈ ab_T := ab_in 899 (by decide +kernel) rfl
theorem wq_900 : Cond.codeWith yL_coming cL_coming 5 (some .int) [(0, 10, 13, 13)] ∈ ab_T := ab_in 900 (by decide +kernel) rfl
theorem wq_905 : Cond.methodLink RL 199 yL_lacks ∈ ab_T := ab_in 905 (by decide +kernel) rfl
theorem wq_906 : Cond.static yL_lacks ∈ ab_T := ab_in 906 (by decide +kernel) rfl
theorem wq_907 : Cond.codeWith yL_lacks cL_lacks 5 (some .int) [(0, 10, 13, 28), (0, 10, 17, 13)] ∈ ab_T := ab_in 907 (by decide +kernel) rfl
theorem wq_917 : Cond.methodLink RL 202 yL_ifDelivered ∈ ab_T := ab_in 917 (by decide +kernel) rfl
theorem wq_918 : Cond.static yL_ifDelivered ∈ ab_T := ab_in 918 (by decide +kernel) rfl
theorem wq_919 : Cond.codeWith yL_ifDelivered cL_ifDelivered 7 (some .int) [(0, 14, 17, 28), (0, 14, 21, 13), (0, 14, 25, 15)] ∈ ab_T := ab_in 919 (by decide +kernel) rfl
theorem wq_924 : Cond.methodLink RL 208 yL_runScript ∈ ab_T := ab_in 924 (by decide +kernel) rfl
theorem wq_925 : Cond.static yL_runScript ∈ ab_T := ab_in 925 (by decide +kernel) rfl
theorem wq_926 : Cond.codeWith yL_runScript cL_runScript 6 (some .int) [(0, 11, 14, 13)] ∈ ab_T := ab_in 926 (by decide +kernel) rfl
theorem wq_946 : Cond.methodLink RL 212 yL_simulate ∈ ab_T := ab_in 946 (by decide +kernel) rfl
theorem wq_947 : Cond.static yL_simulate ∈ ab_T := ab_in 947 (by decide +kernel) rfl
theorem wq_948 : Cond.codeWith yL_simulate cL_simulate 6 (some .int) [(0, 11, 14, 13)] ∈ ab_T := ab_in 948 (by decide +kernel) rfl
theorem wq_959 : Cond.methodLink RL 216 yL_save ∈ ab_T := ab_in 959 (by decide +kernel) rfl
theorem wq_960 : Cond.static yL_save ∈ ab_T := ab_in 960 (by decide +kernel) rfl
theorem wq_961 : Cond.codeWith yL_save cL_save 4 (some .int) [(0, 9, 12, 28)] ∈ ab_T := ab_in 961 (by decide +kernel) rfl
theorem wq_971 : Cond.methodLink RL 219 yL_restore ∈ ab_T := ab_in 971 (by decide +kernel) rfl
theorem wq_972 : Cond.static yL_restore ∈ ab_T := ab_in 972 (by decide +kernel) rfl
theorem wq_973 : Cond.codeWith yL_restore cL_restore 4 (some .int) [(0, 9, 12, 28), (0, 9, 15, 15)] ∈ ab_T := ab_in 973 (by decide +kernel) rfl
theorem wq_1035 : Cond.methodLink RL 117 yX10_thrown ∈ ab_T := ab_in 1035 (by decide +kernel) rfl
theorem wq_1036 : Cond.instanceMethod yX10_thrown ∈ ab_T := ab_in 1036 (by decide +kernel) rfl
theorem wq_1037 : Cond.selects yX10_thrown.cls yX10_thrown yX10_thrown ∈ ab_T := ab_in 1037 (by decide +kernel) rfl
theorem wq_1038 : Cond.code yX10_thrown cX10_thrown 1 (some .int) ∈ ab_T := ab_in 1038 (by decide +kernel) rfl
theorem wq_1039 : Cond.methodLink RL 116 yX10_append ∈ ab_T := ab_in 1039 (by decide +kernel) rfl
theorem wq_1040 : Cond.instanceMethod yX10_append ∈ ab_T := ab_in 1040 (by decide +kernel) rfl
theorem wq_1041 : Cond.selects yX10_append.cls yX10_append yX10_append ∈ ab_T := ab_in 1041 (by decide +kernel) rfl
theorem wq_1042 : Cond.code yX10_append cX10_append 2 (some .int) ∈ ab_T := ab_in 1042 (by decide +kernel) rfl
theorem wq_1051 : Cond.methodLink RL 123 yX10_clearText ∈ ab_T := ab_in 1051 (by decide +kernel) rfl
theorem wq_1052 : Cond.instanceMethod yX10_clearText ∈ ab_T := ab_in 1052 (by decide +kernel) rfl
theorem wq_1053 : Cond.selects yX10_clearText.cls yX10_clearText yX10_clearText ∈ ab_T := ab_in 1053 (by decide +kernel) rfl
theorem wq_1054 : Cond.code yX10_clearText cX10_clearText 2 (some .int) ∈ ab_T := ab_in 1054 (by decide +kernel) rfl
theorem wq_1055 : Cond.methodLink RL 127 yX10_errorPosition ∈ ab_T := ab_in 1055 (by decide +kernel) rfl
theorem wq_1056 : Cond.instanceMethod yX10_errorPosition ∈ ab_T := ab_in 1056 (by decide +kernel) rfl
theorem wq_1057 : Cond.selects yX10_errorPosition.cls yX10_errorPosition yX10_errorPosition ∈ ab_T := ab_in 1057 (by decide +kernel) rfl
theorem wq_1058 : Cond.code yX10_errorPosition cX10_errorPosition 1 (some .int) ∈ ab_T := ab_in 1058 (by decide +kernel) rfl
theorem wq_1180 : Cond.methodLink RL 131 yX10_load ∈ ab_T := ab_in 1180 (by decide +kernel) rfl
theorem wq_1181 : Cond.instanceMethod yX10_load ∈ ab_T := ab_in 1181 (by decide +kernel) rfl
theorem wq_1182 : Cond.selects yX10_load.cls yX10_load yX10_load ∈ ab_T := ab_in 1182 (by decide +kernel) rfl
theorem wq_1183 : Cond.code yX10_load cX10_load 1 (some .int) ∈ ab_T := ab_in 1183 (by decide +kernel) rfl
theorem wq_1184 : Cond.methodLink RL 134 yX10_about ∈ ab_T := ab_in 1184 (by decide +kernel) rfl
theorem wq_1185 : Cond.instanceMethod yX10_about ∈ ab_T := ab_in 1185 (by decide +kernel) rfl
theorem wq_1186 : Cond.selects yX10_about.cls yX10_about yX10_about ∈ ab_T := ab_in 1186 (by decide +kernel) rfl
theorem wq_1187 : Cond.code yX10_about cX10_about 2 (some .int) ∈ ab_T := ab_in 1187 (by decide +kernel) rfl
theorem wq_1195 : Cond.methodLink RL 138 yX10_station ∈ ab_T := ab_in 1195 (by decide +kernel) rfl
theorem wq_1196 : Cond.instanceMethod yX10_station ∈ ab_T := ab_in 1196 (by decide +kernel) rfl
theorem wq_1197 : Cond.selects yX10_station.cls yX10_station yX10_station ∈ ab_T := ab_in 1197 (by decide +kernel) rfl
theorem wq_1198 : Cond.code yX10_station cX10_station 3 (some .int) ∈ ab_T := ab_in 1198 (by decide +kernel) rfl
theorem wq_1212 : Cond.methodLink RL 141 yX10_stock ∈ ab_T := ab_in 1212 (by decide +kernel) rfl
theorem wq_1213 : Cond.instanceMethod yX10_stock ∈ ab_T := ab_in 1213 (by decide +kernel) rfl
theorem wq_1214 : Cond.selects yX10_stock.cls yX10_stock yX10_stock ∈ ab_T := ab_in 1214 (by decide +kernel) rfl
theorem wq_1215 : Cond.code yX10_stock cX10_stock 3 (some .int) ∈ ab_T := ab_in 1215 (by decide +kernel) rfl
theorem wq_1217 : Cond.methodLink RL 144 yX10_finder ∈ ab_T := ab_in 1217 (by decide +kernel) rfl
theorem wq_1218 : Cond.instanceMethod yX10_finder ∈ ab_T := ab_in 1218 (by decide +kernel) rfl
theorem wq_1219 : Cond.selects yX10_finder.cls yX10_finder yX10_finder ∈ ab_T := ab_in 1219 (by decide +kernel) rfl
theorem wq_1220 : Cond.code yX10_finder cX10_finder 3 (some .int) ∈ ab_T := ab_in 1220 (by decide +kernel) rfl
theorem wq_1221 : Cond.methodLink RL 147 yX10_back ∈ ab_T := ab_in 1221 (by decide +kernel) rfl
theorem wq_1222 : Cond.instanceMethod yX10_back ∈ ab_T := ab_in 1222 (by decide +kernel) rfl
theorem wq_1223 : Cond.selects yX10_back.cls yX10_back yX10_back ∈ ab_T := ab_in 1223 (by decide +kernel) rfl
theorem wq_1224 : Cond.code yX10_back cX10_back 4 (some .int) ∈ ab_T := ab_in 1224 (by decide +kernel) rfl
theorem wq_1226 : Cond.methodLink RL 150 yX10_gap ∈ ab_T := ab_in 1226 (by decide +kernel) rfl
theorem wq_1227 : Cond.instanceMethod yX10_gap ∈ ab_T := ab_in 1227 (by decide +kernel) rfl
theorem wq_1228 : Cond.selects yX10_gap.cls yX10_gap yX10_gap ∈ ab_T := ab_in 1228 (by decide +kernel) rfl
theorem wq_1229 : Cond.code yX10_gap cX10_gap 4 (some .int) ∈ ab_T := ab_in 1229 (by decide +kernel) rfl
theorem wq_1230 : Cond.methodLink RL 153 yX10_windOf ∈ ab_T := ab_in 1230 (by decide +kernel) rfl
theorem wq_1231 : Cond.instanceMethod yX10_windOf ∈ ab_T := ab_in 1231 (by decide +kernel) rfl
theorem wq_1232 : Cond.selects yX10_windOf.cls yX10_windOf yX10_windOf ∈ ab_T := ab_in 1232 (by decide +kernel) rfl
theorem wq_1233 : Cond.code yX10_windOf cX10_windOf 2 (some .int) ∈ ab_T := ab_in 1233 (by decide +kernel) rfl
theorem wq_1238 : Cond.methodLink RL 156 yX10_setting ∈ ab_T := ab_in 1238 (by decide +kernel) rfl
theorem wq_1239 : Cond.instanceMethod yX10_setting ∈ ab_T := ab_in 1239 (by decide +kernel) rfl
theorem wq_1240 : Cond.selects yX10_setting.cls yX10_setting yX10_setting ∈ ab_T := ab_in 1240 (by decide +kernel) rfl
theorem wq_1241 : Cond.code yX10_setting cX10_setting 2 (some .int) ∈ ab_T := ab_in 1241 (by decide +kernel) rfl
theorem wq_1242 : Cond.methodLink RL 160 yX10_addStation ∈ ab_T := ab_in 1242 (by decide +kernel) rfl
theorem wq_1243 : Cond.instanceMethod yX10_addStation ∈ ab_T := ab_in 1243 (by decide +kernel) rfl
theorem wq_1244 : Cond.selects yX10_addStation.cls yX10_addStation yX10_addStation ∈ ab_T := ab_in 1244 (by decide +kernel) rfl
theorem wq_1245 : Cond.code yX10_addStation cX10_addStation 7 (some .int) ∈ ab_T := ab_in 1245 (by decide +kernel) rfl
theorem wq_1259 : Cond.methodLink RL 164 yX10_addFinder ∈ ab_T := ab_in 1259 (by decide +kernel) rfl
theorem wq_1260 : Cond.instanceMethod yX10_addFinder ∈ ab_T := ab_in 1260 (by decide +kernel) rfl
theorem wq_1261 : Cond.selects yX10_addFinder.cls yX10_addFinder yX10_addFinder ∈ ab_T := ab_in 1261 (by decide +kernel) rfl
theorem wq_1262 : Cond.code yX10_addFinder cX10_addFinder 5 (some .int) ∈ ab_T := ab_in 1262 (by decide +kernel) rfl
theorem wq_1265 : Cond.methodLink RL 167 yX10_wind ∈ ab_T := ab_in 1265 (by decide +kernel) rfl
theorem wq_1266 : Cond.instanceMethod yX10_wind ∈ ab_T := ab_in 1266 (by decide +kernel) rfl
theorem wq_1267 : Cond.selects yX10_wind.cls yX10_wind yX10_wind ∈ ab_T := ab_in 1267 (by decide +kernel) rfl
theorem wq_1268 : Cond.code yX10_wind cX10_wind 4 (some .int) ∈ ab_T := ab_in 1268 (by decide +kernel) rfl
theorem wq_1273 : Cond.methodLink RL 170 yX10_change ∈ ab_T := ab_in 1273 (by decide +kernel) rfl
theorem wq_1274 : Cond.instanceMethod yX10_change ∈ ab_T := ab_in 1274 (by decide +kernel) rfl
theorem wq_1275 : Cond.selects yX10_change.cls yX10_change yX10_change ∈ ab_T := ab_in 1275 (by decide +kernel) rfl
theorem wq_1276 : Cond.code yX10_change cX10_change 4 (some .int) ∈ ab_T := ab_in 1276 (by decide +kernel) rfl
theorem wq_1280 : Cond.methodLink RL 173 yX10_deliver ∈ ab_T := ab_in 1280 (by decide +kernel) rfl
theorem wq_1281 : Cond.instanceMethod yX10_deliver ∈ ab_T := ab_in 1281 (by decide +kernel) rfl
theorem wq_1282 : Cond.selects yX10_deliver.cls yX10_deliver yX10_deliver ∈ ab_T := ab_in 1282 (by decide +kernel) rfl
theorem wq_1283 : Cond.code yX10_deliver cX10_deliver 4 (some .int) ∈ ab_T := ab_in 1283 (by decide +kernel) rfl
theorem wq_1284 : Cond.methodLink RL 176 yX10_move ∈ ab_T := ab_in 1284 (by decide +kernel) rfl
theorem wq_1285 : Cond.instanceMethod yX10_move ∈ ab_T := ab_in 1285 (by decide +kernel) rfl
theorem wq_1286 : Cond.selects yX10_move.cls yX10_move yX10_move ∈ ab_T := ab_in 1286 (by decide +kernel) rfl
theorem wq_1287 : Cond.code yX10_move cX10_move 3 (some .int) ∈ ab_T := ab_in 1287 (by decide +kernel) rfl
theorem wq_1294 : Cond.methodLink RL 179 yX10_run ∈ ab_T := ab_in 1294 (by decide +kernel) rfl
theorem wq_1295 : Cond.instanceMethod yX10_run ∈ ab_T := ab_in 1295 (by decide +kernel) rfl
theorem wq_1296 : Cond.selects yX10_run.cls yX10_run yX10_run ∈ ab_T := ab_in 1296 (by decide +kernel) rfl
theorem wq_1297 : Cond.code yX10_run cX10_run 2 (some .int) ∈ ab_T := ab_in 1297 (by decide +kernel) rfl
theorem wq_1302 : Cond.methodLink RL 182 yX10_set ∈ ab_T := ab_in 1302 (by decide +kernel) rfl
theorem wq_1303 : Cond.instanceMethod yX10_set ∈ ab_T := ab_in 1303 (by decide +kernel) rfl
theorem wq_1304 : Cond.selects yX10_set.cls yX10_set yX10_set ∈ ab_T := ab_in 1304 (by decide +kernel) rfl
theorem wq_1305 : Cond.code yX10_set cX10_set 4 (some .int) ∈ ab_T := ab_in 1305 (by decide +kernel) rfl
theorem wq_1309 : Cond.methodLink RL 185 yX10_undo ∈ ab_T := ab_in 1309 (by decide +kernel) rfl
theorem wq_1310 : Cond.instanceMethod yX10_undo ∈ ab_T := ab_in 1310 (by decide +kernel) rfl
theorem wq_1311 : Cond.selects yX10_undo.cls yX10_undo yX10_undo ∈ ab_T := ab_in 1311 (by decide +kernel) rfl
theorem wq_1312 : Cond.code yX10_undo cX10_undo 1 (some .int) ∈ ab_T := ab_in 1312 (by decide +kernel) rfl
theorem wq_1313 : Cond.methodLink RL 188 yX10_landing ∈ ab_T := ab_in 1313 (by decide +kernel) rfl
theorem wq_1314 : Cond.instanceMethod yX10_landing ∈ ab_T := ab_in 1314 (by decide +kernel) rfl
theorem wq_1315 : Cond.selects yX10_landing.cls yX10_landing yX10_landing ∈ ab_T := ab_in 1315 (by decide +kernel) rfl
theorem wq_1316 : Cond.code yX10_landing cX10_landing 3 (some .int) ∈ ab_T := ab_in 1316 (by decide +kernel) rfl
theorem wq_1317 : Cond.methodLink RL 191 yX10_finds ∈ ab_T := ab_in 1317 (by decide +kernel) rfl
theorem wq_1318 : Cond.instanceMethod yX10_finds ∈ ab_T := ab_in 1318 (by decide +kernel) rfl
theorem wq_1319 : Cond.selects yX10_finds.cls yX10_finds yX10_finds ∈ ab_T := ab_in 1319 (by decide +kernel) rfl
theorem wq_1320 : Cond.code yX10_finds cX10_finds 2 (some .int) ∈ ab_T := ab_in 1320 (by decide +kernel) rfl
theorem wq_1321 : Cond.methodLink RL 194 yX10_coming ∈ ab_T := ab_in 1321 (by decide +kernel) rfl
theorem wq_1322 : Cond.instanceMethod yX10_coming ∈ ab_T := ab_in 1322 (by decide +kernel) rfl
theorem wq_1323 : Cond.selects yX10_coming.cls yX10_coming yX10_coming ∈ ab_T := ab_in 1323 (by decide +kernel) rfl
theorem wq_1324 : Cond.code yX10_coming cX10_coming 4 (some .int) ∈ ab_T := ab_in 1324 (by decide +kernel) rfl
theorem wq_1329 : Cond.methodLink RL 198 yX10_firstGap ∈ ab_T := ab_in 1329 (by decide +kernel) rfl
theorem wq_1330 : Cond.instanceMethod yX10_firstGap ∈ ab_T := ab_in 1330 (by decide +kernel) rfl
theorem wq_1331 : Cond.selects yX10_firstGap.cls yX10_firstGap yX10_firstGap ∈ ab_T := ab_in 1331 (by decide +kernel) rfl
theorem wq_1332 : Cond.code yX10_firstGap cX10_firstGap 2 (some .int) ∈ ab_T := ab_in 1332 (by decide +kernel) rfl
theorem wq_1333 : Cond.methodLink RL 201 yX10_lacks ∈ ab_T := ab_in 1333 (by decide +kernel) rfl
theorem wq_1334 : Cond.instanceMethod yX10_lacks ∈ ab_T := ab_in 1334 (by decide +kernel) rfl
theorem wq_1335 : Cond.selects yX10_lacks.cls yX10_lacks yX10_lacks ∈ ab_T := ab_in 1335 (by decide +kernel) rfl
theorem wq_1336 : Cond.code yX10_lacks cX10_lacks 3 (some .int) ∈ ab_T := ab_in 1336 (by decide +kernel) rfl
theorem wq_1337 : Cond.methodLink RL 205 yX10_ifDelivered ∈ ab_T := ab_in 1337 (by decide +kernel) rfl
theorem wq_1338 : Cond.instanceMethod yX10_ifDelivered ∈ ab_T := ab_in 1338 (by decide +kernel) rfl
theorem wq_1339 : Cond.selects yX10_ifDelivered.cls yX10_ifDelivered yX10_ifDelivered ∈ ab_T := ab_in 1339 (by decide +kernel) rfl
theorem wq_1340 : Cond.code yX10_ifDelivered cX10_ifDelivered 5 (some .int) ∈ ab_T := ab_in 1340 (by decide +kernel) rfl
theorem wq_1341 : Cond.methodLink RL 211 yX10_runScript ∈ ab_T := ab_in 1341 (by decide +kernel) rfl
theorem wq_1342 : Cond.instanceMethod yX10_runScript ∈ ab_T := ab_in 1342 (by decide +kernel) rfl
theorem wq_1343 : Cond.selects yX10_runScript.cls yX10_runScript yX10_runScript ∈ ab_T := ab_in 1343 (by decide +kernel) rfl
theorem wq_1344 : Cond.code yX10_runScript cX10_runScript 6 (some .int) ∈ ab_T := ab_in 1344 (by decide +kernel) rfl
theorem wq_1382 : Cond.methodLink RL 215 yX10_simulate ∈ ab_T := ab_in 1382 (by decide +kernel) rfl
theorem wq_1383 : Cond.instanceMethod yX10_simulate ∈ ab_T := ab_in 1383 (by decide +kernel) rfl
theorem wq_1384 : Cond.selects yX10_simulate.cls yX10_simulate yX10_simulate ∈ ab_T := ab_in 1384 (by decide +kernel) rfl
theorem wq_1385 : Cond.code yX10_simulate cX10_simulate 7 (some .int) ∈ ab_T := ab_in 1385 (by decide +kernel) rfl
theorem wq_1392 : Cond.methodLink RL 218 yX10_save ∈ ab_T := ab_in 1392 (by decide +kernel) rfl
theorem wq_1393 : Cond.instanceMethod yX10_save ∈ ab_T := ab_in 1393 (by decide +kernel) rfl
theorem wq_1394 : Cond.selects yX10_save.cls yX10_save yX10_save ∈ ab_T := ab_in 1394 (by decide +kernel) rfl
theorem wq_1395 : Cond.code yX10_save cX10_save 2 (some .int) ∈ ab_T := ab_in 1395 (by decide +kernel) rfl
theorem wq_1396 : Cond.methodLink RL 221 yX10_restore ∈ ab_T := ab_in 1396 (by decide +kernel) rfl
theorem wq_1397 : Cond.instanceMethod yX10_restore ∈ ab_T := ab_in 1397 (by decide +kernel) rfl
theorem wq_1398 : Cond.selects yX10_restore.cls yX10_restore yX10_restore ∈ ab_T := ab_in 1398 (by decide +kernel) rfl
theorem wq_1399 : Cond.code yX10_restore cX10_restore 2 (some .int) ∈ ab_T := ab_in 1399 (by decide +kernel) rfl
theorem wq_1400 : Cond.constantLong RL 206 4294967295 ∈ ab_T := ab_in 1400 (by decide +kernel) rfl
/-! A CASE OF THE LAW: the class's call by its wrapper, the reference's call, the comparison -/
theorem lg_cmp_self (x : Int64) : lg_cmp x x = 0 := by unfold lg_cmp; simp
section LRC
variable {p : Program} {l : Launch} {e : Env} {s : State} {m : MethodId} {args : Array Value} {below : List Frame} {meth : Method} {c : Code} {w : ab_W} {Q : State → Prop} {nc ns pc sl : Nat} {xs : Nat → Int32} {L L' st r : List Value} {σ : ab_H}
abbrev lw_L (i : Nat) (a b : Value) : List Value := [.ref 19, .ref 0, .ref 8, .ref 18, .int (nI i), a, b]
theorem lr_null {i : Nat} {a b : Value} (k : lw_M p l e s m args below meth c w Q nc ns pc (lw_L i .null .null) st σ) : lw_M p l e s m args below meth c w Q nc ns pc (lw_L i a b) st σ := by
  refine lr_weak (fun j => ?_) k
  match j with
  | 0 => exact Or.inr rfl
  | 1 => exact Or.inr rfl
  | 2 => exact Or.inr rfl
  | 3 => exact Or.inr rfl
  | 4 => exact Or.inr rfl
  | 5 => exact Or.inl rfl
  | 6 => exact Or.inl rfl
  | _ + 7 => exact Or.inl rfl
theorem lr_wide {nc' ns' : Nat} (h1 : nc ≤ nc') (h2 : ns ≤ ns') (k : lw_M p l e s m args below meth c w Q nc' ns' pc L st σ) : lw_M p l e s m args below meth c w Q nc ns pc L st σ := fun H locs ls hR hS hL => W.widen h1 h2 (k H locs ls hR hS hL)
/-- the comparison of two ints; the end of a case -/
theorem lr_cmp (C : lw_Cx p l s m args meth c w sl xs) {off : Int} {x : Int32} {i : Nat} (d : decode cL_law pc = .ok (.if_icmp .eq off, 3)) (ht : (pc : Int) + off = ((2139 : Nat) : Int)) (k : lw_M p l e s m args below meth c w Q nc ns 2139 (lw_L i .null .null) [] σ) : lw_M p l e s m args below meth c w Q nc ns pc (lw_L i .null .null) [.int x, .int x] σ := fun H locs ls hR hS hL =>
  lv_icmp_eq C.1 C.2.1 d ht (fun _ => k H locs ls hR hS hL) (fun q => absurd rfl q)
def lw_Dt (pc : Nat) : Prop := (decode cL_law pc = .ok (.istore 6, 2) ∧ decode cL_law (pc + 2) = .ok (.aload_n 2, 1) ∧ decode cL_law (pc + 3) = .ok (.invokevirtual 117, 3) ∧ decode cL_law (pc + 6) = .ok (.iload 5, 2) ∧ decode cL_law (pc + 8) = .ok (.if_icmp .eq 5, 3)) ∧ decode cL_law (pc + 13) = .ok (.iload 5, 2) ∧ decode cL_law (pc + 15) = .ok (.ifCond .ne 15, 3) ∧ decode cL_law (pc + 18) = .ok (.aload_n 3, 1) ∧ decode cL_law (pc + 19) = .ok (.iconst 0, 1) ∧ decode cL_law (pc + 20) = .ok (.laload, 1) ∧ decode cL_law (pc + 21) = .ok (.iload 6, 2) ∧ decode cL_law (pc + 23) = .ok (.i2l, 1) ∧ decode cL_law (pc + 24) = .ok (.lcmp, 1) ∧ decode cL_law (pc + 25) = .ok (.ifCond .eq 5, 3) ∧ ∃ off : Int, decode cL_law (pc + 30) = .ok (.goto off, 3) ∧ ((pc + 30 : Nat) : Int) + off = ((2139 : Nat) : Int)
theorem lr_tail (C : lw_Cx p l s m args meth c w sl xs) (D : lw_Dt pc) {i : Nat} {k b : Int32} {v6 : Value} (hth : σ 8 0 = k) (hb : k = 0 → σ 18 0 = b) (hmc : nc ≤ 601024 ∧ ns ≤ 7293034) (kk : lw_M p l e s m args below meth c w Q nc ns 2139 (lw_L i .null .null) [] σ) : lw_M p l e s m args below meth c w Q nc ns pc (lw_L i (.int k) v6) [.int b] σ := by
  obtain ⟨⟨d1, d2, d3, d4, d5⟩, d6, d7, d8, d9, d10, d11, d12, d13, d14, off, d15, d16⟩ := D
  have hl : l.stackTraces = false := C.2.2.2.2.2.2.2.2.2.1
  have hI : ab_Inj w := C.2.2.2.2.2.2.2.2.1
  have hw8 : ab_kd w 8 = 10 := C.2.2.2.2.2.2.2.2.2.2.2.2.2.2.2.2.1.1
  have h18 : ab_kd w 18 = 15 ∧ ab_ln w 18 = 1 := C.2.2.2.2.2.2.2.2.2.2.2.2.2.2.2.2.2
  refine lr_istore C d1 (by omega) rfl (lr_aload C d2 rfl rfl ?_)
  refine lr_callV C (ci := 10) (row := (RX10, TX10, 15)) rfl rfl (As := []) (a := 8) (r := []) (mcy := 0) (n := 0) (y := yX10_thrown) (bytes := cX10_thrown) (maxL := 1) (ret := some .int) (d' := 1) ⟨by decide, by decide, wq_1038, wq_11, by decide +kernel⟩ wq_1035 wq_1036 wq_1037 d3 rfl rfl hw8 ⟨by omega, by omega⟩ (ok_X10_thrown hl w σ [.ref 8] (fun v σ' => v = some (.int (σ 8 0)) ∧ σ' = σ) hI ⟨hw8, rfl, rfl⟩) ?_
  rintro v σ2 ⟨rfl, h2⟩
  rw [h2]
  refine lr_iload C d4 (x := k) rfl ?_
  show lw_M p l e s m args below meth c w Q nc ns (pc + 8) (lw_L i (.int k) (.int b)) [.int k, .int (σ 8 0)] σ
  rw [hth]
  intro H locs ls hR hS hL
  refine lv_icmp_eq (tgt := pc + 13) C.1 C.2.1 d5 (by omega) (fun _ => ?_) (fun q => absurd rfl q)
  refine lr_iload (nc := nc) (ns := ns) (st := []) C d6 (x := k) rfl ?_ H locs ls hR hS hL
  have end_ : lw_M p l e s m args below meth c w Q nc ns (pc + 30) (lw_L i (.int k) (.int b)) [] σ := lr_goto C d15 d16 (lr_null kk)
  intro H locs ls hR hS hL
  refine lv_if_ne (tgt := pc + 30) C.1 C.2.1 d7 (by omega) (fun _ => end_ H locs ls hR hS hL) (fun q => ?_)
  have hk0 : k = 0 := q
  refine lr_aload (nc := nc) (ns := ns) (st := []) C d8 rfl rfl (lr_iconst C d9 (x := 0) (by decide) ?_) H locs ls hR hS hL
  intro H locs ls hR hS hL
  have h0 : vp_in 0 (ab_ln w 18) := by rw [h18.2]; unfold vp_in; decide
  refine W.lald (v := .long _) C.1 C.2.1 ((hR 18).2.2.2.1 h18.1) (C.2.2.2.2.2.2.1.arr 4 rfl _ _) (fun q => by cases q) (ab_in_sz h0) (ab_in_rd h0) rfl rfl d10 ?_
  refine lr_iload (nc := nc) (ns := ns) (st := [.long _]) C d11 (x := b) rfl (lr_i2l C d12 ?_) H locs ls hR hS hL
  intro H locs ls hR hS hL
  refine W.lcmp C.1 C.2.1 d13 ?_
  rw [show ((0 : Int32).toNatClampNeg) = 0 from by decide, hb hk0]
  refine lv_if_eq (tgt := pc + 30) C.1 C.2.1 d14 (by omega) (fun _ => end_ H locs ls hR hS hL) (fun q => absurd (lg_cmp_self _) q)
def cM (c : aS → cR) : Prop := ∀ A, (c A).1 ≤ 3
/-- a case with a wrapper -/
theorem lr_case (C : lw_Cx p l s m args meth c w sl xs) {i T : Nat} {A : aS} {f : aS → cR} (hRA : RA w σ A) (hRD : RD σ A) (hW : WA T A) (hT : T < 60000) (hE : cE f) (hL3 : cM f) {As : List Value} {n : Nat} (hAn : As.length = n) (q1 q2 : Nat)
    (d0 : decode cL_law pc = .ok (.aload_n 1, 1)) (hp1 : ∀ (nc ns : Nat) (a b : Value) (st : List Value) (σ : ab_H), lw_M p l e s m args below meth c w Q nc ns q1 (lw_L i a b) (As.reverse ++ st) σ → lw_M p l e s m args below meth c w Q nc ns (pc + 1) (lw_L i a b) st σ) (d1 : decode cL_law q1 = .ok (.aload_n 3, 1)) {idx : Nat} (d2 : decode cL_law (q1 + 1) = .ok (.invokestatic idx, 3)) (d3 : decode cL_law (q1 + 4) = .ok (.istore 5, 2)) (d4 : decode cL_law (q1 + 6) = .ok (.aload_n 2, 1)) (hp2 : ∀ (nc ns : Nat) (a b : Value) (st : List Value) (σ : ab_H), lw_M p l e s m args below meth c w Q nc ns q2 (lw_L i a b) (As.reverse ++ st) σ → lw_M p l e s m args below meth c w Q nc ns (q1 + 7) (lw_L i a b) st σ) {idx2 : Nat} (d5 : decode cL_law q2 = .ok (.invokevirtual idx2, 3)) (D : lw_Dt (q2 + 3))
    {dS : Nat} {y : MethodName} {bytes : ByteArray} {maxL : Nat} {hh : List (Nat × Nat × Nat × Nat)} (hd : dS + 1 ≤ 12) (hm : maxL ≤ 11) (hcw : Cond.codeWith y bytes maxL (some .int) hh ∈ ab_T) (hini : Cond.initialized y.cls ∈ ab_T) (hyn : y.cls ≠ "java/lang/invoke/MethodHandle" ∧ y.cls ≠ "java/lang/invoke/VarHandle" ∧ (parseMethodDescriptor y.desc).map (fun d => d.parameters.length) = some (n + 2)) (hlink : Cond.methodLink RL idx y ∈ ab_T) (hstat : Cond.static y ∈ ab_T)
    (hS : ∀ (σ : ab_H) (K : Int32 → ab_H → Prop), lwA w σ f K → lw_Met l y (Cond.codeWith y bytes maxL (some .int) hh) dS w σ (.ref 0 :: (As ++ [.ref 18])) K)
    {dV : Nat} {z : MethodName} {zb : ByteArray} {zm : Nat} (hB : ab_CB l 12 dV 0 n z zb zm (some .int)) (hz : RX10 = z.cls) (hlink2 : Cond.methodLink RL idx2 z ∈ ab_T) (hinst : Cond.instanceMethod z ∈ ab_T) (hsel : Cond.selects z.cls z z ∈ ab_T)
    (hV : ∀ (σ : ab_H) (Kn : Option Value → ab_H → Prop), sdA w σ f Kn → ab_Met l z (Cond.code z zb zm (some .int)) dV 0 w σ (.ref 8 :: As) Kn (fun _ _ => False))
    (hmc : nc + 1 ≤ 601024 ∧ ns + 6 ≤ 7293034)
    (kk : ∀ σ' : ab_H, RA w σ' (f A).2.2 → RD σ' (f A).2.2 → lw_M p l e s m args below meth c w Q (nc + 1) (ns + 6) 2139 (lw_L i .null .null) [] σ') : lw_M p l e s m args below meth c w Q nc ns pc (lw_L i .null .null) [] σ := by
  have hwA : wA w := C.2.2.2.2.2.2.2.2.2.2.2.2.2.2.2.1
  have hwD : wD w := C.2.2.2.2.2.2.2.2.2.2.2.2.2.2.2.2.1
  have h18 : ab_kd w 18 = 15 ∧ ab_ln w 18 = 1 := C.2.2.2.2.2.2.2.2.2.2.2.2.2.2.2.2.2
  have hw8 : ab_kd w 8 = 10 := hwD.1
  refine lr_aload C d0 rfl rfl (hp1 _ _ _ _ _ _ (lr_aload C d1 rfl rfl ?_))
  have e1 : (Value.ref 18 :: (As.reverse ++ [Value.ref 0])) = (Value.ref 0 :: (As ++ [Value.ref 18])).reverse ++ [] := by simp
  rw [e1]
  refine lr_callS C hd hm hcw hini hyn hlink hstat d2 (by simp [hAn]) rfl ⟨by omega, by omega⟩ (hS σ (fun x σ' => x = nI (f A).1 ∧ RA w σ' (f A).2.2 ∧ RD σ' A ∧ ((f A).1 = 0 → σ' 18 0 = (f A).2.1)) ⟨hwA, h18.1, h18.2, A, T, hRA, hW, hT, fun σ' g1 g2 g3 => ⟨rfl, ?_, hRD.frA g2, g3⟩⟩) ?_
  · by_cases h0 : (f A).1 = 0
    · rw [if_pos h0] at g1; exact g1
    · rw [if_neg h0] at g1; rw [hE A h0]; exact g1
  rintro x σ1 ⟨rfl, hA1, hD1, ha1⟩
  refine lr_istore C d3 (by omega) rfl (lr_aload C d4 rfl rfl (hp2 _ _ _ _ _ _ ?_))
  have e2 : (As.reverse ++ [Value.ref 8]) = (Value.ref 8 :: As).reverse ++ [] := by simp
  rw [e2]
  refine lr_callV C (ci := 10) (row := (RX10, TX10, 15)) rfl hz hB hlink2 hinst hsel d5 hAn rfl hw8 ⟨by omega, by omega⟩ (hV σ1 (fun v σ' => ∃ b : Int32, v = some (.int b) ∧ RD σ' (f A).2.2 ∧ FrB σ1 σ' ∧ σ' 8 0 = nI (f A).1 ∧ ((f A).1 = 0 → b = (f A).2.1)) ⟨hwD, A, T, hD1, hW, hT, fun σ' v g1 g2 g3 g4 => ⟨v, rfl, g1, g2, g3, g4⟩⟩) ?_
  rintro v σ2 ⟨b, rfl, hD2, hF, hth, hb⟩
  refine lr_tail (i := i) C D hth (fun h0 => ?_) ⟨by omega, by omega⟩ (kk σ2 (hA1.frB hF) hD2)
  have h3 := hL3 A
  have h00 : (f A).1 = 0 := nI_inj (by omega) (by omega) h0
  rw [hF 18 (Or.inr (by omega)), ha1 h00, hb h00]
end LRC
theorem cM_act {r : Nat} {v : Int32} {n : nT} {A : aS} (h : r ≤ 3) : (c_act r v n A).1 ≤ 3 := by
  unfold c_act; split
  · exact Nat.zero_le _
  · exact h
theorem cM_ite {P : Prop} [Decidable P] {a b : cR} (h1 : a.1 ≤ 3) (h2 : b.1 ≤ 3) : (if P then a else b).1 ≤ 3 := by split <;> assumption
theorem cM_append (a0 : Int32) : cM (c_append a0) := fun A => by unfold c_append; (repeat' split) <;> (first | exact rO_le | (dsimp only; omega))
theorem cM_about (a0 : Int32) : cM (c_about a0) := fun A => by unfold c_about; (repeat' split) <;> (first | exact rO_le | (dsimp only; omega))
theorem cM_station (a0 a1 : Int32) : cM (c_station a0 a1) := fun A => by unfold c_station; (repeat' split) <;> (first | exact rO_le | (dsimp only; omega))
theorem cM_stock (a0 a1 : Int32) : cM (c_stock a0 a1) := fun A => by unfold c_stock; (repeat' split) <;> (first | exact rO_le | (dsimp only; omega))
theorem cM_finder (a0 a1 : Int32) : cM (c_finder a0 a1) := fun A => by unfold c_finder; (repeat' split) <;> (first | exact rO_le | (dsimp only; omega))
theorem cM_back (a0 a1 : Int32) : cM (c_back a0 a1) := fun A => by unfold c_back; (repeat' split) <;> (first | exact rO_le | (dsimp only; omega))
theorem cM_gap (a0 a1 : Int32) : cM (c_gap a0 a1) := fun A => by unfold c_gap; (repeat' split) <;> (first | exact rO_le | (dsimp only; omega))
theorem cM_windOf (a0 : Int32) : cM (c_windOf a0) := fun A => by unfold c_windOf; (repeat' split) <;> (first | exact rO_le | (dsimp only; omega))
theorem cM_setting (a0 : Int32) : cM (c_setting a0) := fun A => by unfold c_setting; (repeat' split) <;> (first | exact rO_le | (dsimp only; omega))
theorem cM_landing (a0 a1 : Int32) : cM (c_landing a0 a1) := fun A => by unfold c_landing; (repeat' split) <;> (first | exact rO_le | (dsimp only; omega))
theorem cM_finds (a0 : Int32) : cM (c_finds a0) := fun A => by unfold c_finds; (repeat' split) <;> (first | exact rO_le | (dsimp only; omega))
theorem cM_coming (a0 a1 : Int32) : cM (c_coming a0 a1) := fun A => by unfold c_coming; (repeat' split) <;> (first | exact rO_le | (dsimp only; omega))
theorem cM_lacks (a0 a1 : Int32) : cM (c_lacks a0 a1) := fun A => by unfold c_lacks; (repeat' split) <;> (first | exact rO_le | (dsimp only; omega))
theorem cM_ifDelivered (a0 a1 a2 a3 : Int32) : cM (c_ifDelivered a0 a1 a2 a3) := fun A => by unfold c_ifDelivered; (repeat' split) <;> (first | exact rO_le | (dsimp only; omega))
theorem cM_runScript (a0 : Int32) (a1 : Int64) : cM (c_runScript a0 a1) := fun A => by unfold c_runScript; (repeat' split) <;> (first | exact rO_le | (dsimp only; omega))
theorem cM_simulate (a0 : Int64) (a1 : Int32) : cM (c_simulate a0 a1) := fun A => by unfold c_simulate; (repeat' split) <;> (first | exact rO_le | (dsimp only; omega))
theorem cM_save (a0 : Int32) : cM (c_save a0) := fun A => by unfold c_save; (repeat' split) <;> (first | exact rO_le | (dsimp only; omega))
theorem cM_load : cM c_load := fun A => by unfold c_load; cases p_text (aT A) (aM A) <;> (dsimp only; omega)
theorem cM_undo : cM c_undo := fun A => by unfold c_undo; cases A.2.1.getLast? <;> (dsimp only; omega)
theorem cM_restore (i : Int32) : cM (c_restore i) := fun A => by
  unfold c_restore; refine cM_ite ?_ (by dsimp only; omega)
  cases aSlot A i <;> (dsimp only; omega)
theorem cM_addStation (p h z g k : Int32) : cM (c_addStation p h z g k) := fun A => cM_act (by have := @rS_le (cl (A.1.1 1)) p h z g k; omega)
theorem cM_addFinder (p r d : Int32) : cM (c_addFinder p r d) := fun A => cM_act (by unfold rF; (repeat' split) <;> omega)
theorem cM_wind (h v : Int32) : cM (c_wind h v) := fun A => cM_act (by unfold rW; split <;> omega)
theorem cM_set (i v : Int32) : cM (c_set i v) := fun A => cM_act (by unfold rT; split <;> omega)
theorem cM_change (s h z : Int32) : cM (c_change s h z) := fun A => cM_act rC_le
theorem cM_deliver (s g k : Int32) : cM (c_deliver s g k) := fun A => cM_act rO_le
theorem cM_move (s t : Int32) : cM (c_move s t) := fun A => cM_act (by have := @rM_le A.1.1 s t; omega)
theorem cM_run (n : Int32) : cM (c_run n) := fun A => cM_act (by split <;> omega)
theorem cE_about (a0 : Int32) : cE (c_about a0) := cE_q (fun A => by unfold c_about; (repeat' split) <;> rfl)
theorem cE_station (a0 a1 : Int32) : cE (c_station a0 a1) := cE_q (fun A => by unfold c_station; (repeat' split) <;> rfl)
theorem cE_stock (a0 a1 : Int32) : cE (c_stock a0 a1) := cE_q (fun A => by unfold c_stock; (repeat' split) <;> rfl)
theorem cE_finder (a0 a1 : Int32) : cE (c_finder a0 a1) := cE_q (fun A => by unfold c_finder; (repeat' split) <;> rfl)
theorem cE_back (a0 a1 : Int32) : cE (c_back a0 a1) := cE_q (fun A => by unfold c_back; (repeat' split) <;> rfl)
theorem cE_gap (a0 a1 : Int32) : cE (c_gap a0 a1) := cE_q (fun A => by unfold c_gap; (repeat' split) <;> rfl)
theorem cE_windOf (a0 : Int32) : cE (c_windOf a0) := cE_q (fun A => by unfold c_windOf; (repeat' split) <;> rfl)
theorem cE_setting (a0 : Int32) : cE (c_setting a0) := cE_q (fun A => by unfold c_setting; (repeat' split) <;> rfl)
theorem cE_landing (a0 a1 : Int32) : cE (c_landing a0 a1) := cE_q (fun A => by unfold c_landing; (repeat' split) <;> rfl)
theorem cE_finds (a0 : Int32) : cE (c_finds a0) := cE_q (fun A => by unfold c_finds; (repeat' split) <;> rfl)
theorem cE_coming (a0 a1 : Int32) : cE (c_coming a0 a1) := cE_q (fun A => by unfold c_coming; (repeat' split) <;> rfl)
theorem cE_lacks (a0 a1 : Int32) : cE (c_lacks a0 a1) := cE_q (fun A => by unfold c_lacks; (repeat' split) <;> rfl)
theorem cE_ifDelivered (a0 a1 a2 a3 : Int32) : cE (c_ifDelivered a0 a1 a2 a3) := cE_q (fun A => by unfold c_ifDelivered; (repeat' split) <;> rfl)
theorem cE_runScript (a0 : Int32) (a1 : Int64) : cE (c_runScript a0 a1) := cE_q (fun A => by unfold c_runScript; (repeat' split) <;> rfl)
theorem cE_simulate (a0 : Int64) (a1 : Int32) : cE (c_simulate a0 a1) := cE_q (fun A => by unfold c_simulate; (repeat' split) <;> rfl)
