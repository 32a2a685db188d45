/-! ===== the tables are what the bytes and the words say ===== -/
theorem ck_0 : k_0.all (fun q => chE cX0_init q.1 q.2) = true := by decide +kernel
theorem ck_1 : k_1.all (fun q => chE cX0_makeReady q.1 q.2) = true := by decide +kernel
theorem ck_2 : k_2.all (fun q => chE cX0_wrapUp q.1 q.2) = true := by decide +kernel
theorem ck_3 : k_3.all (fun q => chE cX1_init q.1 q.2) = true := by decide +kernel
theorem ck_4 : k_4.all (fun q => chE cX1_write q.1 q.2) = true := by decide +kernel
theorem ck_5 : k_5.all (fun q => chE cX1_strikeCeased q.1 q.2) = true := by decide +kernel
theorem ck_6 : k_6.all (fun q => chE cX1_replay q.1 q.2) = true := by decide +kernel
theorem ck_7 : k_7.all (fun q => chE cX1_placeAt q.1 q.2) = true := by decide +kernel
theorem ck_8 : k_8.all (fun q => chE cX2_init q.1 q.2) = true := by decide +kernel
theorem ck_9 : k_9.all (fun q => chE cX2_put q.1 q.2) = true := by decide +kernel
theorem ck_10 : k_10.all (fun q => chE cX2_targetOf q.1 q.2) = true := by decide +kernel
theorem ck_11 : k_11.all (fun q => chE cX2_someBeginWith q.1 q.2) = true := by decide +kernel
theorem ck_12 : k_12.all (fun q => chE cX3_init q.1 q.2) = true := by decide +kernel
theorem ck_13 : k_13.all (fun q => chE cX3_isInLine q.1 q.2) = true := by decide +kernel
theorem ck_14 : k_14.all (fun q => chE cX3_waitsFor q.1 q.2) = true := by decide +kernel
theorem ck_15 : k_15.all (fun q => chE cX3_canBeTaken q.1 q.2) = true := by decide +kernel
theorem ck_16 : k_16.all (fun q => chE cX3_scoreAt q.1 q.2) = true := by decide +kernel
theorem ck_17 : k_17.all (fun q => chE cX3_claim q.1 q.2) = true := by decide +kernel
theorem ck_18 : k_18.all (fun q => chE cX3_forgetTheWay q.1 q.2) = true := by decide +kernel
theorem ck_19 : k_19.all (fun q => chE cX3_emptyRow q.1 q.2) = true := by decide +kernel
theorem ck_20 : k_20.all (fun q => chE cX3_addDigit q.1 q.2) = true := by decide +kernel
theorem ck_21 : k_21.all (fun q => chE cX3_numberTold q.1 q.2) = true := by decide +kernel
theorem ck_22 : k_22.all (fun q => chE cX3_pushBack q.1 q.2) = true := by decide +kernel
theorem ck_23 : k_23.all (fun q => chE cX3_popBack q.1 q.2) = true := by decide +kernel
theorem ck_24 : k_24.all (fun q => chE cX4_init q.1 q.2) = true := by decide +kernel
theorem ck_25 : k_25.all (fun q => chE cX4_restart q.1 q.2) = true := by decide +kernel
theorem ck_26 : k_26.all (fun q => chE cX4_canGrow q.1 q.2) = true := by decide +kernel
theorem ck_27 : k_27.all (fun q => chE cX5_init q.1 q.2) = true := by decide +kernel
theorem ck_28 : k_28.all (fun q => chE cX5_weekdayAt q.1 q.2) = true := by decide +kernel
theorem ck_29 : k_29.all (fun q => chE cX5_isOpenAt q.1 q.2) = true := by decide +kernel
theorem ck_30 : k_30.all (fun q => chE cX6_init q.1 q.2) = true := by decide +kernel
theorem ck_31 : k_31.all (fun q => chE cX6_say q.1 q.2) = true := by decide +kernel
theorem ck_32 : k_32.all (fun q => chE cX6_menu q.1 q.2) = true := by decide +kernel
theorem ck_33 : k_33.all (fun q => chE cX6_key q.1 q.2) = true := by decide +kernel
theorem ck_34 : k_34.all (fun q => chE cX6_input q.1 q.2) = true := by decide +kernel
theorem ck_35 : k_35.all (fun q => chE cX6_times q.1 q.2) = true := by decide +kernel
theorem ck_36 : k_36.all (fun q => chE cX6_branch q.1 q.2) = true := by decide +kernel
theorem ck_37 : k_37.all (fun q => chE cX6_sub q.1 q.2) = true := by decide +kernel
theorem ck_38 : k_38.all (fun q => chE cX6_back q.1 q.2) = true := by decide +kernel
theorem ck_39 : k_39.all (fun q => chE cX6_queue q.1 q.2) = true := by decide +kernel
theorem ck_40 : k_40.all (fun q => chE cX6_leaving q.1 q.2) = true := by decide +kernel
theorem ck_41 : k_41.all (fun q => chE cX6_callback q.1 q.2) = true := by decide +kernel
theorem ck_42 : k_42.all (fun q => chE cX6_hours q.1 q.2) = true := by decide +kernel
theorem ck_43 : k_43.all (fun q => chE cX6_holiday q.1 q.2) = true := by decide +kernel
theorem ck_44 : k_44.all (fun q => chE cX6_isOpen q.1 q.2) = true := by decide +kernel
theorem ck_45 : k_45.all (fun q => chE cX6_call q.1 q.2) = true := by decide +kernel
theorem ck_46 : k_46.all (fun q => chE cX6_press q.1 q.2) = true := by decide +kernel
theorem ck_47 : k_47.all (fun q => chE cX6_hang q.1 q.2) = true := by decide +kernel
theorem ck_48 : k_48.all (fun q => chE cX6_pick q.1 q.2) = true := by decide +kernel
theorem ck_49 : k_49.all (fun q => chE cX6_signOn q.1 q.2) = true := by decide +kernel
theorem ck_50 : k_50.all (fun q => chE cX6_signOff q.1 q.2) = true := by decide +kernel
theorem ck_51 : k_51.all (fun q => chE cX6_wrap q.1 q.2) = true := by decide +kernel
theorem ck_52 : k_52.all (fun q => chE cX6_finish q.1 q.2) = true := by decide +kernel
theorem ck_53 : k_53.all (fun q => chE cX6_transfer q.1 q.2) = true := by decide +kernel
theorem ck_54 : k_54.all (fun q => chE cX6_pass q.1 q.2) = true := by decide +kernel
theorem ck_55 : k_55.all (fun q => chE cX6_calls q.1 q.2) = true := by decide +kernel
theorem ck_56 : k_56.all (fun q => chE cX6_state q.1 q.2) = true := by decide +kernel
theorem ck_57 : k_57.all (fun q => chE cX6_end q.1 q.2) = true := by decide +kernel
theorem ck_58 : k_58.all (fun q => chE cX6_nodeOf q.1 q.2) = true := by decide +kernel
theorem ck_59 : k_59.all (fun q => chE cX6_numberOf q.1 q.2) = true := by decide +kernel
theorem ck_60 : k_60.all (fun q => chE cX6_placeOf q.1 q.2) = true := by decide +kernel
theorem ck_61 : k_61.all (fun q => chE cX6_placeByReplay q.1 q.2) = true := by decide +kernel
theorem ck_62 : k_62.all (fun q => chE cX6_waiting q.1 q.2) = true := by decide +kernel
theorem ck_63 : k_63.all (fun q => chE cX6_agent q.1 q.2) = true := by decide +kernel
theorem ck_64 : k_64.all (fun q => chE cX6_callOf q.1 q.2) = true := by decide +kernel
theorem ck_65 : k_65.all (fun q => chE cX6_ways q.1 q.2) = true := by decide +kernel
theorem ck_66 : k_66.all (fun q => chE cX6_begun q.1 q.2) = true := by decide +kernel
theorem ck_67 : k_67.all (fun q => chE cX6_requireNode q.1 q.2) = true := by decide +kernel
theorem ck_68 : k_68.all (fun q => chE cX6_requireTarget q.1 q.2) = true := by decide +kernel
theorem ck_69 : k_69.all (fun q => chE cX6_requireCall q.1 q.2) = true := by decide +kernel
theorem ck_70 : k_70.all (fun q => chE cX6_requireAgent q.1 q.2) = true := by decide +kernel
theorem ck_71 : k_71.all (fun q => chE cX6_requireRange q.1 q.2) = true := by decide +kernel
theorem ck_72 : k_72.all (fun q => chE cX6_requireKey q.1 q.2) = true := by decide +kernel
theorem ck_73 : k_73.all (fun q => chE cX6_requireQuiet q.1 q.2) = true := by decide +kernel
theorem ck_74 : k_74.all (fun q => chE cX6_requireNoCall q.1 q.2) = true := by decide +kernel
theorem ck_75 : k_75.all (fun q => chE cX6_requireBusy q.1 q.2) = true := by decide +kernel
theorem ck_76 : k_76.all (fun q => chE cX6_isNode q.1 q.2) = true := by decide +kernel
theorem ck_77 : k_77.all (fun q => chE cX6_isCall q.1 q.2) = true := by decide +kernel
theorem ck_78 : k_78.all (fun q => chE cX6_isAgent q.1 q.2) = true := by decide +kernel
theorem ck_79 : k_79.all (fun q => chE cX6_mostAsked q.1 q.2) = true := by decide +kernel
theorem ck_80 : k_80.all (fun q => chE cX6_bringIn q.1 q.2) = true := by decide +kernel
theorem ck_81 : k_81.all (fun q => chE cX6_lead q.1 q.2) = true := by decide +kernel
theorem ck_82 : k_82.all (fun q => chE cX6_enter q.1 q.2) = true := by decide +kernel
theorem ck_83 : k_83.all (fun q => chE cX6_isSo q.1 q.2) = true := by decide +kernel
theorem ck_84 : k_84.all (fun q => chE cX6_isSomeoneReadyFor q.1 q.2) = true := by decide +kernel
theorem ck_85 : k_85.all (fun q => chE cX6_answerTo q.1 q.2) = true := by decide +kernel
theorem ck_86 : k_86.all (fun q => chE cX6_answerInRow q.1 q.2) = true := by decide +kernel
theorem ck_87 : k_87.all (fun q => chE cX6_endRow q.1 q.2) = true := by decide +kernel
theorem ck_88 : k_88.all (fun q => chE cX6_moveTimedLines q.1 q.2) = true := by decide +kernel
theorem ck_89 : k_89.all (fun q => chE cX6_timeUp q.1 q.2) = true := by decide +kernel
theorem ck_90 : k_90.all (fun q => chE cX6_ringInVain q.1 q.2) = true := by decide +kernel
theorem ck_91 : k_91.all (fun q => chE cX6_close q.1 q.2) = true := by decide +kernel
theorem ck_92 : k_92.all (fun q => chE cX6_turn q.1 q.2) = true := by decide +kernel
theorem ck_93 : k_93.all (fun q => chE cX6_countWay q.1 q.2) = true := by decide +kernel
theorem ck_94 : k_94.all (fun q => chE cX6_endWrappings q.1 q.2) = true := by decide +kernel
theorem ck_95 : k_95.all (fun q => chE cX6_settle q.1 q.2) = true := by decide +kernel
theorem ck_96 : k_96.all (fun q => chE cX6_takeCalls q.1 q.2) = true := by decide +kernel
theorem ck_97 : k_97.all (fun q => chE cX6_nextTaker q.1 q.2) = true := by decide +kernel
theorem ck_98 : k_98.all (fun q => chE cX6_skillsWanted q.1 q.2) = true := by decide +kernel
theorem ck_99 : k_99.all (fun q => chE cX6_firstFor q.1 q.2) = true := by decide +kernel
theorem ck_100 : k_100.all (fun q => chE cX6_take q.1 q.2) = true := by decide +kernel
theorem ck_101 : k_101.all (fun q => chE cX6_letGo q.1 q.2) = true := by decide +kernel
theorem ck_102 : k_102.all (fun q => chE cX6_waitersFor q.1 q.2) = true := by decide +kernel
theorem ck_103 : k_103.all (fun q => chE cX6_isAhead q.1 q.2) = true := by decide +kernel
theorem ck_104 : k_104.all (fun q => chE cX6_scoreOf q.1 q.2) = true := by decide +kernel
theorem ck_105 : k_105.all (fun q => chE cX7_init q.1 q.2) = true := by decide +kernel
theorem ck_106 : k_106.all (fun q => chE cX7_thrown q.1 q.2) = true := by decide +kernel
theorem ck_107 : k_107.all (fun q => chE cX7_isIn q.1 q.2) = true := by decide +kernel
theorem ck_108 : k_108.all (fun q => chE cX7_isNode q.1 q.2) = true := by decide +kernel
theorem ck_109 : k_109.all (fun q => chE cX7_isTarget q.1 q.2) = true := by decide +kernel
theorem ck_110 : k_110.all (fun q => chE cX7_isQuiet q.1 q.2) = true := by decide +kernel
theorem ck_111 : k_111.all (fun q => chE cX7_tells q.1 q.2) = true := by decide +kernel
theorem ck_112 : k_112.all (fun q => chE cX7_say q.1 q.2) = true := by decide +kernel
theorem ck_113 : k_113.all (fun q => chE cX7_menu q.1 q.2) = true := by decide +kernel
theorem ck_114 : k_114.all (fun q => chE cX7_placeOfKey q.1 q.2) = true := by decide +kernel
theorem ck_115 : k_115.all (fun q => chE cX7_key q.1 q.2) = true := by decide +kernel
theorem ck_116 : k_116.all (fun q => chE cX7_input q.1 q.2) = true := by decide +kernel
theorem ck_117 : k_117.all (fun q => chE cX7_times q.1 q.2) = true := by decide +kernel
theorem ck_118 : k_118.all (fun q => chE cX7_branch q.1 q.2) = true := by decide +kernel
theorem ck_119 : k_119.all (fun q => chE cX7_sub q.1 q.2) = true := by decide +kernel
theorem ck_120 : k_120.all (fun q => chE cX7_back q.1 q.2) = true := by decide +kernel
theorem ck_121 : k_121.all (fun q => chE cX7_queue q.1 q.2) = true := by decide +kernel
theorem ck_122 : k_122.all (fun q => chE cX7_leaving q.1 q.2) = true := by decide +kernel
theorem ck_123 : k_123.all (fun q => chE cX7_callback q.1 q.2) = true := by decide +kernel
theorem ck_124 : k_124.all (fun q => chE cX7_hours q.1 q.2) = true := by decide +kernel
theorem ck_125 : k_125.all (fun q => chE cX7_holiday q.1 q.2) = true := by decide +kernel
theorem ck_126 : k_126.all (fun q => chE cX7_isOpenNow q.1 q.2) = true := by decide +kernel
theorem ck_127 : k_127.all (fun q => chE cX7_isOpen q.1 q.2) = true := by decide +kernel
theorem ck_128 : k_128.all (fun q => chE cX7_isWaiting q.1 q.2) = true := by decide +kernel
theorem ck_129 : k_129.all (fun q => chE cX7_waits q.1 q.2) = true := by decide +kernel
theorem ck_130 : k_130.all (fun q => chE cX7_score q.1 q.2) = true := by decide +kernel
theorem ck_131 : k_131.all (fun q => chE cX7_isAhead q.1 q.2) = true := by decide +kernel
theorem ck_132 : k_132.all (fun q => chE cX7_ends q.1 q.2) = true := by decide +kernel
theorem ck_133 : k_133.all (fun q => chE cX7_isSo q.1 q.2) = true := by decide +kernel
theorem ck_134 : k_134.all (fun q => chE cX7_listens q.1 q.2) = true := by decide +kernel
theorem ck_135 : k_135.all (fun q => chE cX7_lines q.1 q.2) = true := by decide +kernel
theorem ck_136 : k_136.all (fun q => chE cX7_acts q.1 q.2) = true := by decide +kernel
theorem ck_137 : k_137.all (fun q => chE cX7_goes q.1 q.2) = true := by decide +kernel
theorem ck_138 : k_138.all (fun q => chE cX7_actsIn q.1 q.2) = true := by decide +kernel
theorem ck_139 : k_139.all (fun q => chE cX7_fails q.1 q.2) = true := by decide +kernel
theorem ck_140 : k_140.all (fun q => chE cX7_digits q.1 q.2) = true := by decide +kernel
theorem ck_141 : k_141.all (fun q => chE cX7_power q.1 q.2) = true := by decide +kernel
theorem ck_142 : k_142.all (fun q => chE cX7_isDone q.1 q.2) = true := by decide +kernel
theorem ck_143 : k_143.all (fun q => chE cX7_begin q.1 q.2) = true := by decide +kernel
theorem ck_144 : k_144.all (fun q => chE cX7_digit q.1 q.2) = true := by decide +kernel
theorem ck_145 : k_145.all (fun q => chE cX7_isReady q.1 q.2) = true := by decide +kernel
theorem ck_146 : k_146.all (fun q => chE cX7_wrapsUp q.1 q.2) = true := by decide +kernel
theorem ck_147 : k_147.all (fun q => chE cX7_best q.1 q.2) = true := by decide +kernel
theorem ck_148 : k_148.all (fun q => chE cX7_taker q.1 q.2) = true := by decide +kernel
theorem ck_149 : k_149.all (fun q => chE cX7_takes q.1 q.2) = true := by decide +kernel
theorem ck_150 : k_150.all (fun q => chE cX7_call q.1 q.2) = true := by decide +kernel
theorem ck_151 : k_151.all (fun q => chE cX7_asks q.1 q.2) = true := by decide +kernel
theorem ck_152 : k_152.all (fun q => chE cX7_presses q.1 q.2) = true := by decide +kernel
theorem ck_153 : k_153.all (fun q => chE cX7_press q.1 q.2) = true := by decide +kernel
theorem ck_154 : k_154.all (fun q => chE cX7_hang q.1 q.2) = true := by decide +kernel
theorem ck_155 : k_155.all (fun q => chE cX7_pick q.1 q.2) = true := by decide +kernel
theorem ck_156 : k_156.all (fun q => chE cX7_asksAgent q.1 q.2) = true := by decide +kernel
theorem ck_157 : k_157.all (fun q => chE cX7_isHeld q.1 q.2) = true := by decide +kernel
theorem ck_158 : k_158.all (fun q => chE cX7_signOn q.1 q.2) = true := by decide +kernel
theorem ck_159 : k_159.all (fun q => chE cX7_signOff q.1 q.2) = true := by decide +kernel
theorem ck_160 : k_160.all (fun q => chE cX7_wrap q.1 q.2) = true := by decide +kernel
theorem ck_161 : k_161.all (fun q => chE cX7_finish q.1 q.2) = true := by decide +kernel
theorem ck_162 : k_162.all (fun q => chE cX7_transfer q.1 q.2) = true := by decide +kernel
theorem ck_163 : k_163.all (fun q => chE cX7_misses q.1 q.2) = true := by decide +kernel
theorem ck_164 : k_164.all (fun q => chE cX7_isUp q.1 q.2) = true := by decide +kernel
theorem ck_165 : k_165.all (fun q => chE cX7_ticks q.1 q.2) = true := by decide +kernel
theorem ck_166 : k_166.all (fun q => chE cX7_pass q.1 q.2) = true := by decide +kernel
theorem ck_167 : k_167.all (fun q => chE cX7_calls q.1 q.2) = true := by decide +kernel
theorem ck_168 : k_168.all (fun q => chE cX7_state q.1 q.2) = true := by decide +kernel
theorem ck_169 : k_169.all (fun q => chE cX7_end q.1 q.2) = true := by decide +kernel
theorem ck_170 : k_170.all (fun q => chE cX7_nodeOf q.1 q.2) = true := by decide +kernel
theorem ck_171 : k_171.all (fun q => chE cX7_numberOf q.1 q.2) = true := by decide +kernel
theorem ck_172 : k_172.all (fun q => chE cX7_places q.1 q.2) = true := by decide +kernel
theorem ck_173 : k_173.all (fun q => chE cX7_placeOf q.1 q.2) = true := by decide +kernel
theorem ck_174 : k_174.all (fun q => chE cX7_placeByReplay q.1 q.2) = true := by decide +kernel
theorem ck_175 : k_175.all (fun q => chE cX7_waiting q.1 q.2) = true := by decide +kernel
theorem ck_176 : k_176.all (fun q => chE cX7_agent q.1 q.2) = true := by decide +kernel
theorem ck_177 : k_177.all (fun q => chE cX7_callOf q.1 q.2) = true := by decide +kernel
theorem ck_178 : k_178.all (fun q => chE cX7_ways q.1 q.2) = true := by decide +kernel
theorem ck_179 : k_179.all (fun q => chE cX7_begun q.1 q.2) = true := by decide +kernel
theorem ck_180 : k_180.all (fun q => chE cJ9_max_7cf53 q.1 q.2) = true := by decide +kernel
theorem ck_181 : k_181.all (fun q => chE cJ7_fill_53178 q.1 q.2) = true := by decide +kernel
theorem ck_182 : k_182.all (fun q => chE cL_say q.1 q.2) = true := by decide +kernel
theorem ck_183 : k_183.all (fun q => chE cL_menu q.1 q.2) = true := by decide +kernel
theorem ck_184 : k_184.all (fun q => chE cL_key q.1 q.2) = true := by decide +kernel
theorem ck_185 : k_185.all (fun q => chE cL_input q.1 q.2) = true := by decide +kernel
theorem ck_186 : k_186.all (fun q => chE cL_times q.1 q.2) = true := by decide +kernel
theorem ck_187 : k_187.all (fun q => chE cL_branch q.1 q.2) = true := by decide +kernel
theorem ck_188 : k_188.all (fun q => chE cL_sub q.1 q.2) = true := by decide +kernel
theorem ck_189 : k_189.all (fun q => chE cL_back q.1 q.2) = true := by decide +kernel
theorem ck_190 : k_190.all (fun q => chE cL_queue q.1 q.2) = true := by decide +kernel
theorem ck_191 : k_191.all (fun q => chE cL_leaving q.1 q.2) = true := by decide +kernel
theorem ck_192 : k_192.all (fun q => chE cL_callback q.1 q.2) = true := by decide +kernel
theorem ck_193 : k_193.all (fun q => chE cL_hours q.1 q.2) = true := by decide +kernel
theorem ck_194 : k_194.all (fun q => chE cL_holiday q.1 q.2) = true := by decide +kernel
theorem ck_195 : k_195.all (fun q => chE cL_call q.1 q.2) = true := by decide +kernel
theorem ck_196 : k_196.all (fun q => chE cL_press q.1 q.2) = true := by decide +kernel
theorem ck_197 : k_197.all (fun q => chE cL_hang q.1 q.2) = true := by decide +kernel
theorem ck_198 : k_198.all (fun q => chE cL_pick q.1 q.2) = true := by decide +kernel
theorem ck_199 : k_199.all (fun q => chE cL_signOn q.1 q.2) = true := by decide +kernel
theorem ck_200 : k_200.all (fun q => chE cL_signOff q.1 q.2) = true := by decide +kernel
theorem ck_201 : k_201.all (fun q => chE cL_wrap q.1 q.2) = true := by decide +kernel
theorem ck_202 : k_202.all (fun q => chE cL_finish q.1 q.2) = true := by decide +kernel
theorem ck_203 : k_203.all (fun q => chE cL_transfer q.1 q.2) = true := by decide +kernel
theorem ck_204 : k_204.all (fun q => chE cL_pass q.1 q.2) = true := by decide +kernel
theorem ck_205 : k_205.all (fun q => chE cL_state q.1 q.2) = true := by decide +kernel
theorem ck_206 : k_206.all (fun q => chE cL_end q.1 q.2) = true := by decide +kernel
theorem ck_207 : k_207.all (fun q => chE cL_nodeOf q.1 q.2) = true := by decide +kernel
theorem ck_208 : k_208.all (fun q => chE cL_numberOf q.1 q.2) = true := by decide +kernel
theorem ck_209 : k_209.all (fun q => chE cL_placeOf q.1 q.2) = true := by decide +kernel
theorem ck_210 : k_210.all (fun q => chE cL_placeByReplay q.1 q.2) = true := by decide +kernel
theorem ck_211 : k_211.all (fun q => chE cL_waiting q.1 q.2) = true := by decide +kernel
theorem ck_212 : k_212.all (fun q => chE cL_agent q.1 q.2) = true := by decide +kernel
theorem ck_213 : k_213.all (fun q => chE cL_callOf q.1 q.2) = true := by decide +kernel
theorem ck_214 : k_214.all (fun q => chE cL_ways q.1 q.2) = true := by decide +kernel
theorem ck_215 : k_215.all (fun q => chE cL_begun q.1 q.2) = true := by decide +kernel
def all2 : List (List (Nat × ME)) → List MRow → Prop
  | a :: as, b :: bs => a.all (fun q => chE b.2.1 q.1 q.2) = true ∧ all2 as bs
  | [], _ => True
  | _ :: _, [] => False
theorem all2_at {d : MRow} : ∀ {L1 : List (List (Nat × ME))} {L2 : List MRow}, all2 L1 L2 → ∀ mi : Nat, ((L1[mi]?).getD []).all (fun q => chE ((L2[mi]?).getD d).2.1 q.1 q.2) = true
  | a :: as, b :: bs, h, 0 => h.1
  | a :: as, b :: bs, h, mi + 1 => by
    have := all2_at (d := d) h.2 mi
    simpa using this
  | [], _, _, mi => by simp
  | _ :: _, [], h, _ => h.elim
def cwP (r : MRow) : Prop := lw_tbl[r.2.2.2.2.2]? = some (match r.2.2.2.2.1 with | [] => Jvm.Cond.code r.1 r.2.1 r.2.2.1 r.2.2.2.1 | q :: hh => Jvm.Cond.codeWith r.1 r.2.1 r.2.2.1 r.2.2.2.1 (q :: hh))
def allP : List MRow → Prop
  | r :: rs => cwP r ∧ allP rs
  | [] => True
theorem allP_at {d : MRow} : ∀ {L : List MRow}, allP L → ∀ mi : Nat, mi < L.length → cwP ((L[mi]?).getD d)
  | r :: rs, h, 0, _ => h.1
  | r :: rs, h, mi + 1, hl => by
    have := allP_at (d := d) h.2 mi (by simpa using hl)
    simpa using this
  | [], _, _, hl => absurd hl (by simp)
theorem cw_0 : lw_tbl[304]? = some (Jvm.Cond.code yX0_init cX0_init 1 none) := by decide +kernel
theorem cw_1 : lw_tbl[657]? = some (Jvm.Cond.code yX0_makeReady cX0_makeReady 2 none) := by decide +kernel
theorem cw_2 : lw_tbl[653]? = some (Jvm.Cond.code yX0_wrapUp cX0_wrapUp 2 none) := by decide +kernel
theorem cw_3 : lw_tbl[123]? = some (Jvm.Cond.code yX1_init cX1_init 1 none) := by decide +kernel
theorem cw_4 : lw_tbl[638]? = some (Jvm.Cond.code yX1_write cX1_write 5 none) := by decide +kernel
theorem cw_5 : lw_tbl[744]? = some (Jvm.Cond.code yX1_strikeCeased cX1_strikeCeased 4 none) := by decide +kernel
theorem cw_6 : lw_tbl[748]? = some (Jvm.Cond.code yX1_replay cX1_replay 3 none) := by decide +kernel
theorem cw_7 : lw_tbl[936]? = some (Jvm.Cond.code yX1_placeAt cX1_placeAt 9 (some .int)) := by decide +kernel
theorem cw_8 : lw_tbl[155]? = some (Jvm.Cond.code yX2_init cX2_init 1 none) := by decide +kernel
theorem cw_9 : lw_tbl[530]? = some (Jvm.Cond.code yX2_put cX2_put 4 (some .boolean)) := by decide +kernel
theorem cw_10 : lw_tbl[780]? = some (Jvm.Cond.code yX2_targetOf cX2_targetOf 3 (some .int)) := by decide +kernel
theorem cw_11 : lw_tbl[796]? = some (Jvm.Cond.code yX2_someBeginWith cX2_someBeginWith 3 (some .boolean)) := by decide +kernel
theorem cw_12 : lw_tbl[231]? = some (Jvm.Cond.code yX3_init cX3_init 2 none) := by decide +kernel
theorem cw_13 : lw_tbl[634]? = some (Jvm.Cond.code yX3_isInLine cX3_isInLine 1 (some .boolean)) := by decide +kernel
theorem cw_14 : lw_tbl[681]? = some (Jvm.Cond.code yX3_waitsFor cX3_waitsFor 2 (some .boolean)) := by decide +kernel
theorem cw_15 : lw_tbl[718]? = some (Jvm.Cond.code yX3_canBeTaken cX3_canBeTaken 2 (some .boolean)) := by decide +kernel
theorem cw_16 : lw_tbl[726]? = some (Jvm.Cond.code yX3_scoreAt cX3_scoreAt 2 (some .int)) := by decide +kernel
theorem cw_17 : lw_tbl[698]? = some (Jvm.Cond.code yX3_claim cX3_claim 3 none) := by decide +kernel
theorem cw_18 : lw_tbl[866]? = some (Jvm.Cond.code yX3_forgetTheWay cX3_forgetTheWay 1 none) := by decide +kernel
theorem cw_19 : lw_tbl[669]? = some (Jvm.Cond.code yX3_emptyRow cX3_emptyRow 2 none) := by decide +kernel
theorem cw_20 : lw_tbl[788]? = some (Jvm.Cond.code yX3_addDigit cX3_addDigit 3 none) := by decide +kernel
theorem cw_21 : lw_tbl[784]? = some (Jvm.Cond.code yX3_numberTold cX3_numberTold 3 (some .int)) := by decide +kernel
theorem cw_22 : lw_tbl[690]? = some (Jvm.Cond.code yX3_pushBack cX3_pushBack 2 (some .boolean)) := by decide +kernel
theorem cw_23 : lw_tbl[694]? = some (Jvm.Cond.code yX3_popBack cX3_popBack 1 (some .int)) := by decide +kernel
theorem cw_24 : lw_tbl[149]? = some (Jvm.Cond.code yX4_init cX4_init 1 none) := by decide +kernel
theorem cw_25 : lw_tbl[506]? = some (Jvm.Cond.code yX4_restart cX4_restart 4 none) := by decide +kernel
theorem cw_26 : lw_tbl[792]? = some (Jvm.Cond.code yX4_canGrow cX4_canGrow 3 (some .boolean)) := by decide +kernel
theorem cw_27 : lw_tbl[102]? = some (Jvm.Cond.code yX5_init cX5_init 2 none) := by decide +kernel
theorem cw_28 : lw_tbl[368]? = some (Jvm.Cond.code yX5_weekdayAt cX5_weekdayAt 1 (some .int)) := by decide +kernel
theorem cw_29 : lw_tbl[365]? = some (Jvm.Cond.code yX5_isOpenAt cX5_isOpenAt 5 (some .boolean)) := by decide +kernel
theorem cw_30 : lw_tbl[88]? = some (Jvm.Cond.code yX6_init cX6_init 2 none) := by decide +kernel
theorem cw_31 : lw_tbl[382]? = some (Jvm.Cond.code yX6_say cX6_say 5 none) := by decide +kernel
theorem cw_32 : lw_tbl[513]? = some (Jvm.Cond.code yX6_menu cX6_menu 2 none) := by decide +kernel
theorem cw_33 : lw_tbl[520]? = some (Jvm.Cond.code yX6_key cX6_key 5 (some .int)) := by decide +kernel
theorem cw_34 : lw_tbl[541]? = some (Jvm.Cond.code yX6_input cX6_input 6 none) := by decide +kernel
theorem cw_35 : lw_tbl[548]? = some (Jvm.Cond.code yX6_times cX6_times 7 none) := by decide +kernel
theorem cw_36 : lw_tbl[556]? = some (Jvm.Cond.code yX6_branch cX6_branch 8 none) := by decide +kernel
theorem cw_37 : lw_tbl[567]? = some (Jvm.Cond.code yX6_sub cX6_sub 4 none) := by decide +kernel
theorem cw_38 : lw_tbl[574]? = some (Jvm.Cond.code yX6_back cX6_back 2 none) := by decide +kernel
theorem cw_39 : lw_tbl[581]? = some (Jvm.Cond.code yX6_queue cX6_queue 8 none) := by decide +kernel
theorem cw_40 : lw_tbl[588]? = some (Jvm.Cond.code yX6_leaving cX6_leaving 4 none) := by decide +kernel
theorem cw_41 : lw_tbl[596]? = some (Jvm.Cond.code yX6_callback cX6_callback 2 none) := by decide +kernel
theorem cw_42 : lw_tbl[603]? = some (Jvm.Cond.code yX6_hours cX6_hours 4 none) := by decide +kernel
theorem cw_43 : lw_tbl[610]? = some (Jvm.Cond.code yX6_holiday cX6_holiday 4 (some .boolean)) := by decide +kernel
theorem cw_44 : lw_tbl[361]? = some (Jvm.Cond.code yX6_isOpen cX6_isOpen 1 (some .boolean)) := by decide +kernel
theorem cw_45 : lw_tbl[617]? = some (Jvm.Cond.code yX6_call cX6_call 3 (some .int)) := by decide +kernel
theorem cw_46 : lw_tbl[758]? = some (Jvm.Cond.code yX6_press cX6_press 5 (some .int)) := by decide +kernel
theorem cw_47 : lw_tbl[803]? = some (Jvm.Cond.code yX6_hang cX6_hang 4 (some .int)) := by decide +kernel
theorem cw_48 : lw_tbl[811]? = some (Jvm.Cond.code yX6_pick cX6_pick 3 (some .int)) := by decide +kernel
theorem cw_49 : lw_tbl[819]? = some (Jvm.Cond.code yX6_signOn cX6_signOn 4 (some .int)) := by decide +kernel
theorem cw_50 : lw_tbl[836]? = some (Jvm.Cond.code yX6_signOff cX6_signOff 4 (some .int)) := by decide +kernel
theorem cw_51 : lw_tbl[843]? = some (Jvm.Cond.code yX6_wrap cX6_wrap 5 (some .int)) := by decide +kernel
theorem cw_52 : lw_tbl[850]? = some (Jvm.Cond.code yX6_finish cX6_finish 4 (some .int)) := by decide +kernel
theorem cw_53 : lw_tbl[862]? = some (Jvm.Cond.code yX6_transfer cX6_transfer 6 (some .int)) := by decide +kernel
theorem cw_54 : lw_tbl[873]? = some (Jvm.Cond.code yX6_pass cX6_pass 3 (some .int)) := by decide +kernel
theorem cw_55 : lw_tbl[372]? = some (Jvm.Cond.code yX6_calls cX6_calls 1 (some .int)) := by decide +kernel
theorem cw_56 : lw_tbl[897]? = some (Jvm.Cond.code yX6_state cX6_state 2 (some .int)) := by decide +kernel
theorem cw_57 : lw_tbl[904]? = some (Jvm.Cond.code yX6_end cX6_end 2 (some .int)) := by decide +kernel
theorem cw_58 : lw_tbl[911]? = some (Jvm.Cond.code yX6_nodeOf cX6_nodeOf 2 (some .int)) := by decide +kernel
theorem cw_59 : lw_tbl[918]? = some (Jvm.Cond.code yX6_numberOf cX6_numberOf 2 (some .int)) := by decide +kernel
theorem cw_60 : lw_tbl[925]? = some (Jvm.Cond.code yX6_placeOf cX6_placeOf 7 (some .int)) := by decide +kernel
theorem cw_61 : lw_tbl[932]? = some (Jvm.Cond.code yX6_placeByReplay cX6_placeByReplay 2 (some .int)) := by decide +kernel
theorem cw_62 : lw_tbl[945]? = some (Jvm.Cond.code yX6_waiting cX6_waiting 2 (some .int)) := by decide +kernel
theorem cw_63 : lw_tbl[952]? = some (Jvm.Cond.code yX6_agent cX6_agent 2 (some .int)) := by decide +kernel
theorem cw_64 : lw_tbl[959]? = some (Jvm.Cond.code yX6_callOf cX6_callOf 2 (some .int)) := by decide +kernel
theorem cw_65 : lw_tbl[966]? = some (Jvm.Cond.code yX6_ways cX6_ways 3 (some .int)) := by decide +kernel
theorem cw_66 : lw_tbl[973]? = some (Jvm.Cond.code yX6_begun cX6_begun 2 (some .int)) := by decide +kernel
theorem cw_67 : lw_tbl[386]? = some (Jvm.Cond.code yX6_requireNode cX6_requireNode 2 none) := by decide +kernel
theorem cw_68 : lw_tbl[461]? = some (Jvm.Cond.code yX6_requireTarget cX6_requireTarget 2 none) := by decide +kernel
theorem cw_69 : lw_tbl[762]? = some (Jvm.Cond.code yX6_requireCall cX6_requireCall 2 none) := by decide +kernel
theorem cw_70 : lw_tbl[823]? = some (Jvm.Cond.code yX6_requireAgent cX6_requireAgent 2 none) := by decide +kernel
theorem cw_71 : lw_tbl[466]? = some (Jvm.Cond.code yX6_requireRange cX6_requireRange 4 none) := by decide +kernel
theorem cw_72 : lw_tbl[524]? = some (Jvm.Cond.code yX6_requireKey cX6_requireKey 5 none) := by decide +kernel
theorem cw_73 : lw_tbl[486]? = some (Jvm.Cond.code yX6_requireQuiet cX6_requireQuiet 2 none) := by decide +kernel
theorem cw_74 : lw_tbl[828]? = some (Jvm.Cond.code yX6_requireNoCall cX6_requireNoCall 2 none) := by decide +kernel
theorem cw_75 : lw_tbl[854]? = some (Jvm.Cond.code yX6_requireBusy cX6_requireBusy 2 none) := by decide +kernel
theorem cw_76 : lw_tbl[389]? = some (Jvm.Cond.code yX6_isNode cX6_isNode 1 (some .boolean)) := by decide +kernel
theorem cw_77 : lw_tbl[736]? = some (Jvm.Cond.code yX6_isCall cX6_isCall 2 (some .boolean)) := by decide +kernel
theorem cw_78 : lw_tbl[649]? = some (Jvm.Cond.code yX6_isAgent cX6_isAgent 1 (some .boolean)) := by decide +kernel
theorem cw_79 : lw_tbl[559]? = some (Jvm.Cond.code yX6_mostAsked cX6_mostAsked 1 (some .int)) := by decide +kernel
theorem cw_80 : lw_tbl[622]? = some (Jvm.Cond.code yX6_bringIn cX6_bringIn 3 none) := by decide +kernel
theorem cw_81 : lw_tbl[626]? = some (Jvm.Cond.code yX6_lead cX6_lead 5 none) := by decide +kernel
theorem cw_82 : lw_tbl[665]? = some (Jvm.Cond.code yX6_enter cX6_enter 3 (some .int)) := by decide +kernel
theorem cw_83 : lw_tbl[673]? = some (Jvm.Cond.code yX6_isSo cX6_isSo 3 (some .boolean)) := by decide +kernel
theorem cw_84 : lw_tbl[686]? = some (Jvm.Cond.code yX6_isSomeoneReadyFor cX6_isSomeoneReadyFor 4 (some .boolean)) := by decide +kernel
theorem cw_85 : lw_tbl[768]? = some (Jvm.Cond.code yX6_answerTo cX6_answerTo 4 (some .int)) := by decide +kernel
theorem cw_86 : lw_tbl[772]? = some (Jvm.Cond.code yX6_answerInRow cX6_answerInRow 4 (some .int)) := by decide +kernel
theorem cw_87 : lw_tbl[776]? = some (Jvm.Cond.code yX6_endRow cX6_endRow 4 (some .int)) := by decide +kernel
theorem cw_88 : lw_tbl[878]? = some (Jvm.Cond.code yX6_moveTimedLines cX6_moveTimedLines 4 none) := by decide +kernel
theorem cw_89 : lw_tbl[886]? = some (Jvm.Cond.code yX6_timeUp cX6_timeUp 3 (some .int)) := by decide +kernel
theorem cw_90 : lw_tbl[882]? = some (Jvm.Cond.code yX6_ringInVain cX6_ringInVain 2 none) := by decide +kernel
theorem cw_91 : lw_tbl[642]? = some (Jvm.Cond.code yX6_close cX6_close 3 none) := by decide +kernel
theorem cw_92 : lw_tbl[630]? = some (Jvm.Cond.code yX6_turn cX6_turn 3 none) := by decide +kernel
theorem cw_93 : lw_tbl[661]? = some (Jvm.Cond.code yX6_countWay cX6_countWay 4 none) := by decide +kernel
theorem cw_94 : lw_tbl[890]? = some (Jvm.Cond.code yX6_endWrappings cX6_endWrappings 3 none) := by decide +kernel
theorem cw_95 : lw_tbl[702]? = some (Jvm.Cond.code yX6_settle cX6_settle 1 none) := by decide +kernel
theorem cw_96 : lw_tbl[706]? = some (Jvm.Cond.code yX6_takeCalls cX6_takeCalls 4 none) := by decide +kernel
theorem cw_97 : lw_tbl[710]? = some (Jvm.Cond.code yX6_nextTaker cX6_nextTaker 7 (some .int)) := by decide +kernel
theorem cw_98 : lw_tbl[714]? = some (Jvm.Cond.code yX6_skillsWanted cX6_skillsWanted 4 (some .int)) := by decide +kernel
theorem cw_99 : lw_tbl[722]? = some (Jvm.Cond.code yX6_firstFor cX6_firstFor 7 (some .int)) := by decide +kernel
theorem cw_100 : lw_tbl[740]? = some (Jvm.Cond.code yX6_take cX6_take 5 none) := by decide +kernel
theorem cw_101 : lw_tbl[646]? = some (Jvm.Cond.code yX6_letGo cX6_letGo 3 none) := by decide +kernel
theorem cw_102 : lw_tbl[677]? = some (Jvm.Cond.code yX6_waitersFor cX6_waitersFor 4 (some .int)) := by decide +kernel
theorem cw_103 : lw_tbl[732]? = some (Jvm.Cond.code yX6_isAhead cX6_isAhead 4 (some .boolean)) := by decide +kernel
theorem cw_104 : lw_tbl[729]? = some (Jvm.Cond.code yX6_scoreOf cX6_scoreOf 2 (some .int)) := by decide +kernel
theorem cw_105 : lw_tbl[978]? = some (Jvm.Cond.code yX7_init cX7_init 2 none) := by decide +kernel
theorem cw_106 : lw_tbl[1110]? = some (Jvm.Cond.code yX7_thrown cX7_thrown 1 (some .int)) := by decide +kernel
theorem cw_107 : lw_tbl[1120]? = some (Jvm.Cond.code yX7_isIn cX7_isIn 3 (some .boolean)) := by decide +kernel
theorem cw_108 : lw_tbl[1117]? = some (Jvm.Cond.code yX7_isNode cX7_isNode 1 (some .boolean)) := by decide +kernel
theorem cw_109 : lw_tbl[1123]? = some (Jvm.Cond.code yX7_isTarget cX7_isTarget 1 (some .boolean)) := by decide +kernel
theorem cw_110 : lw_tbl[1131]? = some (Jvm.Cond.code yX7_isQuiet cX7_isQuiet 3 (some .boolean)) := by decide +kernel
theorem cw_111 : lw_tbl[1127]? = some (Jvm.Cond.code yX7_tells cX7_tells 6 (some .boolean)) := by decide +kernel
theorem cw_112 : lw_tbl[1114]? = some (Jvm.Cond.code yX7_say cX7_say 4 none) := by decide +kernel
theorem cw_113 : lw_tbl[1135]? = some (Jvm.Cond.code yX7_menu cX7_menu 2 none) := by decide +kernel
theorem cw_114 : lw_tbl[1143]? = some (Jvm.Cond.code yX7_placeOfKey cX7_placeOfKey 5 (some .int)) := by decide +kernel
theorem cw_115 : lw_tbl[1139]? = some (Jvm.Cond.code yX7_key cX7_key 6 (some .int)) := by decide +kernel
theorem cw_116 : lw_tbl[1147]? = some (Jvm.Cond.code yX7_input cX7_input 5 none) := by decide +kernel
theorem cw_117 : lw_tbl[1151]? = some (Jvm.Cond.code yX7_times cX7_times 6 none) := by decide +kernel
theorem cw_118 : lw_tbl[1155]? = some (Jvm.Cond.code yX7_branch cX7_branch 9 none) := by decide +kernel
theorem cw_119 : lw_tbl[1160]? = some (Jvm.Cond.code yX7_sub cX7_sub 4 none) := by decide +kernel
theorem cw_120 : lw_tbl[1164]? = some (Jvm.Cond.code yX7_back cX7_back 2 none) := by decide +kernel
theorem cw_121 : lw_tbl[1168]? = some (Jvm.Cond.code yX7_queue cX7_queue 8 none) := by decide +kernel
theorem cw_122 : lw_tbl[1172]? = some (Jvm.Cond.code yX7_leaving cX7_leaving 3 none) := by decide +kernel
theorem cw_123 : lw_tbl[1176]? = some (Jvm.Cond.code yX7_callback cX7_callback 2 none) := by decide +kernel
theorem cw_124 : lw_tbl[1180]? = some (Jvm.Cond.code yX7_hours cX7_hours 4 none) := by decide +kernel
theorem cw_125 : lw_tbl[1184]? = some (Jvm.Cond.code yX7_holiday cX7_holiday 4 (some .boolean)) := by decide +kernel
theorem cw_126 : lw_tbl[1192]? = some (Jvm.Cond.code yX7_isOpenNow cX7_isOpenNow 2 (some .boolean)) := by decide +kernel
theorem cw_127 : lw_tbl[1188]? = some (Jvm.Cond.code yX7_isOpen cX7_isOpen 1 (some .boolean)) := by decide +kernel
theorem cw_128 : lw_tbl[1228]? = some (Jvm.Cond.code yX7_isWaiting cX7_isWaiting 2 (some .boolean)) := by decide +kernel
theorem cw_129 : lw_tbl[1224]? = some (Jvm.Cond.code yX7_waits cX7_waits 4 (some .int)) := by decide +kernel
theorem cw_130 : lw_tbl[1252]? = some (Jvm.Cond.code yX7_score cX7_score 2 (some .int)) := by decide +kernel
theorem cw_131 : lw_tbl[1248]? = some (Jvm.Cond.code yX7_isAhead cX7_isAhead 3 (some .boolean)) := by decide +kernel
theorem cw_132 : lw_tbl[1204]? = some (Jvm.Cond.code yX7_ends cX7_ends 3 none) := by decide +kernel
theorem cw_133 : lw_tbl[1220]? = some (Jvm.Cond.code yX7_isSo cX7_isSo 6 (some .boolean)) := by decide +kernel
theorem cw_134 : lw_tbl[1216]? = some (Jvm.Cond.code yX7_listens cX7_listens 2 none) := by decide +kernel
theorem cw_135 : lw_tbl[1232]? = some (Jvm.Cond.code yX7_lines cX7_lines 4 (some .int)) := by decide +kernel
theorem cw_136 : lw_tbl[1212]? = some (Jvm.Cond.code yX7_acts cX7_acts 3 (some .int)) := by decide +kernel
theorem cw_137 : lw_tbl[1200]? = some (Jvm.Cond.code yX7_goes cX7_goes 7 none) := by decide +kernel
theorem cw_138 : lw_tbl[1208]? = some (Jvm.Cond.code yX7_actsIn cX7_actsIn 3 (some .int)) := by decide +kernel
theorem cw_139 : lw_tbl[1278]? = some (Jvm.Cond.code yX7_fails cX7_fails 3 none) := by decide +kernel
theorem cw_140 : lw_tbl[1271]? = some (Jvm.Cond.code yX7_digits cX7_digits 3 (some .int)) := by decide +kernel
theorem cw_141 : lw_tbl[1274]? = some (Jvm.Cond.code yX7_power cX7_power 3 (some .int)) := by decide +kernel
theorem cw_142 : lw_tbl[1268]? = some (Jvm.Cond.code yX7_isDone cX7_isDone 5 none) := by decide +kernel
theorem cw_143 : lw_tbl[1286]? = some (Jvm.Cond.code yX7_begin cX7_begin 5 (some .int)) := by decide +kernel
theorem cw_144 : lw_tbl[1282]? = some (Jvm.Cond.code yX7_digit cX7_digit 6 none) := by decide +kernel
theorem cw_145 : lw_tbl[1298]? = some (Jvm.Cond.code yX7_isReady cX7_isReady 2 none) := by decide +kernel
theorem cw_146 : lw_tbl[1294]? = some (Jvm.Cond.code yX7_wrapsUp cX7_wrapsUp 2 none) := by decide +kernel
theorem cw_147 : lw_tbl[1244]? = some (Jvm.Cond.code yX7_best cX7_best 5 (some .int)) := by decide +kernel
theorem cw_148 : lw_tbl[1240]? = some (Jvm.Cond.code yX7_taker cX7_taker 4 (some .int)) := by decide +kernel
theorem cw_149 : lw_tbl[1236]? = some (Jvm.Cond.code yX7_takes cX7_takes 3 none) := by decide +kernel
theorem cw_150 : lw_tbl[1196]? = some (Jvm.Cond.code yX7_call cX7_call 3 (some .int)) := by decide +kernel
theorem cw_151 : lw_tbl[1260]? = some (Jvm.Cond.code yX7_asks cX7_asks 2 (some .boolean)) := by decide +kernel
theorem cw_152 : lw_tbl[1264]? = some (Jvm.Cond.code yX7_presses cX7_presses 4 none) := by decide +kernel
theorem cw_153 : lw_tbl[1256]? = some (Jvm.Cond.code yX7_press cX7_press 3 (some .int)) := by decide +kernel
theorem cw_154 : lw_tbl[1290]? = some (Jvm.Cond.code yX7_hang cX7_hang 3 (some .int)) := by decide +kernel
theorem cw_155 : lw_tbl[1302]? = some (Jvm.Cond.code yX7_pick cX7_pick 2 (some .int)) := by decide +kernel
theorem cw_156 : lw_tbl[1310]? = some (Jvm.Cond.code yX7_asksAgent cX7_asksAgent 2 (some .boolean)) := by decide +kernel
theorem cw_157 : lw_tbl[1314]? = some (Jvm.Cond.code yX7_isHeld cX7_isHeld 2 (some .boolean)) := by decide +kernel
theorem cw_158 : lw_tbl[1306]? = some (Jvm.Cond.code yX7_signOn cX7_signOn 3 (some .int)) := by decide +kernel
theorem cw_159 : lw_tbl[1318]? = some (Jvm.Cond.code yX7_signOff cX7_signOff 3 (some .int)) := by decide +kernel
theorem cw_160 : lw_tbl[1322]? = some (Jvm.Cond.code yX7_wrap cX7_wrap 4 (some .int)) := by decide +kernel
theorem cw_161 : lw_tbl[1326]? = some (Jvm.Cond.code yX7_finish cX7_finish 3 (some .int)) := by decide +kernel
theorem cw_162 : lw_tbl[1330]? = some (Jvm.Cond.code yX7_transfer cX7_transfer 4 (some .int)) := by decide +kernel
theorem cw_163 : lw_tbl[1346]? = some (Jvm.Cond.code yX7_misses cX7_misses 2 none) := by decide +kernel
theorem cw_164 : lw_tbl[1342]? = some (Jvm.Cond.code yX7_isUp cX7_isUp 3 none) := by decide +kernel
theorem cw_165 : lw_tbl[1338]? = some (Jvm.Cond.code yX7_ticks cX7_ticks 2 none) := by decide +kernel
theorem cw_166 : lw_tbl[1334]? = some (Jvm.Cond.code yX7_pass cX7_pass 3 (some .int)) := by decide +kernel
theorem cw_167 : lw_tbl[1350]? = some (Jvm.Cond.code yX7_calls cX7_calls 1 (some .int)) := by decide +kernel
theorem cw_168 : lw_tbl[1354]? = some (Jvm.Cond.code yX7_state cX7_state 2 (some .int)) := by decide +kernel
theorem cw_169 : lw_tbl[1358]? = some (Jvm.Cond.code yX7_end cX7_end 2 (some .int)) := by decide +kernel
theorem cw_170 : lw_tbl[1362]? = some (Jvm.Cond.code yX7_nodeOf cX7_nodeOf 2 (some .int)) := by decide +kernel
theorem cw_171 : lw_tbl[1366]? = some (Jvm.Cond.code yX7_numberOf cX7_numberOf 2 (some .int)) := by decide +kernel
theorem cw_172 : lw_tbl[1374]? = some (Jvm.Cond.code yX7_places cX7_places 4 (some .int)) := by decide +kernel
theorem cw_173 : lw_tbl[1370]? = some (Jvm.Cond.code yX7_placeOf cX7_placeOf 2 (some .int)) := by decide +kernel
theorem cw_174 : lw_tbl[1378]? = some (Jvm.Cond.code yX7_placeByReplay cX7_placeByReplay 2 (some .int)) := by decide +kernel
theorem cw_175 : lw_tbl[1382]? = some (Jvm.Cond.code yX7_waiting cX7_waiting 2 (some .int)) := by decide +kernel
theorem cw_176 : lw_tbl[1386]? = some (Jvm.Cond.code yX7_agent cX7_agent 2 (some .int)) := by decide +kernel
theorem cw_177 : lw_tbl[1390]? = some (Jvm.Cond.code yX7_callOf cX7_callOf 2 (some .int)) := by decide +kernel
theorem cw_178 : lw_tbl[1394]? = some (Jvm.Cond.code yX7_ways cX7_ways 3 (some .int)) := by decide +kernel
theorem cw_179 : lw_tbl[1398]? = some (Jvm.Cond.code yX7_begun cX7_begun 2 (some .int)) := by decide +kernel
theorem cw_180 : lw_tbl[533]? = some (Jvm.Cond.code yJ9_max_7cf53 cJ9_max_7cf53 2 (some .int)) := by decide +kernel
theorem cw_181 : lw_tbl[751]? = some (Jvm.Cond.code yJ7_fill_53178 cJ7_fill_53178 4 none) := by decide +kernel
theorem cw_182 : lw_tbl[375]? = some (Jvm.Cond.codeWith yL_say cL_say 5 (some .int) [(0, 7, 10, 13), (0, 7, 14, 15), (0, 7, 18, 17)]) := by decide +kernel
theorem cw_183 : lw_tbl[509]? = some (Jvm.Cond.codeWith yL_menu cL_menu 3 (some .int) [(0, 5, 8, 13), (0, 5, 11, 17)]) := by decide +kernel
theorem cw_184 : lw_tbl[516]? = some (Jvm.Cond.codeWith yL_key cL_key 6 (some .int) [(0, 12, 15, 13), (0, 12, 19, 15), (0, 12, 23, 17)]) := by decide +kernel
theorem cw_185 : lw_tbl[537]? = some (Jvm.Cond.codeWith yL_input cL_input 6 (some .int) [(0, 9, 12, 13), (0, 9, 16, 15), (0, 9, 20, 17)]) := by decide +kernel
theorem cw_186 : lw_tbl[544]? = some (Jvm.Cond.codeWith yL_times cL_times 7 (some .int) [(0, 11, 14, 13), (0, 11, 18, 15), (0, 11, 22, 17)]) := by decide +kernel
theorem cw_187 : lw_tbl[552]? = some (Jvm.Cond.codeWith yL_branch cL_branch 8 (some .int) [(0, 13, 16, 13), (0, 13, 20, 15), (0, 13, 24, 17)]) := by decide +kernel
theorem cw_188 : lw_tbl[563]? = some (Jvm.Cond.codeWith yL_sub cL_sub 5 (some .int) [(0, 7, 10, 13), (0, 7, 14, 17)]) := by decide +kernel
theorem cw_189 : lw_tbl[570]? = some (Jvm.Cond.codeWith yL_back cL_back 3 (some .int) [(0, 5, 8, 13), (0, 5, 11, 17)]) := by decide +kernel
theorem cw_190 : lw_tbl[577]? = some (Jvm.Cond.codeWith yL_queue cL_queue 8 (some .int) [(0, 13, 16, 13), (0, 13, 20, 15), (0, 13, 24, 17)]) := by decide +kernel
theorem cw_191 : lw_tbl[584]? = some (Jvm.Cond.codeWith yL_leaving cL_leaving 4 (some .int) [(0, 6, 9, 13), (0, 6, 12, 17)]) := by decide +kernel
theorem cw_192 : lw_tbl[592]? = some (Jvm.Cond.codeWith yL_callback cL_callback 3 (some .int) [(0, 5, 8, 13), (0, 5, 11, 17)]) := by decide +kernel
theorem cw_193 : lw_tbl[599]? = some (Jvm.Cond.codeWith yL_hours cL_hours 5 (some .int) [(0, 7, 10, 15)]) := by decide +kernel
theorem cw_194 : lw_tbl[606]? = some (Jvm.Cond.codeWith yL_holiday cL_holiday 5 (some .int) [(0, 17, 20, 15)]) := by decide +kernel
theorem cw_195 : lw_tbl[613]? = some (Jvm.Cond.codeWith yL_call cL_call 4 (some .int) [(0, 9, 12, 13), (0, 9, 15, 17)]) := by decide +kernel
theorem cw_196 : lw_tbl[754]? = some (Jvm.Cond.codeWith yL_press cL_press 5 (some .int) [(0, 10, 13, 13), (0, 10, 17, 15), (0, 10, 21, 17)]) := by decide +kernel
theorem cw_197 : lw_tbl[799]? = some (Jvm.Cond.codeWith yL_hang cL_hang 4 (some .int) [(0, 9, 12, 13), (0, 9, 15, 17)]) := by decide +kernel
theorem cw_198 : lw_tbl[807]? = some (Jvm.Cond.codeWith yL_pick cL_pick 4 (some .int) [(0, 9, 12, 13), (0, 9, 15, 17)]) := by decide +kernel
theorem cw_199 : lw_tbl[815]? = some (Jvm.Cond.codeWith yL_signOn cL_signOn 5 (some .int) [(0, 10, 13, 13), (0, 10, 17, 15), (0, 10, 21, 17)]) := by decide +kernel
theorem cw_200 : lw_tbl[832]? = some (Jvm.Cond.codeWith yL_signOff cL_signOff 4 (some .int) [(0, 9, 12, 13), (0, 9, 15, 17)]) := by decide +kernel
theorem cw_201 : lw_tbl[839]? = some (Jvm.Cond.codeWith yL_wrap cL_wrap 5 (some .int) [(0, 10, 13, 13), (0, 10, 17, 15)]) := by decide +kernel
theorem cw_202 : lw_tbl[846]? = some (Jvm.Cond.codeWith yL_finish cL_finish 4 (some .int) [(0, 9, 12, 13), (0, 9, 15, 17)]) := by decide +kernel
theorem cw_203 : lw_tbl[858]? = some (Jvm.Cond.codeWith yL_transfer cL_transfer 5 (some .int) [(0, 10, 13, 13), (0, 10, 17, 17)]) := by decide +kernel
theorem cw_204 : lw_tbl[869]? = some (Jvm.Cond.codeWith yL_pass cL_pass 4 (some .int) [(0, 9, 12, 15), (0, 9, 15, 17)]) := by decide +kernel
theorem cw_205 : lw_tbl[893]? = some (Jvm.Cond.codeWith yL_state cL_state 4 (some .int) [(0, 9, 12, 13)]) := by decide +kernel
theorem cw_206 : lw_tbl[900]? = some (Jvm.Cond.codeWith yL_end cL_end 4 (some .int) [(0, 9, 12, 13)]) := by decide +kernel
theorem cw_207 : lw_tbl[907]? = some (Jvm.Cond.codeWith yL_nodeOf cL_nodeOf 4 (some .int) [(0, 9, 12, 13)]) := by decide +kernel
theorem cw_208 : lw_tbl[914]? = some (Jvm.Cond.codeWith yL_numberOf cL_numberOf 4 (some .int) [(0, 9, 12, 13)]) := by decide +kernel
theorem cw_209 : lw_tbl[921]? = some (Jvm.Cond.codeWith yL_placeOf cL_placeOf 4 (some .int) [(0, 9, 12, 13)]) := by decide +kernel
theorem cw_210 : lw_tbl[928]? = some (Jvm.Cond.codeWith yL_placeByReplay cL_placeByReplay 4 (some .int) [(0, 9, 12, 13)]) := by decide +kernel
theorem cw_211 : lw_tbl[941]? = some (Jvm.Cond.codeWith yL_waiting cL_waiting 4 (some .int) [(0, 9, 12, 15)]) := by decide +kernel
theorem cw_212 : lw_tbl[948]? = some (Jvm.Cond.codeWith yL_agent cL_agent 4 (some .int) [(0, 9, 12, 13)]) := by decide +kernel
theorem cw_213 : lw_tbl[955]? = some (Jvm.Cond.codeWith yL_callOf cL_callOf 4 (some .int) [(0, 9, 12, 13)]) := by decide +kernel
theorem cw_214 : lw_tbl[962]? = some (Jvm.Cond.codeWith yL_ways cL_ways 5 (some .int) [(0, 10, 13, 13)]) := by decide +kernel
theorem cw_215 : lw_tbl[969]? = some (Jvm.Cond.codeWith yL_begun cL_begun 4 (some .int) [(0, 9, 12, 13)]) := by decide +kernel
theorem cw_all (mi : Nat) (h : mi < 216) : cwP (row mi) := allP_at (L := rowL) ⟨cw_0, cw_1, cw_2, cw_3, cw_4, cw_5, cw_6, cw_7, cw_8, cw_9, cw_10, cw_11, cw_12, cw_13, cw_14, cw_15, cw_16, cw_17, cw_18, cw_19, cw_20, cw_21, cw_22, cw_23, cw_24, cw_25, cw_26, cw_27, cw_28, cw_29, cw_30, cw_31, cw_32, cw_33, cw_34, cw_35, cw_36, cw_37, cw_38, cw_39, cw_40, cw_41, cw_42, cw_43, cw_44, cw_45, cw_46, cw_47, cw_48, cw_49, cw_50, cw_51, cw_52, cw_53, cw_54, cw_55, cw_56, cw_57, cw_58, cw_59, cw_60, cw_61, cw_62, cw_63, cw_64, cw_65, cw_66, cw_67, cw_68, cw_69, cw_70, cw_71, cw_72, cw_73, cw_74, cw_75, cw_76, cw_77, cw_78, cw_79, cw_80, cw_81, cw_82, cw_83, cw_84, cw_85, cw_86, cw_87, cw_88, cw_89, cw_90, cw_91, cw_92, cw_93, cw_94, cw_95, cw_96, cw_97, cw_98, cw_99, cw_100, cw_101, cw_102, cw_103, cw_104, cw_105, cw_106, cw_107, cw_108, cw_109, cw_110, cw_111, cw_112, cw_113, cw_114, cw_115, cw_116, cw_117, cw_118, cw_119, cw_120, cw_121, cw_122, cw_123, cw_124, cw_125, cw_126, cw_127, cw_128, cw_129, cw_130, cw_131, cw_132, cw_133, cw_134, cw_135, cw_136, cw_137, cw_138, cw_139, cw_140, cw_141, cw_142, cw_143, cw_144, cw_145, cw_146, cw_147, cw_148, cw_149, cw_150, cw_151, cw_152, cw_153, cw_154, cw_155, cw_156, cw_157, cw_158, cw_159, cw_160, cw_161, cw_162, cw_163, cw_164, cw_165, cw_166, cw_167, cw_168, cw_169, cw_170, cw_171, cw_172, cw_173, cw_174, cw_175, cw_176, cw_177, cw_178, cw_179, cw_180, cw_181, cw_182, cw_183, cw_184, cw_185, cw_186, cw_187, cw_188, cw_189, cw_190, cw_191, cw_192, cw_193, cw_194, cw_195, cw_196, cw_197, cw_198, cw_199, cw_200, cw_201, cw_202, cw_203, cw_204, cw_205, cw_206, cw_207, cw_208, cw_209, cw_210, cw_211, cw_212, cw_213, cw_214, cw_215, trivial⟩ mi h
theorem ck_all (mi : Nat) : (codeT mi).all (fun q => chE (mBy mi) q.1 q.2) = true := all2_at (L1 := codeLs) (L2 := rowL) ⟨ck_0, ck_1, ck_2, ck_3, ck_4, ck_5, ck_6, ck_7, ck_8, ck_9, ck_10, ck_11, ck_12, ck_13, ck_14, ck_15, ck_16, ck_17, ck_18, ck_19, ck_20, ck_21, ck_22, ck_23, ck_24, ck_25, ck_26, ck_27, ck_28, ck_29, ck_30, ck_31, ck_32, ck_33, ck_34, ck_35, ck_36, ck_37, ck_38, ck_39, ck_40, ck_41, ck_42, ck_43, ck_44, ck_45, ck_46, ck_47, ck_48, ck_49, ck_50, ck_51, ck_52, ck_53, ck_54, ck_55, ck_56, ck_57, ck_58, ck_59, ck_60, ck_61, ck_62, ck_63, ck_64, ck_65, ck_66, ck_67, ck_68, ck_69, ck_70, ck_71, ck_72, ck_73, ck_74, ck_75, ck_76, ck_77, ck_78, ck_79, ck_80, ck_81, ck_82, ck_83, ck_84, ck_85, ck_86, ck_87, ck_88, ck_89, ck_90, ck_91, ck_92, ck_93, ck_94, ck_95, ck_96, ck_97, ck_98, ck_99, ck_100, ck_101, ck_102, ck_103, ck_104, ck_105, ck_106, ck_107, ck_108, ck_109, ck_110, ck_111, ck_112, ck_113, ck_114, ck_115, ck_116, ck_117, ck_118, ck_119, ck_120, ck_121, ck_122, ck_123, ck_124, ck_125, ck_126, ck_127, ck_128, ck_129, ck_130, ck_131, ck_132, ck_133, ck_134, ck_135, ck_136, ck_137, ck_138, ck_139, ck_140, ck_141, ck_142, ck_143, ck_144, ck_145, ck_146, ck_147, ck_148, ck_149, ck_150, ck_151, ck_152, ck_153, ck_154, ck_155, ck_156, ck_157, ck_158, ck_159, ck_160, ck_161, ck_162, ck_163, ck_164, ck_165, ck_166, ck_167, ck_168, ck_169, ck_170, ck_171, ck_172, ck_173, ck_174, ck_175, ck_176, ck_177, ck_178, ck_179, ck_180, ck_181, ck_182, ck_183, ck_184, ck_185, ck_186, ck_187, ck_188, ck_189, ck_190, ck_191, ck_192, ck_193, ck_194, ck_195, ck_196, ck_197, ck_198, ck_199, ck_200, ck_201, ck_202, ck_203, ck_204, ck_205, ck_206, ck_207, ck_208, ck_209, ck_210, ck_211, ck_212, ck_213, ck_214, ck_215, trivial⟩ mi
theorem mEnt_ok {mi pc : Nat} {E : ME} (h : mEnt mi pc = some E) : chE (mBy mi) pc E = true := List.all_eq_true.mp (ck_all mi) (pc, E) (lk_mem h)
