/-! ===== the tables are what the bytes and the words say ===== -/
theorem ck_0 : k_0.all (fun q => chE cX0_init q.1 q.2) = true := by decide +kernel
theorem ck_1 : k_1.all (fun q => chE cX0_makeReady q.1 q.2) = true := by decide +kernel
theorem ck_2 : k_2.all (fun q => chE cX0_wrapUp q.1 q.2) = true := by decide +kernel
theorem ck_3 : k_3.all (fun q => chE cX1_init q.1 q.2) = true := by decide +kernel
theorem ck_4 : k_4.all (fun q => chE cX1_write q.1 q.2) = true := by decide +kernel
theorem ck_5 : k_5.all (fun q => chE cX1_strikeCeased q.1 q.2) = true := by decide +kernel
theorem ck_6 : k_6.all (fun q => chE cX1_replay q.1 q.2) = true := by decide +kernel
theorem ck_7 : k_7.all (fun q => chE cX1_placeAt q.1 q.2) = true := by decide +kernel
theorem ck_8 : k_8.all (fun q => chE cX2_init q.1 q.2) = true := by decide +kernel
theorem ck_9 : k_9.all (fun q => chE cX2_put q.1 q.2) = true := by decide +kernel
theorem ck_10 : k_10.all (fun q => chE cX2_targetOf q.1 q.2) = true := by decide +kernel
theorem ck_11 : k_11.all (fun q => chE cX2_someBeginWith q.1 q.2) = true := by decide +kernel
theorem ck_12 : k_12.all (fun q => chE cX3_init q.1 q.2) = true := by decide +kernel
theorem ck_13 : k_13.all (fun q => chE cX3_isInLine q.1 q.2) = true := by decide +kernel
theorem ck_14 : k_14.all (fun q => chE cX3_waitsFor q.1 q.2) = true := by decide +kernel
theorem ck_15 : k_15.all (fun q => chE cX3_canBeTaken q.1 q.2) = true := by decide +kernel
theorem ck_16 : k_16.all (fun q => chE cX3_scoreAt q.1 q.2) = true := by decide +kernel
theorem ck_17 : k_17.all (fun q => chE cX3_claim q.1 q.2) = true := by decide +kernel
theorem ck_18 : k_18.all (fun q => chE cX3_forgetTheWay q.1 q.2) = true := by decide +kernel
theorem ck_19 : k_19.all (fun q => chE cX3_emptyRow q.1 q.2) = true := by decide +kernel
theorem ck_20 : k_20.all (fun q => chE cX3_addDigit q.1 q.2) = true := by decide +kernel
theorem ck_21 : k_21.all (fun q => chE cX3_numberTold q.1 q.2) = true := by decide +kernel
theorem ck_22 : k_22.all (fun q => chE cX3_pushBack q.1 q.2) = true := by decide +kernel
theorem ck_23 : k_23.all (fun q => chE cX3_popBack q.1 q.2) = true := by decide +kernel
theorem ck_24 : k_24.all (fun q => chE cX4_init q.1 q.2) = true := by decide +kernel
theorem ck_25 : k_25.all (fun q => chE cX4_restart q.1 q.2) = true := by decide +kernel
theorem ck_26 : k_26.all (fun q => chE cX4_canGrow q.1 q.2) = true := by decide +kernel
theorem ck_27 : k_27.all (fun q => chE cX5_init q.1 q.2) = true := by decide +kernel
theorem ck_28 : k_28.all (fun q => chE cX5_weekdayAt q.1 q.2) = true := by decide +kernel
theorem ck_29 : k_29.all (fun q => chE cX5_isOpenAt q.1 q.2) = true := by decide +kernel
theorem ck_30 : k_30.all (fun q => chE cX6_init q.1 q.2) = true := by decide +kernel
theorem ck_31 : k_31.all (fun q => chE cX6_say q.1 q.2) = true := by decide +kernel
theorem ck_32 : k_32.all (fun q => chE cX6_menu q.1 q.2) = true := by decide +kernel
theorem ck_33 : k_33.all (fun q => chE cX6_key q.1 q.2) = true := by decide +kernel
theorem ck_34 : k_34.all (fun q => chE cX6_input q.1 q.2) = true := by decide +kernel
theorem ck_35 : k_35.all (fun q => chE cX6_times q.1 q.2) = true := by decide +kernel
theorem ck_36 : k_36.all (fun q => chE cX6_branch q.1 q.2) = true := by decide +kernel
theorem ck_37 : k_37.all (fun q => chE cX6_sub q.1 q.2) = true := by decide +kernel
theorem ck_38 : k_38.all (fun q => chE cX6_back q.1 q.2) = true := by decide +kernel
theorem ck_39 : k_39.all (fun q => chE cX6_queue q.1 q.2) = true := by decide +kernel
theorem ck_40 : k_40.all (fun q => chE cX6_leaving q.1 q.2) = true := by decide +kernel
theorem ck_41 : k_41.all (fun q => chE cX6_callback q.1 q.2) = true := by decide +kernel
theorem ck_42 : k_42.all (fun q => chE cX6_hours q.1 q.2) = true := by decide +kernel
theorem ck_43 : k_43.all (fun q => chE cX6_holiday q.1 q.2) = true := by decide +kernel
theorem ck_44 : k_44.all (fun q => chE cX6_isOpen q.1 q.2) = true := by decide +kernel
theorem ck_45 : k_45.all (fun q => chE cX6_call q.1 q.2) = true := by decide +kernel
theorem ck_46 : k_46.all (fun q => chE cX6_press q.1 q.2) = true := by decide +kernel
theorem ck_47 : k_47.all (fun q => chE cX6_hang q.1 q.2) = true := by decide +kernel
theorem ck_48 : k_48.all (fun q => chE cX6_pick q.1 q.2) = true := by decide +kernel
theorem ck_49 : k_49.all (fun q => chE cX6_signOn q.1 q.2) = true := by decide +kernel
theorem ck_50 : k_50.all (fun q => chE cX6_signOff q.1 q.2) = true := by decide +kernel
theorem ck_51 : k_51.all (fun q => chE cX6_wrap q.1 q.2) = true := by decide +kernel
theorem ck_52 : k_52.all (fun q => chE cX6_finish q.1 q.2) = true := by decide +kernel
theorem ck_53 : k_53.all (fun q => chE cX6_transfer q.1 q.2) = true := by decide +kernel
theorem ck_54 : k_54.all (fun q => chE cX6_pass q.1 q.2) = true := by decide +kernel
theorem ck_55 : k_55.all (fun q => chE cX6_calls q.1 q.2) = true := by decide +kernel
theorem ck_56 : k_56.all (fun q => chE cX6_state q.1 q.2) = true := by decide +kernel
theorem ck_57 : k_57.all (fun q => chE cX6_end q.1 q.2) = true := by decide +kernel
theorem ck_58 : k_58.all (fun q => chE cX6_nodeOf q.1 q.2) = true := by decide +kernel
theorem ck_59 : k_59.all (fun q => chE cX6_numberOf q.1 q.2) = true := by decide +kernel
theorem ck_60 : k_60.all (fun q => chE cX6_placeOf q.1 q.2) = true := by decide +kernel
theorem ck_61 : k_61.all (fun q => chE cX6_placeByReplay q.1 q.2) = true := by decide +kernel
theorem ck_62 : k_62.all (fun q => chE cX6_waiting q.1 q.2) = true := by decide +kernel
theorem ck_63 : k_63.all (fun q => chE cX6_agent q.1 q.2) = true := by decide +kernel
theorem ck_64 : k_64.all (fun q => chE cX6_callOf q.1 q.2) = true := by decide +kernel
theorem ck_65 : k_65.all (fun q => chE cX6_ways q.1 q.2) = true := by decide +kernel
theorem ck_66 : k_66.all (fun q => chE cX6_begun q.1 q.2) = true := by decide +kernel
theorem ck_67 : k_67.all (fun q => chE cX6_requireNode q.1 q.2) = true := by decide +kernel
theorem ck_68 : k_68.all (fun q => chE cX6_requireTarget q.1 q.2) = true := by decide +kernel
theorem ck_69 : k_69.all (fun q => chE cX6_requireCall q.1 q.2) = true := by decide +kernel
theorem ck_70 : k_70.all (fun q => chE cX6_requireAgent q.1 q.2) = true := by decide +kernel
theorem ck_71 : k_71.all (fun q => chE cX6_requireRange q.1 q.2) = true := by decide +kernel
theorem ck_72 : k_72.all (fun q => chE cX6_requireKey q.1 q.2) = true := by decide +kernel
theorem ck_73 : k_73.all (fun q => chE cX6_requireQuiet q.1 q.2) = true := by decide +kernel
theorem ck_74 : k_74.all (fun q => chE cX6_requireNoCall q.1 q.2) = true := by decide +kernel
theorem ck_75 : k_75.all (fun q => chE cX6_requireBusy q.1 q.2) = true := by decide +kernel
theorem ck_76 : k_76.all (fun q => chE cX6_isNode q.1 q.2) = true := by decide +kernel
theorem ck_77 : k_77.all (fun q => chE cX6_isCall q.1 q.2) = true := by decide +kernel
theorem ck_78 : k_78.all (fun q => chE cX6_isAgent q.1 q.2) = true := by decide +kernel
theorem ck_79 : k_79.all (fun q => chE cX6_mostAsked q.1 q.2) = true := by decide +kernel
theorem ck_80 : k_80.all (fun q => chE cX6_bringIn q.1 q.2) = true := by decide +kernel
theorem ck_81 : k_81.all (fun q => chE cX6_lead q.1 q.2) = true := by decide +kernel
theorem ck_82 : k_82.all (fun q => chE cX6_enter q.1 q.2) = true := by decide +kernel
theorem ck_83 : k_83.all (fun q => chE cX6_isSo q.1 q.2) = true := by decide +kernel
theorem ck_84 : k_84.all (fun q => chE cX6_isSomeoneReadyFor q.1 q.2) = true := by decide +kernel
theorem ck_85 : k_85.all (fun q => chE cX6_answerTo q.1 q.2) = true := by decide +kernel
theorem ck_86 : k_86.all (fun q => chE cX6_answerInRow q.1 q.2) = true := by decide +kernel
theorem ck_87 : k_87.all (fun q => chE cX6_endRow q.1 q.2) = true := by decide +kernel
theorem ck_88 : k_88.all (fun q => chE cX6_moveTimedLines q.1 q.2) = true := by decide +kernel
theorem ck_89 : k_89.all (fun q => chE cX6_timeUp q.1 q.2) = true := by decide +kernel
theorem ck_90 : k_90.all (fun q => chE cX6_ringInVain q.1 q.2) = true := by decide +kernel
theorem ck_91 : k_91.all (fun q => chE cX6_close q.1 q.2) = true := by decide +kernel
theorem ck_92 : k_92.all (fun q => chE cX6_turn q.1 q.2) = true := by decide +kernel
theorem ck_93 : k_93.all (fun q => chE cX6_countWay q.1 q.2) = true := by decide +kernel
theorem ck_94 : k_94.all (fun q => chE cX6_endWrappings q.1 q.2) = true := by decide +kernel
theorem ck_95 : k_95.all (fun q => chE cX6_settle q.1 q.2) = true := by decide +kernel
theorem ck_96 : k_96.all (fun q => chE cX6_takeCalls q.1 q.2) = true := by decide +kernel
theorem ck_97 : k_97.all (fun q => chE cX6_nextTaker q.1 q.2) = true := by decide +kernel
theorem ck_98 : k_98.all (fun q => chE cX6_skillsWanted q.1 q.2) = true := by decide +kernel
theorem ck_99 : k_99.all (fun q => chE cX6_firstFor q.1 q.2) = true := by decide +kernel
theorem ck_100 : k_100.all (fun q => chE cX6_take q.1 q.2) = true := by decide +kernel
theorem ck_101 : k_101.all (fun q => chE cX6_letGo q.1 q.2) = true := by decide +kernel
theorem ck_102 : k_102.all (fun q => chE cX6_waitersFor q.1 q.2) = true := by decide +kernel
theorem ck_103 : k_103.all (fun q => chE cX6_isAhead q.1 q.2) = true := by decide +kernel
theorem ck_104 : k_104.all (fun q => chE cX6_scoreOf q.1 q.2) = true := by decide +kernel
theorem ck_180 : k_180.all (fun q => chE cJ9_max_7cf53 q.1 q.2) = true := by decide +kernel
theorem ck_181 : k_181.all (fun q => chE cJ7_fill_53178 q.1 q.2) = true := by decide +kernel
theorem ck_182 : k_182.all (fun q => chE cL_does q.1 q.2) = true := by decide +kernel
theorem ck_183 : k_183.all (fun q => chE cL_tell q.1 q.2) = true := by decide +kernel
theorem ck_184_0 : k_184_0.all (fun q => chE cL_act q.1 q.2) = true := by decide +kernel
theorem ck_184_1 : k_184_1.all (fun q => chE cL_act q.1 q.2) = true := by decide +kernel
theorem ck_184_2 : k_184_2.all (fun q => chE cL_act q.1 q.2) = true := by decide +kernel
theorem ck_184_3 : k_184_3.all (fun q => chE cL_act q.1 q.2) = true := by decide +kernel
theorem ck_184_4 : k_184_4.all (fun q => chE cL_act q.1 q.2) = true := by decide +kernel
theorem ck_184_5 : k_184_5.all (fun q => chE cL_act q.1 q.2) = true := by decide +kernel
theorem ck_184_6 : k_184_6.all (fun q => chE cL_act q.1 q.2) = true := by decide +kernel
theorem ck_184_7 : k_184_7.all (fun q => chE cL_act q.1 q.2) = true := by decide +kernel
theorem ck_184 : k_184.all (fun q => chE cL_act q.1 q.2) = true := by
  unfold k_184
  simp only [List.all_append, ck_184_0, ck_184_1, ck_184_2, ck_184_3, ck_184_4, ck_184_5, ck_184_6, ck_184_7, Bool.and_self]
theorem ck_185_0 : k_185_0.all (fun q => chE cL_refuses q.1 q.2) = true := by decide +kernel
theorem ck_185_1 : k_185_1.all (fun q => chE cL_refuses q.1 q.2) = true := by decide +kernel
theorem ck_185_2 : k_185_2.all (fun q => chE cL_refuses q.1 q.2) = true := by decide +kernel
theorem ck_185_3 : k_185_3.all (fun q => chE cL_refuses q.1 q.2) = true := by decide +kernel
theorem ck_185_4 : k_185_4.all (fun q => chE cL_refuses q.1 q.2) = true := by decide +kernel
theorem ck_185_5 : k_185_5.all (fun q => chE cL_refuses q.1 q.2) = true := by decide +kernel
theorem ck_185_6 : k_185_6.all (fun q => chE cL_refuses q.1 q.2) = true := by decide +kernel
theorem ck_185_7 : k_185_7.all (fun q => chE cL_refuses q.1 q.2) = true := by decide +kernel
theorem ck_185_8 : k_185_8.all (fun q => chE cL_refuses q.1 q.2) = true := by decide +kernel
theorem ck_185_9 : k_185_9.all (fun q => chE cL_refuses q.1 q.2) = true := by decide +kernel
theorem ck_185_10 : k_185_10.all (fun q => chE cL_refuses q.1 q.2) = true := by decide +kernel
theorem ck_185_11 : k_185_11.all (fun q => chE cL_refuses q.1 q.2) = true := by decide +kernel
theorem ck_185_12 : k_185_12.all (fun q => chE cL_refuses q.1 q.2) = true := by decide +kernel
theorem ck_185_13 : k_185_13.all (fun q => chE cL_refuses q.1 q.2) = true := by decide +kernel
theorem ck_185_14 : k_185_14.all (fun q => chE cL_refuses q.1 q.2) = true := by decide +kernel
theorem ck_185_15 : k_185_15.all (fun q => chE cL_refuses q.1 q.2) = true := by decide +kernel
theorem ck_185_16 : k_185_16.all (fun q => chE cL_refuses q.1 q.2) = true := by decide +kernel
theorem ck_185_17 : k_185_17.all (fun q => chE cL_refuses q.1 q.2) = true := by decide +kernel
theorem ck_185_18 : k_185_18.all (fun q => chE cL_refuses q.1 q.2) = true := by decide +kernel
theorem ck_185_19 : k_185_19.all (fun q => chE cL_refuses q.1 q.2) = true := by decide +kernel
theorem ck_185_20 : k_185_20.all (fun q => chE cL_refuses q.1 q.2) = true := by decide +kernel
theorem ck_185_21 : k_185_21.all (fun q => chE cL_refuses q.1 q.2) = true := by decide +kernel
theorem ck_185_22 : k_185_22.all (fun q => chE cL_refuses q.1 q.2) = true := by decide +kernel
theorem ck_185_23 : k_185_23.all (fun q => chE cL_refuses q.1 q.2) = true := by decide +kernel
theorem ck_185_24 : k_185_24.all (fun q => chE cL_refuses q.1 q.2) = true := by decide +kernel
theorem ck_185_25 : k_185_25.all (fun q => chE cL_refuses q.1 q.2) = true := by decide +kernel
theorem ck_185_26 : k_185_26.all (fun q => chE cL_refuses q.1 q.2) = true := by decide +kernel
theorem ck_185_27 : k_185_27.all (fun q => chE cL_refuses q.1 q.2) = true := by decide +kernel
theorem ck_185_28 : k_185_28.all (fun q => chE cL_refuses q.1 q.2) = true := by decide +kernel
theorem ck_185_29 : k_185_29.all (fun q => chE cL_refuses q.1 q.2) = true := by decide +kernel
theorem ck_185_30 : k_185_30.all (fun q => chE cL_refuses q.1 q.2) = true := by decide +kernel
theorem ck_185_31 : k_185_31.all (fun q => chE cL_refuses q.1 q.2) = true := by decide +kernel
theorem ck_185_32 : k_185_32.all (fun q => chE cL_refuses q.1 q.2) = true := by decide +kernel
theorem ck_185_33 : k_185_33.all (fun q => chE cL_refuses q.1 q.2) = true := by decide +kernel
theorem ck_185_34 : k_185_34.all (fun q => chE cL_refuses q.1 q.2) = true := by decide +kernel
theorem ck_185_35 : k_185_35.all (fun q => chE cL_refuses q.1 q.2) = true := by decide +kernel
theorem ck_185_36 : k_185_36.all (fun q => chE cL_refuses q.1 q.2) = true := by decide +kernel
theorem ck_185 : k_185.all (fun q => chE cL_refuses q.1 q.2) = true := by
  unfold k_185
  simp only [List.all_append, ck_185_0, ck_185_1, ck_185_2, ck_185_3, ck_185_4, ck_185_5, ck_185_6, ck_185_7, ck_185_8, ck_185_9, ck_185_10, ck_185_11, ck_185_12, ck_185_13, ck_185_14, ck_185_15, ck_185_16, ck_185_17, ck_185_18, ck_185_19, ck_185_20, ck_185_21, ck_185_22, ck_185_23, ck_185_24, ck_185_25, ck_185_26, ck_185_27, ck_185_28, ck_185_29, ck_185_30, ck_185_31, ck_185_32, ck_185_33, ck_185_34, ck_185_35, ck_185_36, Bool.and_self]
theorem ck_186 : k_186.all (fun q => chE cL_call q.1 q.2) = true := by decide +kernel
theorem ck_187 : k_187.all (fun q => chE cL_menus q.1 q.2) = true := by decide +kernel
theorem ck_188 : k_188.all (fun q => chE cL_subs q.1 q.2) = true := by decide +kernel
theorem ck_189 : k_189.all (fun q => chE cL_queues q.1 q.2) = true := by decide +kernel
theorem ck_190 : k_190.all (fun q => chE cL_agents q.1 q.2) = true := by decide +kernel
def all2 : List (List (Nat × ME)) → List MRow → Prop
  | a :: as, b :: bs => a.all (fun q => chE b.2.1 q.1 q.2) = true ∧ all2 as bs
  | [], _ => True
  | _ :: _, [] => False
theorem all2_at {d : MRow} : ∀ {L1 : List (List (Nat × ME))} {L2 : List MRow}, all2 L1 L2 → ∀ mi : Nat, ((L1[mi]?).getD []).all (fun q => chE ((L2[mi]?).getD d).2.1 q.1 q.2) = true
  | a :: as, b :: bs, h, 0 => h.1
  | a :: as, b :: bs, h, mi + 1 => by
    have := all2_at (d := d) h.2 mi
    simpa using this
  | [], _, _, mi => by simp
  | _ :: _, [], h, _ => h.elim
def cwP (r : MRow) : Prop := lw_tbl[r.2.2.2.2.2]? = some (match r.2.2.2.2.1 with | [] => Jvm.Cond.code r.1 r.2.1 r.2.2.1 r.2.2.2.1 | q :: hh => Jvm.Cond.codeWith r.1 r.2.1 r.2.2.1 r.2.2.2.1 (q :: hh))
def allP : List MRow → Prop
  | r :: rs => cwP r ∧ allP rs
  | [] => True
theorem allP_at {d : MRow} : ∀ {L : List MRow}, allP L → ∀ mi : Nat, mi < L.length → cwP ((L[mi]?).getD d)
  | r :: rs, h, 0, _ => h.1
  | r :: rs, h, mi + 1, hl => by
    have := allP_at (d := d) h.2 mi (by simpa using hl)
    simpa using this
  | [], _, _, hl => absurd hl (by simp)
theorem cw_0 : lw_tbl[271]? = some (Jvm.Cond.code yX0_init cX0_init 1 none) := by decide +kernel
theorem cw_1 : lw_tbl[500]? = some (Jvm.Cond.code yX0_makeReady cX0_makeReady 2 none) := by decide +kernel
theorem cw_2 : lw_tbl[496]? = some (Jvm.Cond.code yX0_wrapUp cX0_wrapUp 2 none) := by decide +kernel
theorem cw_3 : lw_tbl[90]? = some (Jvm.Cond.code yX1_init cX1_init 1 none) := by decide +kernel
theorem cw_4 : lw_tbl[481]? = some (Jvm.Cond.code yX1_write cX1_write 5 none) := by decide +kernel
theorem cw_5 : lw_tbl[594]? = some (Jvm.Cond.code yX1_strikeCeased cX1_strikeCeased 4 none) := by decide +kernel
theorem cw_6 : lw_tbl[598]? = some (Jvm.Cond.code yX1_replay cX1_replay 3 none) := by decide +kernel
theorem cw_7 : lw_tbl[781]? = some (Jvm.Cond.code yX1_placeAt cX1_placeAt 9 (some .int)) := by decide +kernel
theorem cw_8 : lw_tbl[122]? = some (Jvm.Cond.code yX2_init cX2_init 1 none) := by decide +kernel
theorem cw_9 : lw_tbl[714]? = some (Jvm.Cond.code yX2_put cX2_put 4 (some .boolean)) := by decide +kernel
theorem cw_10 : lw_tbl[627]? = some (Jvm.Cond.code yX2_targetOf cX2_targetOf 3 (some .int)) := by decide +kernel
theorem cw_11 : lw_tbl[643]? = some (Jvm.Cond.code yX2_someBeginWith cX2_someBeginWith 3 (some .boolean)) := by decide +kernel
theorem cw_12 : lw_tbl[198]? = some (Jvm.Cond.code yX3_init cX3_init 2 none) := by decide +kernel
theorem cw_13 : lw_tbl[477]? = some (Jvm.Cond.code yX3_isInLine cX3_isInLine 1 (some .boolean)) := by decide +kernel
theorem cw_14 : lw_tbl[531]? = some (Jvm.Cond.code yX3_waitsFor cX3_waitsFor 2 (some .boolean)) := by decide +kernel
theorem cw_15 : lw_tbl[568]? = some (Jvm.Cond.code yX3_canBeTaken cX3_canBeTaken 2 (some .boolean)) := by decide +kernel
theorem cw_16 : lw_tbl[576]? = some (Jvm.Cond.code yX3_scoreAt cX3_scoreAt 2 (some .int)) := by decide +kernel
theorem cw_17 : lw_tbl[548]? = some (Jvm.Cond.code yX3_claim cX3_claim 3 none) := by decide +kernel
theorem cw_18 : lw_tbl[757]? = some (Jvm.Cond.code yX3_forgetTheWay cX3_forgetTheWay 1 none) := by decide +kernel
theorem cw_19 : lw_tbl[512]? = some (Jvm.Cond.code yX3_emptyRow cX3_emptyRow 2 none) := by decide +kernel
theorem cw_20 : lw_tbl[635]? = some (Jvm.Cond.code yX3_addDigit cX3_addDigit 3 none) := by decide +kernel
theorem cw_21 : lw_tbl[631]? = some (Jvm.Cond.code yX3_numberTold cX3_numberTold 3 (some .int)) := by decide +kernel
theorem cw_22 : lw_tbl[540]? = some (Jvm.Cond.code yX3_pushBack cX3_pushBack 2 (some .boolean)) := by decide +kernel
theorem cw_23 : lw_tbl[544]? = some (Jvm.Cond.code yX3_popBack cX3_popBack 1 (some .int)) := by decide +kernel
theorem cw_24 : lw_tbl[116]? = some (Jvm.Cond.code yX4_init cX4_init 1 none) := by decide +kernel
theorem cw_25 : lw_tbl[427]? = some (Jvm.Cond.code yX4_restart cX4_restart 4 none) := by decide +kernel
theorem cw_26 : lw_tbl[639]? = some (Jvm.Cond.code yX4_canGrow cX4_canGrow 3 (some .boolean)) := by decide +kernel
theorem cw_27 : lw_tbl[69]? = some (Jvm.Cond.code yX5_init cX5_init 2 none) := by decide +kernel
theorem cw_28 : lw_tbl[523]? = some (Jvm.Cond.code yX5_weekdayAt cX5_weekdayAt 1 (some .int)) := by decide +kernel
theorem cw_29 : lw_tbl[520]? = some (Jvm.Cond.code yX5_isOpenAt cX5_isOpenAt 5 (some .boolean)) := by decide +kernel
theorem cw_30 : lw_tbl[55]? = some (Jvm.Cond.code yX6_init cX6_init 2 none) := by decide +kernel
theorem cw_31 : lw_tbl[813]? = some (Jvm.Cond.code yX6_say cX6_say 5 none) := by decide +kernel
theorem cw_32 : lw_tbl[328]? = some (Jvm.Cond.code yX6_menu cX6_menu 2 none) := by decide +kernel
theorem cw_33 : lw_tbl[704]? = some (Jvm.Cond.code yX6_key cX6_key 5 (some .int)) := by decide +kernel
theorem cw_34 : lw_tbl[817]? = some (Jvm.Cond.code yX6_input cX6_input 6 none) := by decide +kernel
theorem cw_35 : lw_tbl[821]? = some (Jvm.Cond.code yX6_times cX6_times 7 none) := by decide +kernel
theorem cw_36 : lw_tbl[826]? = some (Jvm.Cond.code yX6_branch cX6_branch 8 none) := by decide +kernel
theorem cw_37 : lw_tbl[834]? = some (Jvm.Cond.code yX6_sub cX6_sub 4 none) := by decide +kernel
theorem cw_38 : lw_tbl[838]? = some (Jvm.Cond.code yX6_back cX6_back 2 none) := by decide +kernel
theorem cw_39 : lw_tbl[431]? = some (Jvm.Cond.code yX6_queue cX6_queue 8 none) := by decide +kernel
theorem cw_40 : lw_tbl[842]? = some (Jvm.Cond.code yX6_leaving cX6_leaving 4 none) := by decide +kernel
theorem cw_41 : lw_tbl[847]? = some (Jvm.Cond.code yX6_callback cX6_callback 2 none) := by decide +kernel
theorem cw_42 : lw_tbl[851]? = some (Jvm.Cond.code yX6_hours cX6_hours 4 none) := by decide +kernel
theorem cw_43 : lw_tbl[722]? = some (Jvm.Cond.code yX6_holiday cX6_holiday 4 (some .boolean)) := by decide +kernel
theorem cw_44 : lw_tbl[802]? = some (Jvm.Cond.code yX6_isOpen cX6_isOpen 1 (some .boolean)) := by decide +kernel
theorem cw_45 : lw_tbl[460]? = some (Jvm.Cond.code yX6_call cX6_call 3 (some .int)) := by decide +kernel
theorem cw_46 : lw_tbl[605]? = some (Jvm.Cond.code yX6_press cX6_press 5 (some .int)) := by decide +kernel
theorem cw_47 : lw_tbl[726]? = some (Jvm.Cond.code yX6_hang cX6_hang 4 (some .int)) := by decide +kernel
theorem cw_48 : lw_tbl[731]? = some (Jvm.Cond.code yX6_pick cX6_pick 3 (some .int)) := by decide +kernel
theorem cw_49 : lw_tbl[647]? = some (Jvm.Cond.code yX6_signOn cX6_signOn 4 (some .int)) := by decide +kernel
theorem cw_50 : lw_tbl[736]? = some (Jvm.Cond.code yX6_signOff cX6_signOff 4 (some .int)) := by decide +kernel
theorem cw_51 : lw_tbl[740]? = some (Jvm.Cond.code yX6_wrap cX6_wrap 5 (some .int)) := by decide +kernel
theorem cw_52 : lw_tbl[744]? = some (Jvm.Cond.code yX6_finish cX6_finish 4 (some .int)) := by decide +kernel
theorem cw_53 : lw_tbl[753]? = some (Jvm.Cond.code yX6_transfer cX6_transfer 6 (some .int)) := by decide +kernel
theorem cw_54 : lw_tbl[661]? = some (Jvm.Cond.code yX6_pass cX6_pass 3 (some .int)) := by decide +kernel
theorem cw_55 : lw_tbl[682]? = some (Jvm.Cond.code yX6_calls cX6_calls 1 (some .int)) := by decide +kernel
theorem cw_56 : lw_tbl[686]? = some (Jvm.Cond.code yX6_state cX6_state 2 (some .int)) := by decide +kernel
theorem cw_57 : lw_tbl[761]? = some (Jvm.Cond.code yX6_end cX6_end 2 (some .int)) := by decide +kernel
theorem cw_58 : lw_tbl[765]? = some (Jvm.Cond.code yX6_nodeOf cX6_nodeOf 2 (some .int)) := by decide +kernel
theorem cw_59 : lw_tbl[769]? = some (Jvm.Cond.code yX6_numberOf cX6_numberOf 2 (some .int)) := by decide +kernel
theorem cw_60 : lw_tbl[773]? = some (Jvm.Cond.code yX6_placeOf cX6_placeOf 7 (some .int)) := by decide +kernel
theorem cw_61 : lw_tbl[777]? = some (Jvm.Cond.code yX6_placeByReplay cX6_placeByReplay 2 (some .int)) := by decide +kernel
theorem cw_62 : lw_tbl[690]? = some (Jvm.Cond.code yX6_waiting cX6_waiting 2 (some .int)) := by decide +kernel
theorem cw_63 : lw_tbl[694]? = some (Jvm.Cond.code yX6_agent cX6_agent 2 (some .int)) := by decide +kernel
theorem cw_64 : lw_tbl[787]? = some (Jvm.Cond.code yX6_callOf cX6_callOf 2 (some .int)) := by decide +kernel
theorem cw_65 : lw_tbl[791]? = some (Jvm.Cond.code yX6_ways cX6_ways 3 (some .int)) := by decide +kernel
theorem cw_66 : lw_tbl[795]? = some (Jvm.Cond.code yX6_begun cX6_begun 2 (some .int)) := by decide +kernel
theorem cw_67 : lw_tbl[332]? = some (Jvm.Cond.code yX6_requireNode cX6_requireNode 2 none) := by decide +kernel
theorem cw_68 : lw_tbl[435]? = some (Jvm.Cond.code yX6_requireTarget cX6_requireTarget 2 none) := by decide +kernel
theorem cw_69 : lw_tbl[609]? = some (Jvm.Cond.code yX6_requireCall cX6_requireCall 2 none) := by decide +kernel
theorem cw_70 : lw_tbl[651]? = some (Jvm.Cond.code yX6_requireAgent cX6_requireAgent 2 none) := by decide +kernel
theorem cw_71 : lw_tbl[440]? = some (Jvm.Cond.code yX6_requireRange cX6_requireRange 4 none) := by decide +kernel
theorem cw_72 : lw_tbl[708]? = some (Jvm.Cond.code yX6_requireKey cX6_requireKey 5 none) := by decide +kernel
theorem cw_73 : lw_tbl[407]? = some (Jvm.Cond.code yX6_requireQuiet cX6_requireQuiet 2 none) := by decide +kernel
theorem cw_74 : lw_tbl[656]? = some (Jvm.Cond.code yX6_requireNoCall cX6_requireNoCall 2 none) := by decide +kernel
theorem cw_75 : lw_tbl[748]? = some (Jvm.Cond.code yX6_requireBusy cX6_requireBusy 2 none) := by decide +kernel
theorem cw_76 : lw_tbl[335]? = some (Jvm.Cond.code yX6_isNode cX6_isNode 1 (some .boolean)) := by decide +kernel
theorem cw_77 : lw_tbl[586]? = some (Jvm.Cond.code yX6_isCall cX6_isCall 2 (some .boolean)) := by decide +kernel
theorem cw_78 : lw_tbl[492]? = some (Jvm.Cond.code yX6_isAgent cX6_isAgent 1 (some .boolean)) := by decide +kernel
theorem cw_79 : lw_tbl[829]? = some (Jvm.Cond.code yX6_mostAsked cX6_mostAsked 1 (some .int)) := by decide +kernel
theorem cw_80 : lw_tbl[465]? = some (Jvm.Cond.code yX6_bringIn cX6_bringIn 3 none) := by decide +kernel
theorem cw_81 : lw_tbl[469]? = some (Jvm.Cond.code yX6_lead cX6_lead 5 none) := by decide +kernel
theorem cw_82 : lw_tbl[508]? = some (Jvm.Cond.code yX6_enter cX6_enter 3 (some .int)) := by decide +kernel
theorem cw_83 : lw_tbl[516]? = some (Jvm.Cond.code yX6_isSo cX6_isSo 3 (some .boolean)) := by decide +kernel
theorem cw_84 : lw_tbl[536]? = some (Jvm.Cond.code yX6_isSomeoneReadyFor cX6_isSomeoneReadyFor 4 (some .boolean)) := by decide +kernel
theorem cw_85 : lw_tbl[615]? = some (Jvm.Cond.code yX6_answerTo cX6_answerTo 4 (some .int)) := by decide +kernel
theorem cw_86 : lw_tbl[619]? = some (Jvm.Cond.code yX6_answerInRow cX6_answerInRow 4 (some .int)) := by decide +kernel
theorem cw_87 : lw_tbl[623]? = some (Jvm.Cond.code yX6_endRow cX6_endRow 4 (some .int)) := by decide +kernel
theorem cw_88 : lw_tbl[666]? = some (Jvm.Cond.code yX6_moveTimedLines cX6_moveTimedLines 4 none) := by decide +kernel
theorem cw_89 : lw_tbl[674]? = some (Jvm.Cond.code yX6_timeUp cX6_timeUp 3 (some .int)) := by decide +kernel
theorem cw_90 : lw_tbl[670]? = some (Jvm.Cond.code yX6_ringInVain cX6_ringInVain 2 none) := by decide +kernel
theorem cw_91 : lw_tbl[485]? = some (Jvm.Cond.code yX6_close cX6_close 3 none) := by decide +kernel
theorem cw_92 : lw_tbl[473]? = some (Jvm.Cond.code yX6_turn cX6_turn 3 none) := by decide +kernel
theorem cw_93 : lw_tbl[504]? = some (Jvm.Cond.code yX6_countWay cX6_countWay 4 none) := by decide +kernel
theorem cw_94 : lw_tbl[678]? = some (Jvm.Cond.code yX6_endWrappings cX6_endWrappings 3 none) := by decide +kernel
theorem cw_95 : lw_tbl[552]? = some (Jvm.Cond.code yX6_settle cX6_settle 1 none) := by decide +kernel
theorem cw_96 : lw_tbl[556]? = some (Jvm.Cond.code yX6_takeCalls cX6_takeCalls 4 none) := by decide +kernel
theorem cw_97 : lw_tbl[560]? = some (Jvm.Cond.code yX6_nextTaker cX6_nextTaker 7 (some .int)) := by decide +kernel
theorem cw_98 : lw_tbl[564]? = some (Jvm.Cond.code yX6_skillsWanted cX6_skillsWanted 4 (some .int)) := by decide +kernel
theorem cw_99 : lw_tbl[572]? = some (Jvm.Cond.code yX6_firstFor cX6_firstFor 7 (some .int)) := by decide +kernel
theorem cw_100 : lw_tbl[590]? = some (Jvm.Cond.code yX6_take cX6_take 5 none) := by decide +kernel
theorem cw_101 : lw_tbl[489]? = some (Jvm.Cond.code yX6_letGo cX6_letGo 3 none) := by decide +kernel
theorem cw_102 : lw_tbl[527]? = some (Jvm.Cond.code yX6_waitersFor cX6_waitersFor 4 (some .int)) := by decide +kernel
theorem cw_103 : lw_tbl[582]? = some (Jvm.Cond.code yX6_isAhead cX6_isAhead 4 (some .boolean)) := by decide +kernel
theorem cw_104 : lw_tbl[579]? = some (Jvm.Cond.code yX6_scoreOf cX6_scoreOf 2 (some .int)) := by decide +kernel
theorem cw_180 : lw_tbl[717]? = some (Jvm.Cond.code yJ9_max_7cf53 cJ9_max_7cf53 2 (some .int)) := by decide +kernel
theorem cw_181 : lw_tbl[601]? = some (Jvm.Cond.code yJ7_fill_53178 cJ7_fill_53178 4 none) := by decide +kernel
theorem cw_182 : lw_tbl[809]? = some (Jvm.Cond.code yL_does cL_does 8 none) := by decide +kernel
theorem cw_183 : lw_tbl[806]? = some (Jvm.Cond.codeWith yL_tell cL_tell 9 (some .int) [(0, 16, 17, 54), (0, 16, 22, 56), (0, 16, 27, 58)]) := by decide +kernel
theorem cw_184 : lw_tbl[697]? = some (Jvm.Cond.codeWith yL_act cL_act 6 (some .int) [(0, 332, 333, 54), (0, 332, 338, 56), (0, 332, 343, 58)]) := by decide +kernel
set_option maxRecDepth 100000 in
theorem cw_185 : lw_tbl[798]? = some (Jvm.Cond.code yL_refuses cL_refuses 18 (some .boolean)) := by rfl
theorem cw_186 : lw_tbl[858]? = some (Jvm.Cond.code yL_call cL_call 6 (some .boolean)) := by decide +kernel
set_option maxRecDepth 100000 in
theorem cw_187 : lw_tbl[855]? = some (Jvm.Cond.code yL_menus cL_menus 2 (some .boolean)) := by rfl
set_option maxRecDepth 100000 in
theorem cw_188 : lw_tbl[861]? = some (Jvm.Cond.code yL_subs cL_subs 4 (some .boolean)) := by rfl
set_option maxRecDepth 100000 in
theorem cw_189 : lw_tbl[864]? = some (Jvm.Cond.code yL_queues cL_queues 2 (some .boolean)) := by rfl
set_option maxRecDepth 100000 in
theorem cw_190 : lw_tbl[867]? = some (Jvm.Cond.code yL_agents cL_agents 2 (some .boolean)) := by rfl
theorem cw_all (mi : Nat) (h : mi < 191) : cwP (row mi) := allP_at (L := rowL) ⟨cw_0, cw_1, cw_2, cw_3, cw_4, cw_5, cw_6, cw_7, cw_8, cw_9, cw_10, cw_11, cw_12, cw_13, cw_14, cw_15, cw_16, cw_17, cw_18, cw_19, cw_20, cw_21, cw_22, cw_23, cw_24, cw_25, cw_26, cw_27, cw_28, cw_29, cw_30, cw_31, cw_32, cw_33, cw_34, cw_35, cw_36, cw_37, cw_38, cw_39, cw_40, cw_41, cw_42, cw_43, cw_44, cw_45, cw_46, cw_47, cw_48, cw_49, cw_50, cw_51, cw_52, cw_53, cw_54, cw_55, cw_56, cw_57, cw_58, cw_59, cw_60, cw_61, cw_62, cw_63, cw_64, cw_65, cw_66, cw_67, cw_68, cw_69, cw_70, cw_71, cw_72, cw_73, cw_74, cw_75, cw_76, cw_77, cw_78, cw_79, cw_80, cw_81, cw_82, cw_83, cw_84, cw_85, cw_86, cw_87, cw_88, cw_89, cw_90, cw_91, cw_92, cw_93, cw_94, cw_95, cw_96, cw_97, cw_98, cw_99, cw_100, cw_101, cw_102, cw_103, cw_104, cw_0, cw_0, cw_0, cw_0, cw_0, cw_0, cw_0, cw_0, cw_0, cw_0, cw_0, cw_0, cw_0, cw_0, cw_0, cw_0, cw_0, cw_0, cw_0, cw_0, cw_0, cw_0, cw_0, cw_0, cw_0, cw_0, cw_0, cw_0, cw_0, cw_0, cw_0, cw_0, cw_0, cw_0, cw_0, cw_0, cw_0, cw_0, cw_0, cw_0, cw_0, cw_0, cw_0, cw_0, cw_0, cw_0, cw_0, cw_0, cw_0, cw_0, cw_0, cw_0, cw_0, cw_0, cw_0, cw_0, cw_0, cw_0, cw_0, cw_0, cw_0, cw_0, cw_0, cw_0, cw_0, cw_0, cw_0, cw_0, cw_0, cw_0, cw_0, cw_0, cw_0, cw_0, cw_0, cw_180, cw_181, cw_182, cw_183, cw_184, cw_185, cw_186, cw_187, cw_188, cw_189, cw_190, trivial⟩ mi h
theorem ck_all (mi : Nat) : (codeT mi).all (fun q => chE (mBy mi) q.1 q.2) = true := all2_at (L1 := codeLs) (L2 := rowL) ⟨ck_0, ck_1, ck_2, ck_3, ck_4, ck_5, ck_6, ck_7, ck_8, ck_9, ck_10, ck_11, ck_12, ck_13, ck_14, ck_15, ck_16, ck_17, ck_18, ck_19, ck_20, ck_21, ck_22, ck_23, ck_24, ck_25, ck_26, ck_27, ck_28, ck_29, ck_30, ck_31, ck_32, ck_33, ck_34, ck_35, ck_36, ck_37, ck_38, ck_39, ck_40, ck_41, ck_42, ck_43, ck_44, ck_45, ck_46, ck_47, ck_48, ck_49, ck_50, ck_51, ck_52, ck_53, ck_54, ck_55, ck_56, ck_57, ck_58, ck_59, ck_60, ck_61, ck_62, ck_63, ck_64, ck_65, ck_66, ck_67, ck_68, ck_69, ck_70, ck_71, ck_72, ck_73, ck_74, ck_75, ck_76, ck_77, ck_78, ck_79, ck_80, ck_81, ck_82, ck_83, ck_84, ck_85, ck_86, ck_87, ck_88, ck_89, ck_90, ck_91, ck_92, ck_93, ck_94, ck_95, ck_96, ck_97, ck_98, ck_99, ck_100, ck_101, ck_102, ck_103, ck_104, ck_0, ck_0, ck_0, ck_0, ck_0, ck_0, ck_0, ck_0, ck_0, ck_0, ck_0, ck_0, ck_0, ck_0, ck_0, ck_0, ck_0, ck_0, ck_0, ck_0, ck_0, ck_0, ck_0, ck_0, ck_0, ck_0, ck_0, ck_0, ck_0, ck_0, ck_0, ck_0, ck_0, ck_0, ck_0, ck_0, ck_0, ck_0, ck_0, ck_0, ck_0, ck_0, ck_0, ck_0, ck_0, ck_0, ck_0, ck_0, ck_0, ck_0, ck_0, ck_0, ck_0, ck_0, ck_0, ck_0, ck_0, ck_0, ck_0, ck_0, ck_0, ck_0, ck_0, ck_0, ck_0, ck_0, ck_0, ck_0, ck_0, ck_0, ck_0, ck_0, ck_0, ck_0, ck_0, ck_180, ck_181, ck_182, ck_183, ck_184, ck_185, ck_186, ck_187, ck_188, ck_189, ck_190, trivial⟩ mi
theorem mEnt_ok {mi pc : Nat} {E : ME} (h : mEnt mi pc = some E) : chE (mBy mi) pc E = true := List.all_eq_true.mp (ck_all mi) (pc, E) (lk_mem h)
