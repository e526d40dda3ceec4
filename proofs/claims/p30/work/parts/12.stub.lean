theorem gL_isSound_L_whole : GoodIn wsL_isSound (va_wsS RL 92 yL_whole wsL_whole) := sorry
theorem gL_isSound_L_inBeing : GoodIn wsL_isSound (va_wsS RL 97 yL_inBeing wsL_inBeing) := sorry
theorem gL_isSound_L_team : GoodIn wsL_isSound (va_wsS RL 99 yL_team wsL_team) := sorry
theorem gL_isSound_L_exemptible : GoodIn wsL_isSound (va_wsS RL 102 yL_exemptible wsL_exemptible) := sorry
theorem gL_isSound_L_lender : GoodIn wsL_isSound (va_wsS RL 104 yL_lender wsL_lender) := sorry
theorem gL_isSound_L_change : GoodIn wsL_isSound (va_wsS RL 106 yL_change wsL_change) := sorry
theorem gL_isSound_L_reason : GoodIn wsL_isSound (va_wsS RL 108 yL_reason wsL_reason) := sorry
theorem gL_isSound_L_waiting : GoodIn wsL_isSound (va_wsS RL 110 yL_waiting wsL_waiting) := sorry
theorem gL_isSound_L_loan : GoodIn wsL_isSound (va_wsS RL 112 yL_loan wsL_loan) := sorry
theorem gL_weeks_L_whole : GoodIn wsL_weeks (va_wsS RL 92 yL_whole wsL_whole) := sorry
theorem gL_weeks_L_weeksUntil : GoodIn wsL_weeks (va_wsS RL 114 yL_weeksUntil wsL_weeksUntil) := sorry
theorem gL_weeks_L_inBeing : GoodIn wsL_weeks (va_wsS RL 97 yL_inBeing wsL_inBeing) := sorry
theorem gL_weeks_L_team : GoodIn wsL_weeks (va_wsS RL 99 yL_team wsL_team) := sorry
theorem gL_weeks_L_endWeek : GoodIn wsL_weeks (va_wsS RL 116 yL_endWeek wsL_endWeek) := sorry
theorem gL_exempts_L_exemptible : GoodIn wsL_exempts (va_wsS RL 102 yL_exemptible wsL_exemptible) := sorry
theorem gL_exempts_L_waiting : GoodIn wsL_exempts (va_wsS RL 110 yL_waiting wsL_waiting) := sorry
theorem gL_exempts_L_change : GoodIn wsL_exempts (va_wsS RL 106 yL_change wsL_change) := sorry
theorem gL_exempts_L_reason : GoodIn wsL_exempts (va_wsS RL 108 yL_reason wsL_reason) := sorry
theorem gL_exempts_L_whole : GoodIn wsL_exempts (va_wsS RL 92 yL_whole wsL_whole) := sorry
theorem gL_exempts_L_team : GoodIn wsL_exempts (va_wsS RL 99 yL_team wsL_team) := sorry
theorem gL_exempts_L_exempt : GoodIn wsL_exempts (va_wsS RL 119 yL_exempt wsL_exempt) := sorry
theorem gL_digits_L_type : GoodIn wsL_digits (va_wsS RL 121 yL_type wsL_type) := sorry
theorem gL_runs_X8_clearCommands : GoodIn wsL_runs (wsV RL 123 RX8 yX8_clearCommands wsX8_clearCommands) := sorry
theorem gL_runs_X8_runCommands : GoodIn wsL_runs (wsV RL 126 RX8 yX8_runCommands wsX8_runCommands) := sorry
theorem gL_runs_L_undo : GoodIn wsL_runs (va_wsS RL 129 yL_undo wsL_undo) := sorry
theorem gL_runs_L_type : GoodIn wsL_runs (va_wsS RL 121 yL_type wsL_type) := sorry
theorem gL_runs_L_digits : GoodIn wsL_runs (va_wsS RL 131 yL_digits wsL_digits) := sorry
theorem gL_runs_L_whole : GoodIn wsL_runs (va_wsS RL 92 yL_whole wsL_whole) := sorry
theorem gL_runs_L_ask : GoodIn wsL_runs (va_wsS RL 134 yL_ask wsL_ask) := sorry
theorem gL_runs_L_endWeek : GoodIn wsL_runs (va_wsS RL 116 yL_endWeek wsL_endWeek) := sorry
theorem gL_refuses_X8_digest : GoodIn wsL_refuses (wsV RL 136 RX8 yX8_digest wsX8_digest) := sorry
theorem gL_refuses_L_whole : GoodIn wsL_refuses (va_wsS RL 92 yL_whole wsL_whole) := sorry
theorem gL_refuses_L_addTeam : GoodIn wsL_refuses (va_wsS RL 140 yL_addTeam wsL_addTeam) := sorry
theorem gL_refuses_L_freeze : GoodIn wsL_refuses (va_wsS RL 142 yL_freeze wsL_freeze) := sorry
theorem gL_refuses_L_set : GoodIn wsL_refuses (va_wsS RL 145 yL_set wsL_set) := sorry
theorem gL_refuses_L_ask : GoodIn wsL_refuses (va_wsS RL 134 yL_ask wsL_ask) := sorry
theorem gL_refuses_L_exempt : GoodIn wsL_refuses (va_wsS RL 119 yL_exempt wsL_exempt) := sorry
theorem gL_refuses_L_make : GoodIn wsL_refuses (va_wsS RL 147 yL_make wsL_make) := sorry
theorem gL_refuses_L_giveUp : GoodIn wsL_refuses (va_wsS RL 150 yL_giveUp wsL_giveUp) := sorry
theorem gL_refuses_L_lend : GoodIn wsL_refuses (va_wsS RL 152 yL_lend wsL_lend) := sorry
theorem gL_refuses_L_repay : GoodIn wsL_refuses (va_wsS RL 155 yL_repay wsL_repay) := sorry
theorem gL_refuses_L_team : GoodIn wsL_refuses (va_wsS RL 99 yL_team wsL_team) := sorry
theorem gL_refuses_L_change : GoodIn wsL_refuses (va_wsS RL 106 yL_change wsL_change) := sorry
theorem gL_refuses_L_loan : GoodIn wsL_refuses (va_wsS RL 112 yL_loan wsL_loan) := sorry
theorem gL_refuses_L_waiting : GoodIn wsL_refuses (va_wsS RL 110 yL_waiting wsL_waiting) := sorry
theorem gL_refuses_L_frozen : GoodIn wsL_refuses (va_wsS RL 157 yL_frozen wsL_frozen) := sorry
theorem gL_refuses_L_reason : GoodIn wsL_refuses (va_wsS RL 108 yL_reason wsL_reason) := sorry
theorem gL_refuses_L_exemptible : GoodIn wsL_refuses (va_wsS RL 102 yL_exemptible wsL_exemptible) := sorry
theorem gL_refuses_L_weeksUntil : GoodIn wsL_refuses (va_wsS RL 114 yL_weeksUntil wsL_weeksUntil) := sorry
theorem gL_refuses_L_lender : GoodIn wsL_refuses (va_wsS RL 104 yL_lender wsL_lender) := sorry
theorem gL_refuses_L_inBeing : GoodIn wsL_refuses (va_wsS RL 97 yL_inBeing wsL_inBeing) := sorry
theorem gL_refuses_L_type : GoodIn wsL_refuses (va_wsS RL 121 yL_type wsL_type) := sorry
theorem gL_acts_L_whole : GoodIn wsL_acts (va_wsS RL 92 yL_whole wsL_whole) := sorry
theorem gL_acts_L_addTeam : GoodIn wsL_acts (va_wsS RL 140 yL_addTeam wsL_addTeam) := sorry
theorem gL_acts_L_freeze : GoodIn wsL_acts (va_wsS RL 142 yL_freeze wsL_freeze) := sorry
theorem gL_acts_L_set : GoodIn wsL_acts (va_wsS RL 145 yL_set wsL_set) := sorry
theorem gL_acts_L_ask : GoodIn wsL_acts (va_wsS RL 134 yL_ask wsL_ask) := sorry
theorem gL_acts_L_exempts : GoodIn wsL_acts (va_wsS RL 159 yL_exempts wsL_exempts) := sorry
theorem gL_acts_L_make : GoodIn wsL_acts (va_wsS RL 147 yL_make wsL_make) := sorry
theorem gL_acts_L_giveUp : GoodIn wsL_acts (va_wsS RL 150 yL_giveUp wsL_giveUp) := sorry
theorem gL_acts_L_lend : GoodIn wsL_acts (va_wsS RL 152 yL_lend wsL_lend) := sorry
theorem gL_acts_L_repay : GoodIn wsL_acts (va_wsS RL 155 yL_repay wsL_repay) := sorry
theorem gL_acts_L_runs : GoodIn wsL_acts (va_wsS RL 163 yL_runs wsL_runs) := sorry
theorem gL_acts_L_weeks : GoodIn wsL_acts (va_wsS RL 167 yL_weeks wsL_weeks) := sorry
theorem gL_acts_L_endWeek : GoodIn wsL_acts (va_wsS RL 116 yL_endWeek wsL_endWeek) := sorry
theorem gL_law_X8_init : GoodIn wsL_law (wsX8_init) := sorry
theorem gL_law_L_undo : GoodIn wsL_law (va_wsS RL 129 yL_undo wsL_undo) := sorry
theorem gL_law_X8_nextThaw : GoodIn wsL_law (wsV RL 172 RX8 yX8_nextThaw wsX8_nextThaw) := sorry
theorem gL_law_L_whole : GoodIn wsL_law (va_wsS RL 92 yL_whole wsL_whole) := sorry
theorem gL_law_L_inBeing : GoodIn wsL_law (va_wsS RL 97 yL_inBeing wsL_inBeing) := sorry
theorem gL_law_L_cell : GoodIn wsL_law (va_wsS RL 175 yL_cell wsL_cell) := sorry
theorem gL_law_L_addTeam : GoodIn wsL_law (va_wsS RL 140 yL_addTeam wsL_addTeam) := sorry
theorem gL_law_L_acts : GoodIn wsL_law (va_wsS RL 179 yL_acts wsL_acts) := sorry
theorem gL_law_L_isSound : GoodIn wsL_law (va_wsS RL 182 yL_isSound wsL_isSound) := sorry
theorem gL_law_L_refuses : GoodIn wsL_law (va_wsS RL 186 yL_refuses wsL_refuses) := sorry
theorem dL_law_0 : decode cL_law 0 = .ok (.new 10, 3) := by decide +kernel
theorem dL_law_3 : decode cL_law 3 = .ok (.dup, 1) := by decide +kernel
theorem dL_law_4 : decode cL_law 4 = .ok (.invokespecial 171, 3) := by decide +kernel
theorem dL_law_7 : decode cL_law 7 = .ok (.astore_n 1, 1) := by decide +kernel
theorem dL_law_8 : decode cL_law 8 = .ok (.aload_n 1, 1) := by decide +kernel
theorem dL_law_9 : decode cL_law 9 = .ok (.invokestatic 129, 3) := by decide +kernel
theorem dL_law_12 : decode cL_law 12 = .ok (.bipush (-11), 2) := by decide +kernel
theorem dL_law_14 : decode cL_law 14 = .ok (.if_icmp .ne 32, 3) := by decide +kernel
theorem dL_law_17 : decode cL_law 17 = .ok (.aload_n 1, 1) := by decide +kernel
theorem dL_law_18 : decode cL_law 18 = .ok (.invokevirtual 172, 3) := by decide +kernel
theorem dL_law_21 : decode cL_law 21 = .ok (.ifCond .ne 25, 3) := by decide +kernel
theorem dL_law_24 : decode cL_law 24 = .ok (.aload_n 1, 1) := by decide +kernel
theorem dL_law_25 : decode cL_law 25 = .ok (.iconst 4, 1) := by decide +kernel
theorem dL_law_26 : decode cL_law 26 = .ok (.invokestatic 92, 3) := by decide +kernel
theorem dL_law_29 : decode cL_law 29 = .ok (.iconst 3, 1) := by decide +kernel
theorem dL_law_30 : decode cL_law 30 = .ok (.if_icmp .ne 16, 3) := by decide +kernel
theorem dL_law_33 : decode cL_law 33 = .ok (.aload_n 1, 1) := by decide +kernel
theorem dL_law_34 : decode cL_law 34 = .ok (.bipush 39, 2) := by decide +kernel
theorem dL_law_36 : decode cL_law 36 = .ok (.invokestatic 97, 3) := by decide +kernel
theorem dL_law_39 : decode cL_law 39 = .ok (.ifCond .ne 7, 3) := by decide +kernel
theorem dL_law_42 : decode cL_law 42 = .ok (.iconst 1, 1) := by decide +kernel
theorem dL_law_43 : decode cL_law 43 = .ok (.goto 4, 3) := by decide +kernel
theorem dL_law_46 : decode cL_law 46 = .ok (.iconst 0, 1) := by decide +kernel
theorem dL_law_47 : decode cL_law 47 = .ok (.istore_n 2, 1) := by decide +kernel
theorem dL_law_48 : decode cL_law 48 = .ok (.iconst 0, 1) := by decide +kernel
theorem dL_law_49 : decode cL_law 49 = .ok (.istore_n 3, 1) := by decide +kernel
theorem dL_law_50 : decode cL_law 50 = .ok (.iload_n 3, 1) := by decide +kernel
theorem dL_law_51 : decode cL_law 51 = .ok (.iconst 2, 1) := by decide +kernel
theorem dL_law_52 : decode cL_law 52 = .ok (.if_icmp .ge 35, 3) := by decide +kernel
theorem dL_law_55 : decode cL_law 55 = .ok (.iload_n 2, 1) := by decide +kernel
theorem dL_law_56 : decode cL_law 56 = .ok (.ifCond .eq 31, 3) := by decide +kernel
theorem dL_law_59 : decode cL_law 59 = .ok (.aload_n 1, 1) := by decide +kernel
theorem dL_law_60 : decode cL_law 60 = .ok (.aload_n 0, 1) := by decide +kernel
theorem dL_law_61 : decode cL_law 61 = .ok (.iload_n 3, 1) := by decide +kernel
theorem dL_law_62 : decode cL_law 62 = .ok (.invokestatic 175, 3) := by decide +kernel
theorem dL_law_65 : decode cL_law 65 = .ok (.bipush 60, 2) := by decide +kernel
theorem dL_law_67 : decode cL_law 67 = .ok (.irem, 1) := by decide +kernel
theorem dL_law_68 : decode cL_law 68 = .ok (.invokestatic 140, 3) := by decide +kernel
theorem dL_law_71 : decode cL_law 71 = .ok (.iload_n 3, 1) := by decide +kernel
theorem dL_law_72 : decode cL_law 72 = .ok (.if_icmp .ne 7, 3) := by decide +kernel
theorem dL_law_75 : decode cL_law 75 = .ok (.iconst 1, 1) := by decide +kernel
theorem dL_law_76 : decode cL_law 76 = .ok (.goto 4, 3) := by decide +kernel
theorem dL_law_79 : decode cL_law 79 = .ok (.iconst 0, 1) := by decide +kernel
theorem dL_law_80 : decode cL_law 80 = .ok (.istore_n 2, 1) := by decide +kernel
theorem dL_law_81 : decode cL_law 81 = .ok (.iinc 3 1, 3) := by decide +kernel
theorem dL_law_84 : decode cL_law 84 = .ok (.goto (-34), 3) := by decide +kernel
theorem dL_law_87 : decode cL_law 87 = .ok (.iconst 2, 1) := by decide +kernel
theorem dL_law_88 : decode cL_law 88 = .ok (.istore_n 3, 1) := by decide +kernel
theorem dL_law_89 : decode cL_law 89 = .ok (.iload_n 3, 1) := by decide +kernel
theorem dL_law_90 : decode cL_law 90 = .ok (.bipush 22, 2) := by decide +kernel
theorem dL_law_92 : decode cL_law 92 = .ok (.if_icmp .ge 44, 3) := by decide +kernel
theorem dL_law_95 : decode cL_law 95 = .ok (.iload_n 2, 1) := by decide +kernel
theorem dL_law_96 : decode cL_law 96 = .ok (.ifCond .eq 40, 3) := by decide +kernel
theorem dL_law_99 : decode cL_law 99 = .ok (.aload_n 1, 1) := by decide +kernel
theorem dL_law_100 : decode cL_law 100 = .ok (.aload_n 0, 1) := by decide +kernel
theorem dL_law_101 : decode cL_law 101 = .ok (.iload_n 3, 1) := by decide +kernel
theorem dL_law_102 : decode cL_law 102 = .ok (.invokestatic 175, 3) := by decide +kernel
theorem dL_law_105 : decode cL_law 105 = .ok (.invokestatic 179, 3) := by decide +kernel
theorem dL_law_108 : decode cL_law 108 = .ok (.ifCond .eq 20, 3) := by decide +kernel
theorem dL_law_111 : decode cL_law 111 = .ok (.iload_n 3, 1) := by decide +kernel
theorem dL_law_112 : decode cL_law 112 = .ok (.iconst 3, 1) := by decide +kernel
theorem dL_law_113 : decode cL_law 113 = .ok (.irem, 1) := by decide +kernel
theorem dL_law_114 : decode cL_law 114 = .ok (.ifCond .ne 10, 3) := by decide +kernel
theorem dL_law_117 : decode cL_law 117 = .ok (.aload_n 1, 1) := by decide +kernel
theorem dL_law_118 : decode cL_law 118 = .ok (.invokestatic 182, 3) := by decide +kernel
theorem dL_law_121 : decode cL_law 121 = .ok (.ifCond .eq 7, 3) := by decide +kernel
theorem dL_law_124 : decode cL_law 124 = .ok (.iconst 1, 1) := by decide +kernel
theorem dL_law_125 : decode cL_law 125 = .ok (.goto 4, 3) := by decide +kernel
theorem dL_law_128 : decode cL_law 128 = .ok (.iconst 0, 1) := by decide +kernel
theorem dL_law_129 : decode cL_law 129 = .ok (.istore_n 2, 1) := by decide +kernel
theorem dL_law_130 : decode cL_law 130 = .ok (.iinc 3 1, 3) := by decide +kernel
theorem dL_law_133 : decode cL_law 133 = .ok (.goto (-44), 3) := by decide +kernel
theorem dL_law_136 : decode cL_law 136 = .ok (.iload_n 2, 1) := by decide +kernel
theorem dL_law_137 : decode cL_law 137 = .ok (.ifCond .eq 21, 3) := by decide +kernel
theorem dL_law_140 : decode cL_law 140 = .ok (.aload_n 1, 1) := by decide +kernel
theorem dL_law_141 : decode cL_law 141 = .ok (.invokestatic 182, 3) := by decide +kernel
theorem dL_law_144 : decode cL_law 144 = .ok (.ifCond .eq 14, 3) := by decide +kernel
theorem dL_law_147 : decode cL_law 147 = .ok (.aload_n 1, 1) := by decide +kernel
theorem dL_law_148 : decode cL_law 148 = .ok (.invokestatic 186, 3) := by decide +kernel
theorem dL_law_151 : decode cL_law 151 = .ok (.ifCond .eq 7, 3) := by decide +kernel
theorem dL_law_154 : decode cL_law 154 = .ok (.iconst 1, 1) := by decide +kernel
theorem dL_law_155 : decode cL_law 155 = .ok (.goto 4, 3) := by decide +kernel
theorem dL_law_158 : decode cL_law 158 = .ok (.iconst 0, 1) := by decide +kernel
theorem dL_law_159 : decode cL_law 159 = .ok (.ireturn, 1) := by decide +kernel
