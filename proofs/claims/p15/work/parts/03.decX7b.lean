theorem dX7_pattern_91 : decode cX7_pattern 91 = .ok (.getfield 20, 3) := by decide +kernel
theorem dX7_pattern_94 : decode cX7_pattern 94 = .ok (.iload_n 1, 1) := by decide +kernel
theorem dX7_pattern_95 : decode cX7_pattern 95 = .ok (.iaload, 1) := by decide +kernel
theorem dX7_pattern_96 : decode cX7_pattern 96 = .ok (.iadd, 1) := by decide +kernel
theorem dX7_pattern_97 : decode cX7_pattern 97 = .ok (.sipush 300, 3) := by decide +kernel
theorem dX7_pattern_100 : decode cX7_pattern 100 = .ok (.if_icmp .le 13, 3) := by decide +kernel
theorem dX7_pattern_103 : decode cX7_pattern 103 = .ok (.aload_n 0, 1) := by decide +kernel
theorem dX7_pattern_104 : decode cX7_pattern 104 = .ok (.iconst 2, 1) := by decide +kernel
theorem dX7_pattern_105 : decode cX7_pattern 105 = .ok (.aload_n 0, 1) := by decide +kernel
theorem dX7_pattern_106 : decode cX7_pattern 106 = .ok (.getfield 114, 3) := by decide +kernel
theorem dX7_pattern_109 : decode cX7_pattern 109 = .ok (.invokevirtual 131, 3) := by decide +kernel
theorem dX7_pattern_112 : decode cX7_pattern 112 = .ok (.ireturn, 1) := by decide +kernel
theorem dX7_pattern_113 : decode cX7_pattern 113 = .ok (.iconst 0, 1) := by decide +kernel
theorem dX7_pattern_114 : decode cX7_pattern 114 = .ok (.istore_n 2, 1) := by decide +kernel
theorem dX7_pattern_115 : decode cX7_pattern 115 = .ok (.iload_n 2, 1) := by decide +kernel
theorem dX7_pattern_116 : decode cX7_pattern 116 = .ok (.aload_n 0, 1) := by decide +kernel
theorem dX7_pattern_117 : decode cX7_pattern 117 = .ok (.getfield 20, 3) := by decide +kernel
theorem dX7_pattern_120 : decode cX7_pattern 120 = .ok (.iload_n 1, 1) := by decide +kernel
theorem dX7_pattern_121 : decode cX7_pattern 121 = .ok (.iaload, 1) := by decide +kernel
theorem dX7_pattern_122 : decode cX7_pattern 122 = .ok (.if_icmp .ge 32, 3) := by decide +kernel
theorem dX7_pattern_125 : decode cX7_pattern 125 = .ok (.aload_n 0, 1) := by decide +kernel
theorem dX7_pattern_126 : decode cX7_pattern 126 = .ok (.getfield 26, 3) := by decide +kernel
theorem dX7_pattern_129 : decode cX7_pattern 129 = .ok (.aload_n 0, 1) := by decide +kernel
theorem dX7_pattern_130 : decode cX7_pattern 130 = .ok (.getfield 135, 3) := by decide +kernel
theorem dX7_pattern_133 : decode cX7_pattern 133 = .ok (.iload_n 2, 1) := by decide +kernel
theorem dX7_pattern_134 : decode cX7_pattern 134 = .ok (.iadd, 1) := by decide +kernel
theorem dX7_pattern_135 : decode cX7_pattern 135 = .ok (.aload_n 0, 1) := by decide +kernel
theorem dX7_pattern_136 : decode cX7_pattern 136 = .ok (.getfield 23, 3) := by decide +kernel
theorem dX7_pattern_139 : decode cX7_pattern 139 = .ok (.sipush 300, 3) := by decide +kernel
theorem dX7_pattern_142 : decode cX7_pattern 142 = .ok (.iload_n 1, 1) := by decide +kernel
theorem dX7_pattern_143 : decode cX7_pattern 143 = .ok (.imul, 1) := by decide +kernel
theorem dX7_pattern_144 : decode cX7_pattern 144 = .ok (.iload_n 2, 1) := by decide +kernel
theorem dX7_pattern_145 : decode cX7_pattern 145 = .ok (.iadd, 1) := by decide +kernel
theorem dX7_pattern_146 : decode cX7_pattern 146 = .ok (.iaload, 1) := by decide +kernel
theorem dX7_pattern_147 : decode cX7_pattern 147 = .ok (.iastore, 1) := by decide +kernel
theorem dX7_pattern_148 : decode cX7_pattern 148 = .ok (.iinc 2 1, 3) := by decide +kernel
theorem dX7_pattern_151 : decode cX7_pattern 151 = .ok (.goto (-36), 3) := by decide +kernel
theorem dX7_pattern_154 : decode cX7_pattern 154 = .ok (.aload_n 0, 1) := by decide +kernel
theorem dX7_pattern_155 : decode cX7_pattern 155 = .ok (.dup, 1) := by decide +kernel
theorem dX7_pattern_156 : decode cX7_pattern 156 = .ok (.getfield 135, 3) := by decide +kernel
theorem dX7_pattern_159 : decode cX7_pattern 159 = .ok (.aload_n 0, 1) := by decide +kernel
theorem dX7_pattern_160 : decode cX7_pattern 160 = .ok (.getfield 20, 3) := by decide +kernel
theorem dX7_pattern_163 : decode cX7_pattern 163 = .ok (.iload_n 1, 1) := by decide +kernel
theorem dX7_pattern_164 : decode cX7_pattern 164 = .ok (.iaload, 1) := by decide +kernel
theorem dX7_pattern_165 : decode cX7_pattern 165 = .ok (.iadd, 1) := by decide +kernel
theorem dX7_pattern_166 : decode cX7_pattern 166 = .ok (.putfield 135, 3) := by decide +kernel
theorem dX7_pattern_169 : decode cX7_pattern 169 = .ok (.iconst 1, 1) := by decide +kernel
theorem dX7_pattern_170 : decode cX7_pattern 170 = .ok (.ireturn, 1) := by decide +kernel
theorem dX7_pattern__0 : decode cX7_pattern_ 0 = .ok (.aload_n 0, 1) := by decide +kernel
theorem dX7_pattern__1 : decode cX7_pattern_ 1 = .ok (.iconst 0, 1) := by decide +kernel
theorem dX7_pattern__2 : decode cX7_pattern_ 2 = .ok (.putfield 95, 3) := by decide +kernel
theorem dX7_pattern__5 : decode cX7_pattern_ 5 = .ok (.aload_n 0, 1) := by decide +kernel
theorem dX7_pattern__6 : decode cX7_pattern_ 6 = .ok (.iload_n 1, 1) := by decide +kernel
theorem dX7_pattern__7 : decode cX7_pattern_ 7 = .ok (.ifCond .lt 36, 3) := by decide +kernel
theorem dX7_pattern__10 : decode cX7_pattern_ 10 = .ok (.iload_n 1, 1) := by decide +kernel
theorem dX7_pattern__11 : decode cX7_pattern_ 11 = .ok (.bipush 7, 2) := by decide +kernel
theorem dX7_pattern__13 : decode cX7_pattern_ 13 = .ok (.if_icmp .gt 30, 3) := by decide +kernel
theorem dX7_pattern__16 : decode cX7_pattern_ 16 = .ok (.iload_n 2, 1) := by decide +kernel
theorem dX7_pattern__17 : decode cX7_pattern_ 17 = .ok (.iconst 2, 1) := by decide +kernel
theorem dX7_pattern__18 : decode cX7_pattern_ 18 = .ok (.if_icmp .lt 25, 3) := by decide +kernel
theorem dX7_pattern__21 : decode cX7_pattern_ 21 = .ok (.iload_n 2, 1) := by decide +kernel
theorem dX7_pattern__22 : decode cX7_pattern_ 22 = .ok (.bipush 7, 2) := by decide +kernel
theorem dX7_pattern__24 : decode cX7_pattern_ 24 = .ok (.if_icmp .gt 19, 3) := by decide +kernel
theorem dX7_pattern__27 : decode cX7_pattern_ 27 = .ok (.iload_n 3, 1) := by decide +kernel
theorem dX7_pattern__28 : decode cX7_pattern_ 28 = .ok (.ifCond .lt 15, 3) := by decide +kernel
theorem dX7_pattern__31 : decode cX7_pattern_ 31 = .ok (.iload_n 3, 1) := by decide +kernel
theorem dX7_pattern__32 : decode cX7_pattern_ 32 = .ok (.aload_n 0, 1) := by decide +kernel
theorem dX7_pattern__33 : decode cX7_pattern_ 33 = .ok (.getfield 98, 3) := by decide +kernel
theorem dX7_pattern__36 : decode cX7_pattern_ 36 = .ok (.if_icmp .gt 7, 3) := by decide +kernel
theorem dX7_pattern__39 : decode cX7_pattern_ 39 = .ok (.iconst 1, 1) := by decide +kernel
theorem dX7_pattern__40 : decode cX7_pattern_ 40 = .ok (.goto 4, 3) := by decide +kernel
theorem dX7_pattern__43 : decode cX7_pattern_ 43 = .ok (.iconst 0, 1) := by decide +kernel
theorem dX7_pattern__44 : decode cX7_pattern_ 44 = .ok (.iconst 1, 1) := by decide +kernel
theorem dX7_pattern__45 : decode cX7_pattern_ 45 = .ok (.invokevirtual 157, 3) := by decide +kernel
theorem dX7_pattern__48 : decode cX7_pattern_ 48 = .ok (.ifCond .ne 5, 3) := by decide +kernel
theorem dX7_pattern__51 : decode cX7_pattern_ 51 = .ok (.iconst 0, 1) := by decide +kernel
theorem dX7_pattern__52 : decode cX7_pattern_ 52 = .ok (.ireturn, 1) := by decide +kernel
theorem dX7_pattern__53 : decode cX7_pattern_ 53 = .ok (.aload_n 0, 1) := by decide +kernel
theorem dX7_pattern__54 : decode cX7_pattern_ 54 = .ok (.iload_n 3, 1) := by decide +kernel
theorem dX7_pattern__55 : decode cX7_pattern_ 55 = .ok (.putfield 111, 3) := by decide +kernel
theorem dX7_pattern__58 : decode cX7_pattern_ 58 = .ok (.aload_n 0, 1) := by decide +kernel
theorem dX7_pattern__59 : decode cX7_pattern_ 59 = .ok (.iconst 0, 1) := by decide +kernel
theorem dX7_pattern__60 : decode cX7_pattern_ 60 = .ok (.putfield 98, 3) := by decide +kernel
theorem dX7_pattern__63 : decode cX7_pattern_ 63 = .ok (.aload_n 0, 1) := by decide +kernel
theorem dX7_pattern__64 : decode cX7_pattern_ 64 = .ok (.iconst 0, 1) := by decide +kernel
theorem dX7_pattern__65 : decode cX7_pattern_ 65 = .ok (.putfield 108, 3) := by decide +kernel
theorem dX7_pattern__68 : decode cX7_pattern_ 68 = .ok (.aload_n 0, 1) := by decide +kernel
theorem dX7_pattern__69 : decode cX7_pattern_ 69 = .ok (.iload_n 2, 1) := by decide +kernel
theorem dX7_pattern__70 : decode cX7_pattern_ 70 = .ok (.putfield 138, 3) := by decide +kernel
theorem dX7_pattern__73 : decode cX7_pattern_ 73 = .ok (.aload_n 0, 1) := by decide +kernel
theorem dX7_pattern__74 : decode cX7_pattern_ 74 = .ok (.iconst 0, 1) := by decide +kernel
theorem dX7_pattern__75 : decode cX7_pattern_ 75 = .ok (.putfield 135, 3) := by decide +kernel
theorem dX7_pattern__78 : decode cX7_pattern_ 78 = .ok (.aload_n 0, 1) := by decide +kernel
theorem dX7_pattern__79 : decode cX7_pattern_ 79 = .ok (.iconst 0, 1) := by decide +kernel
theorem dX7_pattern__80 : decode cX7_pattern_ 80 = .ok (.putfield 128, 3) := by decide +kernel
theorem dX7_pattern__83 : decode cX7_pattern_ 83 = .ok (.aload_n 0, 1) := by decide +kernel
theorem dX7_pattern__84 : decode cX7_pattern_ 84 = .ok (.iconst 0, 1) := by decide +kernel
theorem dX7_pattern__85 : decode cX7_pattern_ 85 = .ok (.putfield 105, 3) := by decide +kernel
theorem dX7_pattern__88 : decode cX7_pattern_ 88 = .ok (.aload_n 0, 1) := by decide +kernel
theorem dX7_pattern__89 : decode cX7_pattern_ 89 = .ok (.iconst (-1), 1) := by decide +kernel
theorem dX7_pattern__90 : decode cX7_pattern_ 90 = .ok (.putfield 13, 3) := by decide +kernel
theorem dX7_pattern__93 : decode cX7_pattern_ 93 = .ok (.iconst 1, 1) := by decide +kernel
theorem dX7_pattern__94 : decode cX7_pattern_ 94 = .ok (.istore 4, 2) := by decide +kernel
theorem dX7_pattern__96 : decode cX7_pattern_ 96 = .ok (.aload_n 0, 1) := by decide +kernel
theorem dX7_pattern__97 : decode cX7_pattern_ 97 = .ok (.invokevirtual 145, 3) := by decide +kernel
theorem dX7_pattern__100 : decode cX7_pattern_ 100 = .ok (.iload 4, 2) := by decide +kernel
theorem dX7_pattern__102 : decode cX7_pattern_ 102 = .ok (.ifCond .eq 27, 3) := by decide +kernel
theorem dX7_pattern__105 : decode cX7_pattern_ 105 = .ok (.aload_n 0, 1) := by decide +kernel
theorem dX7_pattern__106 : decode cX7_pattern_ 106 = .ok (.getfield 108, 3) := by decide +kernel
theorem dX7_pattern__109 : decode cX7_pattern_ 109 = .ok (.aload_n 0, 1) := by decide +kernel
theorem dX7_pattern__110 : decode cX7_pattern_ 110 = .ok (.getfield 111, 3) := by decide +kernel
theorem dX7_pattern__113 : decode cX7_pattern_ 113 = .ok (.if_icmp .ge 16, 3) := by decide +kernel
theorem dX7_pattern__116 : decode cX7_pattern_ 116 = .ok (.aload_n 0, 1) := by decide +kernel
theorem dX7_pattern__117 : decode cX7_pattern_ 117 = .ok (.invokevirtual 161, 3) := by decide +kernel
theorem dX7_pattern__120 : decode cX7_pattern_ 120 = .ok (.istore 4, 2) := by decide +kernel
theorem dX7_pattern__122 : decode cX7_pattern_ 122 = .ok (.aload_n 0, 1) := by decide +kernel
theorem dX7_pattern__123 : decode cX7_pattern_ 123 = .ok (.invokevirtual 145, 3) := by decide +kernel
theorem dX7_pattern__126 : decode cX7_pattern_ 126 = .ok (.goto (-26), 3) := by decide +kernel
theorem dX7_pattern__129 : decode cX7_pattern_ 129 = .ok (.iload 4, 2) := by decide +kernel
theorem dX7_pattern__131 : decode cX7_pattern_ 131 = .ok (.ifCond .eq 21, 3) := by decide +kernel
theorem dX7_pattern__134 : decode cX7_pattern_ 134 = .ok (.aload_n 0, 1) := by decide +kernel
theorem dX7_pattern__135 : decode cX7_pattern_ 135 = .ok (.getfield 128, 3) := by decide +kernel
theorem dX7_pattern__138 : decode cX7_pattern_ 138 = .ok (.ifCond .le 14, 3) := by decide +kernel
theorem dX7_pattern__141 : decode cX7_pattern_ 141 = .ok (.aload_n 0, 1) := by decide +kernel
theorem dX7_pattern__142 : decode cX7_pattern_ 142 = .ok (.iconst 1, 1) := by decide +kernel
theorem dX7_pattern__143 : decode cX7_pattern_ 143 = .ok (.aload_n 0, 1) := by decide +kernel
theorem dX7_pattern__144 : decode cX7_pattern_ 144 = .ok (.getfield 111, 3) := by decide +kernel
theorem dX7_pattern__147 : decode cX7_pattern_ 147 = .ok (.invokevirtual 131, 3) := by decide +kernel
theorem dX7_pattern__150 : decode cX7_pattern_ 150 = .ok (.istore 4, 2) := by decide +kernel
theorem dX7_pattern__152 : decode cX7_pattern_ 152 = .ok (.iload 4, 2) := by decide +kernel
theorem dX7_pattern__154 : decode cX7_pattern_ 154 = .ok (.ifCond .ne 8, 3) := by decide +kernel
theorem dX7_pattern__157 : decode cX7_pattern_ 157 = .ok (.aload_n 0, 1) := by decide +kernel
theorem dX7_pattern__158 : decode cX7_pattern_ 158 = .ok (.getfield 105, 3) := by decide +kernel
theorem dX7_pattern__161 : decode cX7_pattern_ 161 = .ok (.ireturn, 1) := by decide +kernel
theorem dX7_pattern__162 : decode cX7_pattern_ 162 = .ok (.aload_n 0, 1) := by decide +kernel
theorem dX7_pattern__163 : decode cX7_pattern_ 163 = .ok (.getfield 17, 3) := by decide +kernel
theorem dX7_pattern__166 : decode cX7_pattern_ 166 = .ok (.iload_n 1, 1) := by decide +kernel
theorem dX7_pattern__167 : decode cX7_pattern_ 167 = .ok (.aload_n 0, 1) := by decide +kernel
theorem dX7_pattern__168 : decode cX7_pattern_ 168 = .ok (.getfield 138, 3) := by decide +kernel
theorem dX7_pattern__171 : decode cX7_pattern_ 171 = .ok (.iastore, 1) := by decide +kernel
theorem dX7_pattern__172 : decode cX7_pattern_ 172 = .ok (.aload_n 0, 1) := by decide +kernel
theorem dX7_pattern__173 : decode cX7_pattern_ 173 = .ok (.getfield 20, 3) := by decide +kernel
theorem dX7_pattern__176 : decode cX7_pattern_ 176 = .ok (.iload_n 1, 1) := by decide +kernel
theorem dX7_pattern__177 : decode cX7_pattern_ 177 = .ok (.aload_n 0, 1) := by decide +kernel
theorem dX7_pattern__178 : decode cX7_pattern_ 178 = .ok (.getfield 135, 3) := by decide +kernel
theorem dX7_pattern__181 : decode cX7_pattern_ 181 = .ok (.iastore, 1) := by decide +kernel
theorem dX7_pattern__182 : decode cX7_pattern_ 182 = .ok (.iconst 0, 1) := by decide +kernel
theorem dX7_pattern__183 : decode cX7_pattern_ 183 = .ok (.istore 5, 2) := by decide +kernel
theorem dX7_pattern__185 : decode cX7_pattern_ 185 = .ok (.iload 5, 2) := by decide +kernel
theorem dX7_pattern__187 : decode cX7_pattern_ 187 = .ok (.aload_n 0, 1) := by decide +kernel
theorem dX7_pattern__188 : decode cX7_pattern_ 188 = .ok (.getfield 135, 3) := by decide +kernel
theorem dX7_pattern__191 : decode cX7_pattern_ 191 = .ok (.if_icmp .ge 29, 3) := by decide +kernel
theorem dX7_pattern__194 : decode cX7_pattern_ 194 = .ok (.aload_n 0, 1) := by decide +kernel
theorem dX7_pattern__195 : decode cX7_pattern_ 195 = .ok (.getfield 23, 3) := by decide +kernel
theorem dX7_pattern__198 : decode cX7_pattern_ 198 = .ok (.sipush 300, 3) := by decide +kernel
theorem dX7_pattern__201 : decode cX7_pattern_ 201 = .ok (.iload_n 1, 1) := by decide +kernel
theorem dX7_pattern__202 : decode cX7_pattern_ 202 = .ok (.imul, 1) := by decide +kernel
theorem dX7_pattern__203 : decode cX7_pattern_ 203 = .ok (.iload 5, 2) := by decide +kernel
theorem dX7_pattern__205 : decode cX7_pattern_ 205 = .ok (.iadd, 1) := by decide +kernel
theorem dX7_pattern__206 : decode cX7_pattern_ 206 = .ok (.aload_n 0, 1) := by decide +kernel
theorem dX7_pattern__207 : decode cX7_pattern_ 207 = .ok (.getfield 26, 3) := by decide +kernel
theorem dX7_pattern__210 : decode cX7_pattern_ 210 = .ok (.iload 5, 2) := by decide +kernel
theorem dX7_pattern__212 : decode cX7_pattern_ 212 = .ok (.iaload, 1) := by decide +kernel
theorem dX7_pattern__213 : decode cX7_pattern_ 213 = .ok (.iastore, 1) := by decide +kernel
theorem dX7_pattern__214 : decode cX7_pattern_ 214 = .ok (.iinc 5 1, 3) := by decide +kernel
theorem dX7_pattern__217 : decode cX7_pattern_ 217 = .ok (.goto (-32), 3) := by decide +kernel
theorem dX7_pattern__220 : decode cX7_pattern_ 220 = .ok (.iconst 0, 1) := by decide +kernel
theorem dX7_pattern__221 : decode cX7_pattern_ 221 = .ok (.ireturn, 1) := by decide +kernel
theorem dX7_fault_0 : decode cX7_fault 0 = .ok (.aload_n 0, 1) := by decide +kernel
theorem dX7_fault_1 : decode cX7_fault 1 = .ok (.iconst 0, 1) := by decide +kernel
theorem dX7_fault_2 : decode cX7_fault 2 = .ok (.putfield 95, 3) := by decide +kernel
theorem dX7_fault_5 : decode cX7_fault 5 = .ok (.aload_n 0, 1) := by decide +kernel
theorem dX7_fault_6 : decode cX7_fault 6 = .ok (.iload_n 1, 1) := by decide +kernel
theorem dX7_fault_7 : decode cX7_fault 7 = .ok (.ifCond .eq 8, 3) := by decide +kernel
theorem dX7_fault_10 : decode cX7_fault 10 = .ok (.iload_n 1, 1) := by decide +kernel
theorem dX7_fault_11 : decode cX7_fault 11 = .ok (.iconst 1, 1) := by decide +kernel
theorem dX7_fault_12 : decode cX7_fault 12 = .ok (.if_icmp .ne 7, 3) := by decide +kernel
theorem dX7_fault_15 : decode cX7_fault 15 = .ok (.iconst 1, 1) := by decide +kernel
theorem dX7_fault_16 : decode cX7_fault 16 = .ok (.goto 4, 3) := by decide +kernel
theorem dX7_fault_19 : decode cX7_fault 19 = .ok (.iconst 0, 1) := by decide +kernel
theorem dX7_fault_20 : decode cX7_fault 20 = .ok (.iconst 1, 1) := by decide +kernel
theorem dX7_fault_21 : decode cX7_fault 21 = .ok (.invokevirtual 157, 3) := by decide +kernel
theorem dX7_fault_24 : decode cX7_fault 24 = .ok (.ifCond .ne 5, 3) := by decide +kernel
theorem dX7_fault_27 : decode cX7_fault 27 = .ok (.iconst 0, 1) := by decide +kernel
theorem dX7_fault_28 : decode cX7_fault 28 = .ok (.ireturn, 1) := by decide +kernel
theorem dX7_fault_29 : decode cX7_fault 29 = .ok (.iload_n 1, 1) := by decide +kernel
theorem dX7_fault_30 : decode cX7_fault 30 = .ok (.ifCond .ne 10, 3) := by decide +kernel
theorem dX7_fault_33 : decode cX7_fault 33 = .ok (.aload_n 0, 1) := by decide +kernel
theorem dX7_fault_34 : decode cX7_fault 34 = .ok (.getfield 105, 3) := by decide +kernel
theorem dX7_fault_37 : decode cX7_fault 37 = .ok (.goto 7, 3) := by decide +kernel
theorem dX7_fault_40 : decode cX7_fault 40 = .ok (.aload_n 0, 1) := by decide +kernel
theorem dX7_fault_41 : decode cX7_fault 41 = .ok (.getfield 13, 3) := by decide +kernel
theorem dX7_fault_44 : decode cX7_fault 44 = .ok (.ireturn, 1) := by decide +kernel
theorem dX7_isPattern_0 : decode cX7_isPattern 0 = .ok (.aload_n 0, 1) := by decide +kernel
theorem dX7_isPattern_1 : decode cX7_isPattern 1 = .ok (.iconst 0, 1) := by decide +kernel
theorem dX7_isPattern_2 : decode cX7_isPattern 2 = .ok (.putfield 95, 3) := by decide +kernel
theorem dX7_isPattern_5 : decode cX7_isPattern 5 = .ok (.aload_n 0, 1) := by decide +kernel
theorem dX7_isPattern_6 : decode cX7_isPattern 6 = .ok (.iload_n 1, 1) := by decide +kernel
theorem dX7_isPattern_7 : decode cX7_isPattern 7 = .ok (.ifCond .lt 22, 3) := by decide +kernel
theorem dX7_isPattern_10 : decode cX7_isPattern 10 = .ok (.iload_n 1, 1) := by decide +kernel
theorem dX7_isPattern_11 : decode cX7_isPattern 11 = .ok (.bipush 7, 2) := by decide +kernel
theorem dX7_isPattern_13 : decode cX7_isPattern 13 = .ok (.if_icmp .gt 16, 3) := by decide +kernel
theorem dX7_isPattern_16 : decode cX7_isPattern 16 = .ok (.aload_n 0, 1) := by decide +kernel
theorem dX7_isPattern_17 : decode cX7_isPattern 17 = .ok (.getfield 17, 3) := by decide +kernel
theorem dX7_isPattern_20 : decode cX7_isPattern 20 = .ok (.iload_n 1, 1) := by decide +kernel
theorem dX7_isPattern_21 : decode cX7_isPattern 21 = .ok (.iaload, 1) := by decide +kernel
theorem dX7_isPattern_22 : decode cX7_isPattern 22 = .ok (.ifCond .le 7, 3) := by decide +kernel
theorem dX7_isPattern_25 : decode cX7_isPattern 25 = .ok (.iconst 1, 1) := by decide +kernel
theorem dX7_isPattern_26 : decode cX7_isPattern 26 = .ok (.goto 4, 3) := by decide +kernel
theorem dX7_isPattern_29 : decode cX7_isPattern 29 = .ok (.iconst 0, 1) := by decide +kernel
theorem dX7_isPattern_30 : decode cX7_isPattern 30 = .ok (.iconst 1, 1) := by decide +kernel
theorem dX7_isPattern_31 : decode cX7_isPattern 31 = .ok (.invokevirtual 157, 3) := by decide +kernel
theorem dX7_isPattern_34 : decode cX7_isPattern 34 = .ok (.ireturn, 1) := by decide +kernel
theorem dX7_size_0 : decode cX7_size 0 = .ok (.aload_n 0, 1) := by decide +kernel
theorem dX7_size_1 : decode cX7_size 1 = .ok (.iconst 0, 1) := by decide +kernel
theorem dX7_size_2 : decode cX7_size 2 = .ok (.putfield 95, 3) := by decide +kernel
theorem dX7_size_5 : decode cX7_size 5 = .ok (.iload_n 1, 1) := by decide +kernel
theorem dX7_size_6 : decode cX7_size 6 = .ok (.ifCond .lt 27, 3) := by decide +kernel
theorem dX7_size_9 : decode cX7_size 9 = .ok (.iload_n 1, 1) := by decide +kernel
theorem dX7_size_10 : decode cX7_size 10 = .ok (.bipush 7, 2) := by decide +kernel
theorem dX7_size_12 : decode cX7_size 12 = .ok (.if_icmp .gt 21, 3) := by decide +kernel
theorem dX7_size_15 : decode cX7_size 15 = .ok (.aload_n 0, 1) := by decide +kernel
theorem dX7_size_16 : decode cX7_size 16 = .ok (.getfield 17, 3) := by decide +kernel
theorem dX7_size_19 : decode cX7_size 19 = .ok (.iload_n 1, 1) := by decide +kernel
theorem dX7_size_20 : decode cX7_size 20 = .ok (.iaload, 1) := by decide +kernel
theorem dX7_size_21 : decode cX7_size 21 = .ok (.ifCond .le 12, 3) := by decide +kernel
theorem dX7_size_24 : decode cX7_size 24 = .ok (.aload_n 0, 1) := by decide +kernel
theorem dX7_size_25 : decode cX7_size 25 = .ok (.getfield 20, 3) := by decide +kernel
theorem dX7_size_28 : decode cX7_size 28 = .ok (.iload_n 1, 1) := by decide +kernel
theorem dX7_size_29 : decode cX7_size 29 = .ok (.iaload, 1) := by decide +kernel
theorem dX7_size_30 : decode cX7_size 30 = .ok (.goto 4, 3) := by decide +kernel
theorem dX7_size_33 : decode cX7_size 33 = .ok (.iconst (-1), 1) := by decide +kernel
theorem dX7_size_34 : decode cX7_size 34 = .ok (.ireturn, 1) := by decide +kernel
theorem dX7_crossing_0 : decode cX7_crossing 0 = .ok (.aload_n 0, 1) := by decide +kernel
theorem dX7_crossing_1 : decode cX7_crossing 1 = .ok (.iload_n 1, 1) := by decide +kernel
theorem dX7_crossing_2 : decode cX7_crossing 2 = .ok (.invokevirtual 164, 3) := by decide +kernel
theorem dX7_crossing_5 : decode cX7_crossing 5 = .ok (.ifCond .eq 45, 3) := by decide +kernel
theorem dX7_crossing_8 : decode cX7_crossing 8 = .ok (.aload_n 0, 1) := by decide +kernel
theorem dX7_crossing_9 : decode cX7_crossing 9 = .ok (.iload_n 2, 1) := by decide +kernel
theorem dX7_crossing_10 : decode cX7_crossing 10 = .ok (.ifCond .lt 17, 3) := by decide +kernel
theorem dX7_crossing_13 : decode cX7_crossing 13 = .ok (.iload_n 2, 1) := by decide +kernel
theorem dX7_crossing_14 : decode cX7_crossing 14 = .ok (.aload_n 0, 1) := by decide +kernel
theorem dX7_crossing_15 : decode cX7_crossing 15 = .ok (.getfield 20, 3) := by decide +kernel
theorem dX7_crossing_18 : decode cX7_crossing 18 = .ok (.iload_n 1, 1) := by decide +kernel
theorem dX7_crossing_19 : decode cX7_crossing 19 = .ok (.iaload, 1) := by decide +kernel
theorem dX7_crossing_20 : decode cX7_crossing 20 = .ok (.if_icmp .ge 7, 3) := by decide +kernel
theorem dX7_crossing_23 : decode cX7_crossing 23 = .ok (.iconst 1, 1) := by decide +kernel
theorem dX7_crossing_24 : decode cX7_crossing 24 = .ok (.goto 4, 3) := by decide +kernel
theorem dX7_crossing_27 : decode cX7_crossing 27 = .ok (.iconst 0, 1) := by decide +kernel
theorem dX7_crossing_28 : decode cX7_crossing 28 = .ok (.iconst 1, 1) := by decide +kernel
theorem dX7_crossing_29 : decode cX7_crossing 29 = .ok (.invokevirtual 157, 3) := by decide +kernel
theorem dX7_crossing_32 : decode cX7_crossing 32 = .ok (.ifCond .eq 18, 3) := by decide +kernel
theorem dX7_crossing_35 : decode cX7_crossing 35 = .ok (.aload_n 0, 1) := by decide +kernel
theorem dX7_crossing_36 : decode cX7_crossing 36 = .ok (.getfield 23, 3) := by decide +kernel
theorem dX7_crossing_39 : decode cX7_crossing 39 = .ok (.sipush 300, 3) := by decide +kernel
theorem dX7_crossing_42 : decode cX7_crossing 42 = .ok (.iload_n 1, 1) := by decide +kernel
theorem dX7_crossing_43 : decode cX7_crossing 43 = .ok (.imul, 1) := by decide +kernel
theorem dX7_crossing_44 : decode cX7_crossing 44 = .ok (.iload_n 2, 1) := by decide +kernel
theorem dX7_crossing_45 : decode cX7_crossing 45 = .ok (.iadd, 1) := by decide +kernel
theorem dX7_crossing_46 : decode cX7_crossing 46 = .ok (.iaload, 1) := by decide +kernel
theorem dX7_crossing_47 : decode cX7_crossing 47 = .ok (.goto 4, 3) := by decide +kernel
theorem dX7_crossing_50 : decode cX7_crossing 50 = .ok (.iconst 0, 1) := by decide +kernel
theorem dX7_crossing_51 : decode cX7_crossing 51 = .ok (.ireturn, 1) := by decide +kernel
theorem dX7_get_0 : decode cX7_get 0 = .ok (.aload_n 0, 1) := by decide +kernel
theorem dX7_get_1 : decode cX7_get 1 = .ok (.getfield 35, 3) := by decide +kernel
theorem dX7_get_4 : decode cX7_get 4 = .ok (.bipush 8, 2) := by decide +kernel
theorem dX7_get_6 : decode cX7_get 6 = .ok (.iload_n 1, 1) := by decide +kernel
theorem dX7_get_7 : decode cX7_get 7 = .ok (.imul, 1) := by decide +kernel
theorem dX7_get_8 : decode cX7_get 8 = .ok (.iload_n 2, 1) := by decide +kernel
theorem dX7_get_9 : decode cX7_get 9 = .ok (.iadd, 1) := by decide +kernel
theorem dX7_get_10 : decode cX7_get 10 = .ok (.iaload, 1) := by decide +kernel
theorem dX7_get_11 : decode cX7_get 11 = .ok (.ireturn, 1) := by decide +kernel
theorem dX7_from_0 : decode cX7_from 0 = .ok (.iconst 1, 1) := by decide +kernel
theorem dX7_from_1 : decode cX7_from 1 = .ok (.istore_n 3, 1) := by decide +kernel
theorem dX7_from_2 : decode cX7_from 2 = .ok (.aload_n 0, 1) := by decide +kernel
theorem dX7_from_3 : decode cX7_from 3 = .ok (.iload_n 1, 1) := by decide +kernel
theorem dX7_from_4 : decode cX7_from 4 = .ok (.iload_n 3, 1) := by decide +kernel
theorem dX7_from_5 : decode cX7_from 5 = .ok (.invokevirtual 167, 3) := by decide +kernel
theorem dX7_from_8 : decode cX7_from 8 = .ok (.iload_n 2, 1) := by decide +kernel
theorem dX7_from_9 : decode cX7_from 9 = .ok (.if_icmp .eq 9, 3) := by decide +kernel
theorem dX7_from_12 : decode cX7_from 12 = .ok (.iinc 3 1, 3) := by decide +kernel
theorem dX7_from_15 : decode cX7_from 15 = .ok (.goto (-13), 3) := by decide +kernel
theorem dX7_from_18 : decode cX7_from 18 = .ok (.iload_n 3, 1) := by decide +kernel
theorem dX7_from_19 : decode cX7_from 19 = .ok (.ireturn, 1) := by decide +kernel
theorem dX7_behind_0 : decode cX7_behind 0 = .ok (.aload_n 0, 1) := by decide +kernel
theorem dX7_behind_1 : decode cX7_behind 1 = .ok (.iload_n 1, 1) := by decide +kernel
theorem dX7_behind_2 : decode cX7_behind 2 = .ok (.iload_n 2, 1) := by decide +kernel
theorem dX7_behind_3 : decode cX7_behind 3 = .ok (.invokevirtual 171, 3) := by decide +kernel
theorem dX7_behind_6 : decode cX7_behind 6 = .ok (.istore_n 3, 1) := by decide +kernel
theorem dX7_behind_7 : decode cX7_behind 7 = .ok (.aload_n 0, 1) := by decide +kernel
theorem dX7_behind_8 : decode cX7_behind 8 = .ok (.iload_n 1, 1) := by decide +kernel
theorem dX7_behind_9 : decode cX7_behind 9 = .ok (.iload_n 2, 1) := by decide +kernel
theorem dX7_behind_10 : decode cX7_behind 10 = .ok (.iconst 1, 1) := by decide +kernel
theorem dX7_behind_11 : decode cX7_behind 11 = .ok (.iadd, 1) := by decide +kernel
theorem dX7_behind_12 : decode cX7_behind 12 = .ok (.invokevirtual 171, 3) := by decide +kernel
theorem dX7_behind_15 : decode cX7_behind 15 = .ok (.istore 4, 2) := by decide +kernel
theorem dX7_behind_17 : decode cX7_behind 17 = .ok (.aload_n 0, 1) := by decide +kernel
theorem dX7_behind_18 : decode cX7_behind 18 = .ok (.getfield 35, 3) := by decide +kernel
theorem dX7_behind_21 : decode cX7_behind 21 = .ok (.bipush 8, 2) := by decide +kernel
theorem dX7_behind_23 : decode cX7_behind 23 = .ok (.iload_n 1, 1) := by decide +kernel
theorem dX7_behind_24 : decode cX7_behind 24 = .ok (.imul, 1) := by decide +kernel
theorem dX7_behind_25 : decode cX7_behind 25 = .ok (.iload_n 3, 1) := by decide +kernel
theorem dX7_behind_26 : decode cX7_behind 26 = .ok (.iadd, 1) := by decide +kernel
theorem dX7_behind_27 : decode cX7_behind 27 = .ok (.iload_n 2, 1) := by decide +kernel
theorem dX7_behind_28 : decode cX7_behind 28 = .ok (.iconst 1, 1) := by decide +kernel
theorem dX7_behind_29 : decode cX7_behind 29 = .ok (.iadd, 1) := by decide +kernel
theorem dX7_behind_30 : decode cX7_behind 30 = .ok (.iastore, 1) := by decide +kernel
theorem dX7_behind_31 : decode cX7_behind 31 = .ok (.aload_n 0, 1) := by decide +kernel
theorem dX7_behind_32 : decode cX7_behind 32 = .ok (.getfield 35, 3) := by decide +kernel
theorem dX7_behind_35 : decode cX7_behind 35 = .ok (.bipush 8, 2) := by decide +kernel
theorem dX7_behind_37 : decode cX7_behind 37 = .ok (.iload_n 1, 1) := by decide +kernel
theorem dX7_behind_38 : decode cX7_behind 38 = .ok (.imul, 1) := by decide +kernel
theorem dX7_behind_39 : decode cX7_behind 39 = .ok (.iload 4, 2) := by decide +kernel
theorem dX7_behind_41 : decode cX7_behind 41 = .ok (.iadd, 1) := by decide +kernel
theorem dX7_behind_42 : decode cX7_behind 42 = .ok (.iload_n 2, 1) := by decide +kernel
theorem dX7_behind_43 : decode cX7_behind 43 = .ok (.iastore, 1) := by decide +kernel
theorem dX7_behind_44 : decode cX7_behind 44 = .ok (.return_, 1) := by decide +kernel
theorem dX7_turns_0 : decode cX7_turns 0 = .ok (.iconst 1, 1) := by decide +kernel
theorem dX7_turns_1 : decode cX7_turns 1 = .ok (.istore_n 3, 1) := by decide +kernel
theorem dX7_turns_2 : decode cX7_turns 2 = .ok (.iload_n 3, 1) := by decide +kernel
theorem dX7_turns_3 : decode cX7_turns 3 = .ok (.iload_n 2, 1) := by decide +kernel
theorem dX7_turns_4 : decode cX7_turns 4 = .ok (.if_icmp .gt 29, 3) := by decide +kernel
theorem dX7_turns_7 : decode cX7_turns 7 = .ok (.aload_n 0, 1) := by decide +kernel
theorem dX7_turns_8 : decode cX7_turns 8 = .ok (.getfield 38, 3) := by decide +kernel
theorem dX7_turns_11 : decode cX7_turns 11 = .ok (.iload_n 3, 1) := by decide +kernel
theorem dX7_turns_12 : decode cX7_turns 12 = .ok (.iload_n 2, 1) := by decide +kernel
theorem dX7_turns_13 : decode cX7_turns 13 = .ok (.iconst 1, 1) := by decide +kernel
theorem dX7_turns_14 : decode cX7_turns 14 = .ok (.iadd, 1) := by decide +kernel
theorem dX7_turns_15 : decode cX7_turns 15 = .ok (.aload_n 0, 1) := by decide +kernel
theorem dX7_turns_16 : decode cX7_turns 16 = .ok (.iload_n 1, 1) := by decide +kernel
theorem dX7_turns_17 : decode cX7_turns 17 = .ok (.iload_n 2, 1) := by decide +kernel
theorem dX7_turns_18 : decode cX7_turns 18 = .ok (.iconst 1, 1) := by decide +kernel
theorem dX7_turns_19 : decode cX7_turns 19 = .ok (.iadd, 1) := by decide +kernel
theorem dX7_turns_20 : decode cX7_turns 20 = .ok (.iload_n 3, 1) := by decide +kernel
theorem dX7_turns_21 : decode cX7_turns 21 = .ok (.isub, 1) := by decide +kernel
theorem dX7_turns_22 : decode cX7_turns 22 = .ok (.invokevirtual 167, 3) := by decide +kernel
theorem dX7_turns_25 : decode cX7_turns 25 = .ok (.isub, 1) := by decide +kernel
theorem dX7_turns_26 : decode cX7_turns 26 = .ok (.iastore, 1) := by decide +kernel
theorem dX7_turns_27 : decode cX7_turns 27 = .ok (.iinc 3 1, 3) := by decide +kernel
theorem dX7_turns_30 : decode cX7_turns 30 = .ok (.goto (-28), 3) := by decide +kernel
theorem dX7_turns_33 : decode cX7_turns 33 = .ok (.iconst 1, 1) := by decide +kernel
theorem dX7_turns_34 : decode cX7_turns 34 = .ok (.istore_n 3, 1) := by decide +kernel
theorem dX7_turns_35 : decode cX7_turns 35 = .ok (.iload_n 3, 1) := by decide +kernel
theorem dX7_turns_36 : decode cX7_turns 36 = .ok (.iload_n 2, 1) := by decide +kernel
theorem dX7_turns_37 : decode cX7_turns 37 = .ok (.if_icmp .gt 26, 3) := by decide +kernel
theorem dX7_turns_40 : decode cX7_turns 40 = .ok (.aload_n 0, 1) := by decide +kernel
theorem dX7_turns_41 : decode cX7_turns 41 = .ok (.getfield 35, 3) := by decide +kernel
theorem dX7_turns_44 : decode cX7_turns 44 = .ok (.bipush 8, 2) := by decide +kernel
theorem dX7_turns_46 : decode cX7_turns 46 = .ok (.iload_n 1, 1) := by decide +kernel
theorem dX7_turns_47 : decode cX7_turns 47 = .ok (.imul, 1) := by decide +kernel
theorem dX7_turns_48 : decode cX7_turns 48 = .ok (.iload_n 3, 1) := by decide +kernel
theorem dX7_turns_49 : decode cX7_turns 49 = .ok (.iadd, 1) := by decide +kernel
theorem dX7_turns_50 : decode cX7_turns 50 = .ok (.aload_n 0, 1) := by decide +kernel
theorem dX7_turns_51 : decode cX7_turns 51 = .ok (.getfield 38, 3) := by decide +kernel
theorem dX7_turns_54 : decode cX7_turns 54 = .ok (.iload_n 3, 1) := by decide +kernel
theorem dX7_turns_55 : decode cX7_turns 55 = .ok (.iaload, 1) := by decide +kernel
theorem dX7_turns_56 : decode cX7_turns 56 = .ok (.iastore, 1) := by decide +kernel
theorem dX7_turns_57 : decode cX7_turns 57 = .ok (.iinc 3 1, 3) := by decide +kernel
theorem dX7_turns_60 : decode cX7_turns 60 = .ok (.goto (-25), 3) := by decide +kernel
theorem dX7_turns_63 : decode cX7_turns 63 = .ok (.return_, 1) := by decide +kernel
theorem dX7_isAll_0 : decode cX7_isAll 0 = .ok (.iconst 1, 1) := by decide +kernel
theorem dX7_isAll_1 : decode cX7_isAll 1 = .ok (.istore_n 3, 1) := by decide +kernel
theorem dX7_isAll_2 : decode cX7_isAll 2 = .ok (.iconst 1, 1) := by decide +kernel
theorem dX7_isAll_3 : decode cX7_isAll 3 = .ok (.istore 4, 2) := by decide +kernel
theorem dX7_isAll_5 : decode cX7_isAll 5 = .ok (.iload 4, 2) := by decide +kernel
theorem dX7_isAll_7 : decode cX7_isAll 7 = .ok (.iload_n 2, 1) := by decide +kernel
theorem dX7_isAll_8 : decode cX7_isAll 8 = .ok (.if_icmp .gt 35, 3) := by decide +kernel
theorem dX7_isAll_11 : decode cX7_isAll 11 = .ok (.iload_n 3, 1) := by decide +kernel
theorem dX7_isAll_12 : decode cX7_isAll 12 = .ok (.ifCond .eq 23, 3) := by decide +kernel
theorem dX7_isAll_15 : decode cX7_isAll 15 = .ok (.aload_n 0, 1) := by decide +kernel
theorem dX7_isAll_16 : decode cX7_isAll 16 = .ok (.iload_n 1, 1) := by decide +kernel
theorem dX7_isAll_17 : decode cX7_isAll 17 = .ok (.iload 4, 2) := by decide +kernel
theorem dX7_isAll_19 : decode cX7_isAll 19 = .ok (.invokevirtual 167, 3) := by decide +kernel
theorem dX7_isAll_22 : decode cX7_isAll 22 = .ok (.iload_n 2, 1) := by decide +kernel
theorem dX7_isAll_23 : decode cX7_isAll 23 = .ok (.iconst 1, 1) := by decide +kernel
theorem dX7_isAll_24 : decode cX7_isAll 24 = .ok (.iadd, 1) := by decide +kernel
theorem dX7_isAll_25 : decode cX7_isAll 25 = .ok (.iload 4, 2) := by decide +kernel
theorem dX7_isAll_27 : decode cX7_isAll 27 = .ok (.isub, 1) := by decide +kernel
theorem dX7_isAll_28 : decode cX7_isAll 28 = .ok (.if_icmp .ne 7, 3) := by decide +kernel
theorem dX7_isAll_31 : decode cX7_isAll 31 = .ok (.iconst 1, 1) := by decide +kernel
theorem dX7_isAll_32 : decode cX7_isAll 32 = .ok (.goto 4, 3) := by decide +kernel
theorem dX7_isAll_35 : decode cX7_isAll 35 = .ok (.iconst 0, 1) := by decide +kernel
theorem dX7_isAll_36 : decode cX7_isAll 36 = .ok (.istore_n 3, 1) := by decide +kernel
theorem dX7_isAll_37 : decode cX7_isAll 37 = .ok (.iinc 4 1, 3) := by decide +kernel
theorem dX7_isAll_40 : decode cX7_isAll 40 = .ok (.goto (-35), 3) := by decide +kernel
theorem dX7_isAll_43 : decode cX7_isAll 43 = .ok (.iload_n 3, 1) := by decide +kernel
theorem dX7_isAll_44 : decode cX7_isAll 44 = .ok (.ireturn, 1) := by decide +kernel
theorem dX7_isNothing_0 : decode cX7_isNothing 0 = .ok (.iconst 1, 1) := by decide +kernel
theorem dX7_isNothing_1 : decode cX7_isNothing 1 = .ok (.istore_n 3, 1) := by decide +kernel
theorem dX7_isNothing_2 : decode cX7_isNothing 2 = .ok (.iconst 1, 1) := by decide +kernel
theorem dX7_isNothing_3 : decode cX7_isNothing 3 = .ok (.istore 4, 2) := by decide +kernel
theorem dX7_isNothing_5 : decode cX7_isNothing 5 = .ok (.iload 4, 2) := by decide +kernel
theorem dX7_isNothing_7 : decode cX7_isNothing 7 = .ok (.iload_n 2, 1) := by decide +kernel
theorem dX7_isNothing_8 : decode cX7_isNothing 8 = .ok (.if_icmp .gt 31, 3) := by decide +kernel
theorem dX7_isNothing_11 : decode cX7_isNothing 11 = .ok (.iload_n 3, 1) := by decide +kernel
theorem dX7_isNothing_12 : decode cX7_isNothing 12 = .ok (.ifCond .eq 19, 3) := by decide +kernel
theorem dX7_isNothing_15 : decode cX7_isNothing 15 = .ok (.aload_n 0, 1) := by decide +kernel
theorem dX7_isNothing_16 : decode cX7_isNothing 16 = .ok (.iload_n 1, 1) := by decide +kernel
theorem dX7_isNothing_17 : decode cX7_isNothing 17 = .ok (.iload 4, 2) := by decide +kernel
theorem dX7_isNothing_19 : decode cX7_isNothing 19 = .ok (.invokevirtual 167, 3) := by decide +kernel
theorem dX7_isNothing_22 : decode cX7_isNothing 22 = .ok (.iload 4, 2) := by decide +kernel
theorem dX7_isNothing_24 : decode cX7_isNothing 24 = .ok (.if_icmp .ne 7, 3) := by decide +kernel
theorem dX7_isNothing_27 : decode cX7_isNothing 27 = .ok (.iconst 1, 1) := by decide +kernel
theorem dX7_isNothing_28 : decode cX7_isNothing 28 = .ok (.goto 4, 3) := by decide +kernel
theorem dX7_isNothing_31 : decode cX7_isNothing 31 = .ok (.iconst 0, 1) := by decide +kernel
theorem dX7_isNothing_32 : decode cX7_isNothing 32 = .ok (.istore_n 3, 1) := by decide +kernel
theorem dX7_isNothing_33 : decode cX7_isNothing 33 = .ok (.iinc 4 1, 3) := by decide +kernel
theorem dX7_isNothing_36 : decode cX7_isNothing 36 = .ok (.goto (-31), 3) := by decide +kernel
theorem dX7_isNothing_39 : decode cX7_isNothing 39 = .ok (.iload_n 3, 1) := by decide +kernel
theorem dX7_isNothing_40 : decode cX7_isNothing 40 = .ok (.ireturn, 1) := by decide +kernel
theorem dX7_takes_0 : decode cX7_takes 0 = .ok (.iconst 0, 1) := by decide +kernel
theorem dX7_takes_1 : decode cX7_takes 1 = .ok (.istore_n 3, 1) := by decide +kernel
theorem dX7_takes_2 : decode cX7_takes 2 = .ok (.iconst 1, 1) := by decide +kernel
theorem dX7_takes_3 : decode cX7_takes 3 = .ok (.istore 4, 2) := by decide +kernel
theorem dX7_takes_5 : decode cX7_takes 5 = .ok (.iload 4, 2) := by decide +kernel
theorem dX7_takes_7 : decode cX7_takes 7 = .ok (.iload_n 2, 1) := by decide +kernel
theorem dX7_takes_8 : decode cX7_takes 8 = .ok (.if_icmp .ge 122, 3) := by decide +kernel
theorem dX7_takes_11 : decode cX7_takes 11 = .ok (.aload_n 0, 1) := by decide +kernel
theorem dX7_takes_12 : decode cX7_takes 12 = .ok (.iload_n 1, 1) := by decide +kernel
theorem dX7_takes_13 : decode cX7_takes 13 = .ok (.iconst 1, 1) := by decide +kernel
theorem dX7_takes_14 : decode cX7_takes 14 = .ok (.iadd, 1) := by decide +kernel
theorem dX7_takes_15 : decode cX7_takes 15 = .ok (.iload 4, 2) := by decide +kernel
theorem dX7_takes_17 : decode cX7_takes 17 = .ok (.invokevirtual 167, 3) := by decide +kernel
theorem dX7_takes_20 : decode cX7_takes 20 = .ok (.aload_n 0, 1) := by decide +kernel
theorem dX7_takes_21 : decode cX7_takes 21 = .ok (.iload_n 1, 1) := by decide +kernel
theorem dX7_takes_22 : decode cX7_takes 22 = .ok (.iconst 1, 1) := by decide +kernel
theorem dX7_takes_23 : decode cX7_takes 23 = .ok (.iadd, 1) := by decide +kernel
theorem dX7_takes_24 : decode cX7_takes 24 = .ok (.iload 4, 2) := by decide +kernel
theorem dX7_takes_26 : decode cX7_takes 26 = .ok (.iconst 1, 1) := by decide +kernel
theorem dX7_takes_27 : decode cX7_takes 27 = .ok (.iadd, 1) := by decide +kernel
theorem dX7_takes_28 : decode cX7_takes 28 = .ok (.invokevirtual 167, 3) := by decide +kernel
theorem dX7_takes_31 : decode cX7_takes 31 = .ok (.if_icmp .le 93, 3) := by decide +kernel
theorem dX7_takes_34 : decode cX7_takes 34 = .ok (.aload_n 0, 1) := by decide +kernel
theorem dX7_takes_35 : decode cX7_takes 35 = .ok (.iload_n 1, 1) := by decide +kernel
theorem dX7_takes_36 : decode cX7_takes 36 = .ok (.iload 4, 2) := by decide +kernel
theorem dX7_takes_38 : decode cX7_takes 38 = .ok (.invokevirtual 171, 3) := by decide +kernel
theorem dX7_takes_41 : decode cX7_takes 41 = .ok (.aload_n 0, 1) := by decide +kernel
theorem dX7_takes_42 : decode cX7_takes 42 = .ok (.iload_n 1, 1) := by decide +kernel
theorem dX7_takes_43 : decode cX7_takes 43 = .ok (.iload 4, 2) := by decide +kernel
theorem dX7_takes_45 : decode cX7_takes 45 = .ok (.iconst 1, 1) := by decide +kernel
theorem dX7_takes_46 : decode cX7_takes 46 = .ok (.iadd, 1) := by decide +kernel
theorem dX7_takes_47 : decode cX7_takes 47 = .ok (.invokevirtual 171, 3) := by decide +kernel
theorem dX7_takes_50 : decode cX7_takes 50 = .ok (.if_icmp .ge 74, 3) := by decide +kernel
theorem dX7_takes_53 : decode cX7_takes 53 = .ok (.aload_n 0, 1) := by decide +kernel
theorem dX7_takes_54 : decode cX7_takes 54 = .ok (.iload_n 1, 1) := by decide +kernel
theorem dX7_takes_55 : decode cX7_takes 55 = .ok (.iload 4, 2) := by decide +kernel
theorem dX7_takes_57 : decode cX7_takes 57 = .ok (.invokevirtual 174, 3) := by decide +kernel
theorem dX7_takes_60 : decode cX7_takes 60 = .ok (.aload_n 0, 1) := by decide +kernel
theorem dX7_takes_61 : decode cX7_takes 61 = .ok (.iload_n 1, 1) := by decide +kernel
theorem dX7_takes_62 : decode cX7_takes 62 = .ok (.iconst 1, 1) := by decide +kernel
theorem dX7_takes_63 : decode cX7_takes 63 = .ok (.iadd, 1) := by decide +kernel
theorem dX7_takes_64 : decode cX7_takes 64 = .ok (.iload 4, 2) := by decide +kernel
theorem dX7_takes_66 : decode cX7_takes 66 = .ok (.invokevirtual 167, 3) := by decide +kernel
theorem dX7_takes_69 : decode cX7_takes 69 = .ok (.istore 5, 2) := by decide +kernel
theorem dX7_takes_71 : decode cX7_takes 71 = .ok (.aload_n 0, 1) := by decide +kernel
theorem dX7_takes_72 : decode cX7_takes 72 = .ok (.getfield 35, 3) := by decide +kernel
theorem dX7_takes_75 : decode cX7_takes 75 = .ok (.bipush 8, 2) := by decide +kernel
theorem dX7_takes_77 : decode cX7_takes 77 = .ok (.iload_n 1, 1) := by decide +kernel
theorem dX7_takes_78 : decode cX7_takes 78 = .ok (.imul, 1) := by decide +kernel
theorem dX7_takes_79 : decode cX7_takes 79 = .ok (.bipush 8, 2) := by decide +kernel
theorem dX7_takes_81 : decode cX7_takes 81 = .ok (.iadd, 1) := by decide +kernel
theorem dX7_takes_82 : decode cX7_takes 82 = .ok (.iload 4, 2) := by decide +kernel
theorem dX7_takes_84 : decode cX7_takes 84 = .ok (.iadd, 1) := by decide +kernel
theorem dX7_takes_85 : decode cX7_takes 85 = .ok (.aload_n 0, 1) := by decide +kernel
theorem dX7_takes_86 : decode cX7_takes 86 = .ok (.iload_n 1, 1) := by decide +kernel
theorem dX7_takes_87 : decode cX7_takes 87 = .ok (.iconst 1, 1) := by decide +kernel
theorem dX7_takes_88 : decode cX7_takes 88 = .ok (.iadd, 1) := by decide +kernel
theorem dX7_takes_89 : decode cX7_takes 89 = .ok (.iload 4, 2) := by decide +kernel
theorem dX7_takes_91 : decode cX7_takes 91 = .ok (.iconst 1, 1) := by decide +kernel
theorem dX7_takes_92 : decode cX7_takes 92 = .ok (.iadd, 1) := by decide +kernel
theorem dX7_takes_93 : decode cX7_takes 93 = .ok (.invokevirtual 167, 3) := by decide +kernel
theorem dX7_takes_96 : decode cX7_takes 96 = .ok (.iastore, 1) := by decide +kernel
theorem dX7_takes_97 : decode cX7_takes 97 = .ok (.aload_n 0, 1) := by decide +kernel
theorem dX7_takes_98 : decode cX7_takes 98 = .ok (.getfield 35, 3) := by decide +kernel
theorem dX7_takes_101 : decode cX7_takes 101 = .ok (.bipush 8, 2) := by decide +kernel
theorem dX7_takes_103 : decode cX7_takes 103 = .ok (.iload_n 1, 1) := by decide +kernel
theorem dX7_takes_104 : decode cX7_takes 104 = .ok (.imul, 1) := by decide +kernel
theorem dX7_takes_105 : decode cX7_takes 105 = .ok (.bipush 8, 2) := by decide +kernel
theorem dX7_takes_107 : decode cX7_takes 107 = .ok (.iadd, 1) := by decide +kernel
theorem dX7_takes_108 : decode cX7_takes 108 = .ok (.iload 4, 2) := by decide +kernel
theorem dX7_takes_110 : decode cX7_takes 110 = .ok (.iadd, 1) := by decide +kernel
theorem dX7_takes_111 : decode cX7_takes 111 = .ok (.iconst 1, 1) := by decide +kernel
theorem dX7_takes_112 : decode cX7_takes 112 = .ok (.iadd, 1) := by decide +kernel
theorem dX7_takes_113 : decode cX7_takes 113 = .ok (.iload 5, 2) := by decide +kernel
theorem dX7_takes_115 : decode cX7_takes 115 = .ok (.iastore, 1) := by decide +kernel
theorem dX7_takes_116 : decode cX7_takes 116 = .ok (.iconst 1, 1) := by decide +kernel
theorem dX7_takes_117 : decode cX7_takes 117 = .ok (.istore_n 3, 1) := by decide +kernel
theorem dX7_takes_118 : decode cX7_takes 118 = .ok (.iconst 1, 1) := by decide +kernel
theorem dX7_takes_119 : decode cX7_takes 119 = .ok (.istore 4, 2) := by decide +kernel
theorem dX7_takes_121 : decode cX7_takes 121 = .ok (.goto (-116), 3) := by decide +kernel
theorem dX7_takes_124 : decode cX7_takes 124 = .ok (.iinc 4 1, 3) := by decide +kernel
theorem dX7_takes_127 : decode cX7_takes 127 = .ok (.goto (-122), 3) := by decide +kernel
theorem dX7_takes_130 : decode cX7_takes 130 = .ok (.iload_n 3, 1) := by decide +kernel
theorem dX7_takes_131 : decode cX7_takes 131 = .ok (.ireturn, 1) := by decide +kernel
theorem dX7_drops_0 : decode cX7_drops 0 = .ok (.iconst 0, 1) := by decide +kernel
theorem dX7_drops_1 : decode cX7_drops 1 = .ok (.istore_n 2, 1) := by decide +kernel
theorem dX7_drops_2 : decode cX7_drops 2 = .ok (.iconst 0, 1) := by decide +kernel
theorem dX7_drops_3 : decode cX7_drops 3 = .ok (.istore_n 3, 1) := by decide +kernel
theorem dX7_drops_4 : decode cX7_drops 4 = .ok (.iload_n 3, 1) := by decide +kernel
theorem dX7_drops_5 : decode cX7_drops 5 = .ok (.aload_n 0, 1) := by decide +kernel
theorem dX7_drops_6 : decode cX7_drops 6 = .ok (.getfield 178, 3) := by decide +kernel
theorem dX7_drops_9 : decode cX7_drops 9 = .ok (.if_icmp .ge 58, 3) := by decide +kernel
theorem dX7_drops_12 : decode cX7_drops 12 = .ok (.aload_n 0, 1) := by decide +kernel
theorem dX7_drops_13 : decode cX7_drops 13 = .ok (.iload_n 3, 1) := by decide +kernel
theorem dX7_drops_14 : decode cX7_drops 14 = .ok (.iload_n 1, 1) := by decide +kernel
theorem dX7_drops_15 : decode cX7_drops 15 = .ok (.invokevirtual 181, 3) := by decide +kernel
theorem dX7_drops_18 : decode cX7_drops 18 = .ok (.ifCond .eq 6, 3) := by decide +kernel
theorem dX7_drops_21 : decode cX7_drops 21 = .ok (.goto 40, 3) := by decide +kernel
theorem dX7_drops_24 : decode cX7_drops 24 = .ok (.iconst 1, 1) := by decide +kernel
theorem dX7_drops_25 : decode cX7_drops 25 = .ok (.istore 4, 2) := by decide +kernel
theorem dX7_drops_27 : decode cX7_drops 27 = .ok (.iload 4, 2) := by decide +kernel
theorem dX7_drops_29 : decode cX7_drops 29 = .ok (.iload_n 1, 1) := by decide +kernel
theorem dX7_drops_30 : decode cX7_drops 30 = .ok (.if_icmp .gt 28, 3) := by decide +kernel
theorem dX7_drops_33 : decode cX7_drops 33 = .ok (.aload_n 0, 1) := by decide +kernel
theorem dX7_drops_34 : decode cX7_drops 34 = .ok (.getfield 35, 3) := by decide +kernel
theorem dX7_drops_37 : decode cX7_drops 37 = .ok (.bipush 8, 2) := by decide +kernel
theorem dX7_drops_39 : decode cX7_drops 39 = .ok (.iload_n 2, 1) := by decide +kernel
theorem dX7_drops_40 : decode cX7_drops 40 = .ok (.imul, 1) := by decide +kernel
theorem dX7_drops_41 : decode cX7_drops 41 = .ok (.iload 4, 2) := by decide +kernel
theorem dX7_drops_43 : decode cX7_drops 43 = .ok (.iadd, 1) := by decide +kernel
theorem dX7_drops_44 : decode cX7_drops 44 = .ok (.aload_n 0, 1) := by decide +kernel
theorem dX7_drops_45 : decode cX7_drops 45 = .ok (.iload_n 3, 1) := by decide +kernel
theorem dX7_drops_46 : decode cX7_drops 46 = .ok (.iload 4, 2) := by decide +kernel
theorem dX7_drops_48 : decode cX7_drops 48 = .ok (.invokevirtual 167, 3) := by decide +kernel
theorem dX7_drops_51 : decode cX7_drops 51 = .ok (.iastore, 1) := by decide +kernel
theorem dX7_drops_52 : decode cX7_drops 52 = .ok (.iinc 4 1, 3) := by decide +kernel
theorem dX7_drops_55 : decode cX7_drops 55 = .ok (.goto (-28), 3) := by decide +kernel
theorem dX7_drops_58 : decode cX7_drops 58 = .ok (.iinc 2 1, 3) := by decide +kernel
theorem dX7_drops_61 : decode cX7_drops 61 = .ok (.iinc 3 1, 3) := by decide +kernel
theorem dX7_drops_64 : decode cX7_drops 64 = .ok (.goto (-60), 3) := by decide +kernel
theorem dX7_drops_67 : decode cX7_drops 67 = .ok (.aload_n 0, 1) := by decide +kernel
theorem dX7_drops_68 : decode cX7_drops 68 = .ok (.iload_n 2, 1) := by decide +kernel
theorem dX7_drops_69 : decode cX7_drops 69 = .ok (.putfield 178, 3) := by decide +kernel
theorem dX7_drops_72 : decode cX7_drops 72 = .ok (.return_, 1) := by decide +kernel
theorem dX7_form_0 : decode cX7_form 0 = .ok (.aload_n 0, 1) := by decide +kernel
theorem dX7_form_1 : decode cX7_form 1 = .ok (.getfield 17, 3) := by decide +kernel
theorem dX7_form_4 : decode cX7_form 4 = .ok (.iload_n 1, 1) := by decide +kernel
theorem dX7_form_5 : decode cX7_form 5 = .ok (.iaload, 1) := by decide +kernel
theorem dX7_form_6 : decode cX7_form 6 = .ok (.istore_n 3, 1) := by decide +kernel
theorem dX7_form_7 : decode cX7_form 7 = .ok (.aload_n 0, 1) := by decide +kernel
theorem dX7_form_8 : decode cX7_form 8 = .ok (.iconst 0, 1) := by decide +kernel
theorem dX7_form_9 : decode cX7_form 9 = .ok (.putfield 178, 3) := by decide +kernel
theorem dX7_form_12 : decode cX7_form 12 = .ok (.aload_n 0, 1) := by decide +kernel
theorem dX7_form_13 : decode cX7_form 13 = .ok (.iconst 0, 1) := by decide +kernel
theorem dX7_form_14 : decode cX7_form 14 = .ok (.putfield 184, 3) := by decide +kernel
theorem dX7_form_17 : decode cX7_form 17 = .ok (.aload_n 0, 1) := by decide +kernel
theorem dX7_form_18 : decode cX7_form 18 = .ok (.getfield 20, 3) := by decide +kernel
theorem dX7_form_21 : decode cX7_form 21 = .ok (.iload_n 1, 1) := by decide +kernel
theorem dX7_form_22 : decode cX7_form 22 = .ok (.iaload, 1) := by decide +kernel
theorem dX7_form_23 : decode cX7_form 23 = .ok (.iload_n 2, 1) := by decide +kernel
theorem dX7_form_24 : decode cX7_form 24 = .ok (.imul, 1) := by decide +kernel
theorem dX7_form_25 : decode cX7_form 25 = .ok (.istore 4, 2) := by decide +kernel
theorem dX7_form_27 : decode cX7_form 27 = .ok (.aload_n 0, 1) := by decide +kernel
theorem dX7_form_28 : decode cX7_form 28 = .ok (.iload 4, 2) := by decide +kernel
theorem dX7_form_30 : decode cX7_form 30 = .ok (.putfield 178, 3) := by decide +kernel
theorem dX7_form_33 : decode cX7_form 33 = .ok (.iload 4, 2) := by decide +kernel
theorem dX7_form_35 : decode cX7_form 35 = .ok (.iconst 1, 1) := by decide +kernel
theorem dX7_form_36 : decode cX7_form 36 = .ok (.isub, 1) := by decide +kernel
theorem dX7_form_37 : decode cX7_form 37 = .ok (.istore 5, 2) := by decide +kernel
theorem dX7_form_39 : decode cX7_form 39 = .ok (.iload 5, 2) := by decide +kernel
theorem dX7_form_41 : decode cX7_form 41 = .ok (.ifCond .lt 125, 3) := by decide +kernel
theorem dX7_form_44 : decode cX7_form 44 = .ok (.aload_n 0, 1) := by decide +kernel
theorem dX7_form_45 : decode cX7_form 45 = .ok (.getfield 23, 3) := by decide +kernel
theorem dX7_form_48 : decode cX7_form 48 = .ok (.sipush 300, 3) := by decide +kernel
theorem dX7_form_51 : decode cX7_form 51 = .ok (.iload_n 1, 1) := by decide +kernel
theorem dX7_form_52 : decode cX7_form 52 = .ok (.imul, 1) := by decide +kernel
theorem dX7_form_53 : decode cX7_form 53 = .ok (.iload 5, 2) := by decide +kernel
theorem dX7_form_55 : decode cX7_form 55 = .ok (.aload_n 0, 1) := by decide +kernel
theorem dX7_form_56 : decode cX7_form 56 = .ok (.getfield 20, 3) := by decide +kernel
theorem dX7_form_59 : decode cX7_form 59 = .ok (.iload_n 1, 1) := by decide +kernel
theorem dX7_form_60 : decode cX7_form 60 = .ok (.iaload, 1) := by decide +kernel
theorem dX7_form_61 : decode cX7_form 61 = .ok (.irem, 1) := by decide +kernel
theorem dX7_form_62 : decode cX7_form 62 = .ok (.iadd, 1) := by decide +kernel
theorem dX7_form_63 : decode cX7_form 63 = .ok (.iaload, 1) := by decide +kernel
theorem dX7_form_64 : decode cX7_form 64 = .ok (.istore 6, 2) := by decide +kernel
theorem dX7_form_66 : decode cX7_form 66 = .ok (.iconst 1, 1) := by decide +kernel
theorem dX7_form_67 : decode cX7_form 67 = .ok (.istore 7, 2) := by decide +kernel
theorem dX7_form_69 : decode cX7_form 69 = .ok (.iload 7, 2) := by decide +kernel
theorem dX7_form_71 : decode cX7_form 71 = .ok (.iload_n 3, 1) := by decide +kernel
theorem dX7_form_72 : decode cX7_form 72 = .ok (.if_icmp .gt 38, 3) := by decide +kernel
theorem dX7_form_75 : decode cX7_form 75 = .ok (.aload_n 0, 1) := by decide +kernel
theorem dX7_form_76 : decode cX7_form 76 = .ok (.getfield 35, 3) := by decide +kernel
theorem dX7_form_79 : decode cX7_form 79 = .ok (.bipush 8, 2) := by decide +kernel
theorem dX7_form_81 : decode cX7_form 81 = .ok (.iload 5, 2) := by decide +kernel
theorem dX7_form_83 : decode cX7_form 83 = .ok (.imul, 1) := by decide +kernel
theorem dX7_form_84 : decode cX7_form 84 = .ok (.iload 7, 2) := by decide +kernel
theorem dX7_form_86 : decode cX7_form 86 = .ok (.iadd, 1) := by decide +kernel
theorem dX7_form_87 : decode cX7_form 87 = .ok (.iload 6, 2) := by decide +kernel
theorem dX7_form_89 : decode cX7_form 89 = .ok (.ifCond .le 8, 3) := by decide +kernel
theorem dX7_form_92 : decode cX7_form 92 = .ok (.iload 7, 2) := by decide +kernel
theorem dX7_form_94 : decode cX7_form 94 = .ok (.goto 9, 3) := by decide +kernel
theorem dX7_form_97 : decode cX7_form 97 = .ok (.iload_n 3, 1) := by decide +kernel
theorem dX7_form_98 : decode cX7_form 98 = .ok (.iconst 1, 1) := by decide +kernel
theorem dX7_form_99 : decode cX7_form 99 = .ok (.iadd, 1) := by decide +kernel
theorem dX7_form_100 : decode cX7_form 100 = .ok (.iload 7, 2) := by decide +kernel
theorem dX7_form_102 : decode cX7_form 102 = .ok (.isub, 1) := by decide +kernel
theorem dX7_form_103 : decode cX7_form 103 = .ok (.iastore, 1) := by decide +kernel
theorem dX7_form_104 : decode cX7_form 104 = .ok (.iinc 7 1, 3) := by decide +kernel
theorem dX7_form_107 : decode cX7_form 107 = .ok (.goto (-38), 3) := by decide +kernel
theorem dX7_form_110 : decode cX7_form 110 = .ok (.aload_n 0, 1) := by decide +kernel
theorem dX7_form_111 : decode cX7_form 111 = .ok (.iload 5, 2) := by decide +kernel
theorem dX7_form_113 : decode cX7_form 113 = .ok (.iload 6, 2) := by decide +kernel
theorem dX7_form_115 : decode cX7_form 115 = .ok (.ifCond .le 8, 3) := by decide +kernel
theorem dX7_form_118 : decode cX7_form 118 = .ok (.iload 6, 2) := by decide +kernel
theorem dX7_form_120 : decode cX7_form 120 = .ok (.goto 6, 3) := by decide +kernel
theorem dX7_form_123 : decode cX7_form 123 = .ok (.iload 6, 2) := by decide +kernel
theorem dX7_form_125 : decode cX7_form 125 = .ok (.ineg, 1) := by decide +kernel
theorem dX7_form_126 : decode cX7_form 126 = .ok (.invokevirtual 174, 3) := by decide +kernel
theorem dX7_form_129 : decode cX7_form 129 = .ok (.aload_n 0, 1) := by decide +kernel
theorem dX7_form_130 : decode cX7_form 130 = .ok (.getfield 184, 3) := by decide +kernel
theorem dX7_form_133 : decode cX7_form 133 = .ok (.iconst 2, 1) := by decide +kernel
theorem dX7_form_134 : decode cX7_form 134 = .ok (.irem, 1) := by decide +kernel
theorem dX7_form_135 : decode cX7_form 135 = .ok (.ifCond .eq 10, 3) := by decide +kernel
theorem dX7_form_138 : decode cX7_form 138 = .ok (.aload_n 0, 1) := by decide +kernel
theorem dX7_form_139 : decode cX7_form 139 = .ok (.iload 5, 2) := by decide +kernel
theorem dX7_form_141 : decode cX7_form 141 = .ok (.iload_n 3, 1) := by decide +kernel
theorem dX7_form_142 : decode cX7_form 142 = .ok (.invokevirtual 187, 3) := by decide +kernel
theorem dX7_form_145 : decode cX7_form 145 = .ok (.iload 6, 2) := by decide +kernel
theorem dX7_form_147 : decode cX7_form 147 = .ok (.ifCond .ge 13, 3) := by decide +kernel
theorem dX7_form_150 : decode cX7_form 150 = .ok (.aload_n 0, 1) := by decide +kernel
theorem dX7_form_151 : decode cX7_form 151 = .ok (.dup, 1) := by decide +kernel
theorem dX7_form_152 : decode cX7_form 152 = .ok (.getfield 184, 3) := by decide +kernel
theorem dX7_form_155 : decode cX7_form 155 = .ok (.iconst 1, 1) := by decide +kernel
theorem dX7_form_156 : decode cX7_form 156 = .ok (.isub, 1) := by decide +kernel
theorem dX7_form_157 : decode cX7_form 157 = .ok (.putfield 184, 3) := by decide +kernel
theorem dX7_form_160 : decode cX7_form 160 = .ok (.iinc 5 (-1), 3) := by decide +kernel
theorem dX7_form_163 : decode cX7_form 163 = .ok (.goto (-124), 3) := by decide +kernel
theorem dX7_form_166 : decode cX7_form 166 = .ok (.iconst 1, 1) := by decide +kernel
theorem dX7_form_167 : decode cX7_form 167 = .ok (.istore 5, 2) := by decide +kernel
theorem dX7_form_169 : decode cX7_form 169 = .ok (.iload 5, 2) := by decide +kernel
theorem dX7_form_171 : decode cX7_form 171 = .ok (.ifCond .eq 55, 3) := by decide +kernel
theorem dX7_form_174 : decode cX7_form 174 = .ok (.iconst 0, 1) := by decide +kernel
theorem dX7_form_175 : decode cX7_form 175 = .ok (.istore 5, 2) := by decide +kernel
theorem dX7_form_177 : decode cX7_form 177 = .ok (.aload_n 0, 1) := by decide +kernel
theorem dX7_form_178 : decode cX7_form 178 = .ok (.getfield 178, 3) := by decide +kernel
theorem dX7_form_181 : decode cX7_form 181 = .ok (.iconst 2, 1) := by decide +kernel
theorem dX7_form_182 : decode cX7_form 182 = .ok (.isub, 1) := by decide +kernel
theorem dX7_form_183 : decode cX7_form 183 = .ok (.istore 6, 2) := by decide +kernel
theorem dX7_form_185 : decode cX7_form 185 = .ok (.iload 6, 2) := by decide +kernel
theorem dX7_form_187 : decode cX7_form 187 = .ok (.ifCond .lt 31, 3) := by decide +kernel
theorem dX7_form_190 : decode cX7_form 190 = .ok (.aload_n 0, 1) := by decide +kernel
theorem dX7_form_191 : decode cX7_form 191 = .ok (.iload 6, 2) := by decide +kernel
theorem dX7_form_193 : decode cX7_form 193 = .ok (.iload_n 3, 1) := by decide +kernel
theorem dX7_form_194 : decode cX7_form 194 = .ok (.invokevirtual 190, 3) := by decide +kernel
theorem dX7_form_197 : decode cX7_form 197 = .ok (.ifCond .ne 8, 3) := by decide +kernel
theorem dX7_form_200 : decode cX7_form 200 = .ok (.iload 5, 2) := by decide +kernel
theorem dX7_form_202 : decode cX7_form 202 = .ok (.ifCond .eq 7, 3) := by decide +kernel
theorem dX7_form_205 : decode cX7_form 205 = .ok (.iconst 1, 1) := by decide +kernel
theorem dX7_form_206 : decode cX7_form 206 = .ok (.goto 4, 3) := by decide +kernel
theorem dX7_form_209 : decode cX7_form 209 = .ok (.iconst 0, 1) := by decide +kernel
theorem dX7_form_210 : decode cX7_form 210 = .ok (.istore 5, 2) := by decide +kernel
theorem dX7_form_212 : decode cX7_form 212 = .ok (.iinc 6 (-1), 3) := by decide +kernel
theorem dX7_form_215 : decode cX7_form 215 = .ok (.goto (-30), 3) := by decide +kernel
theorem dX7_form_218 : decode cX7_form 218 = .ok (.aload_n 0, 1) := by decide +kernel
theorem dX7_form_219 : decode cX7_form 219 = .ok (.iload_n 3, 1) := by decide +kernel
theorem dX7_form_220 : decode cX7_form 220 = .ok (.invokevirtual 193, 3) := by decide +kernel
theorem dX7_form_223 : decode cX7_form 223 = .ok (.goto (-54), 3) := by decide +kernel
theorem dX7_form_226 : decode cX7_form 226 = .ok (.iconst 0, 1) := by decide +kernel
theorem dX7_form_227 : decode cX7_form 227 = .ok (.istore 6, 2) := by decide +kernel
theorem dX7_form_229 : decode cX7_form 229 = .ok (.iload 6, 2) := by decide +kernel
theorem dX7_form_231 : decode cX7_form 231 = .ok (.aload_n 0, 1) := by decide +kernel
theorem dX7_form_232 : decode cX7_form 232 = .ok (.getfield 178, 3) := by decide +kernel
theorem dX7_form_235 : decode cX7_form 235 = .ok (.if_icmp .ge 19, 3) := by decide +kernel
theorem dX7_form_238 : decode cX7_form 238 = .ok (.aload_n 0, 1) := by decide +kernel
theorem dX7_form_239 : decode cX7_form 239 = .ok (.iload 6, 2) := by decide +kernel
theorem dX7_form_241 : decode cX7_form 241 = .ok (.iload_n 3, 1) := by decide +kernel
theorem dX7_form_242 : decode cX7_form 242 = .ok (.invokevirtual 196, 3) := by decide +kernel
theorem dX7_form_245 : decode cX7_form 245 = .ok (.ifCond .eq 9, 3) := by decide +kernel
theorem dX7_form_248 : decode cX7_form 248 = .ok (.iinc 6 1, 3) := by decide +kernel
theorem dX7_form_251 : decode cX7_form 251 = .ok (.goto (-22), 3) := by decide +kernel
theorem dX7_form_254 : decode cX7_form 254 = .ok (.aload_n 0, 1) := by decide +kernel
theorem dX7_form_255 : decode cX7_form 255 = .ok (.dup, 1) := by decide +kernel
theorem dX7_form_256 : decode cX7_form 256 = .ok (.getfield 184, 3) := by decide +kernel
theorem dX7_form_259 : decode cX7_form 259 = .ok (.iload 6, 2) := by decide +kernel
theorem dX7_form_261 : decode cX7_form 261 = .ok (.iadd, 1) := by decide +kernel
theorem dX7_form_262 : decode cX7_form 262 = .ok (.putfield 184, 3) := by decide +kernel
theorem dX7_form_265 : decode cX7_form 265 = .ok (.iload 6, 2) := by decide +kernel
theorem dX7_form_267 : decode cX7_form 267 = .ok (.istore 7, 2) := by decide +kernel
theorem dX7_form_269 : decode cX7_form 269 = .ok (.iload 7, 2) := by decide +kernel
theorem dX7_form_271 : decode cX7_form 271 = .ok (.aload_n 0, 1) := by decide +kernel
theorem dX7_form_272 : decode cX7_form 272 = .ok (.getfield 178, 3) := by decide +kernel
theorem dX7_form_275 : decode cX7_form 275 = .ok (.if_icmp .ge 48, 3) := by decide +kernel
theorem dX7_form_278 : decode cX7_form 278 = .ok (.iconst 1, 1) := by decide +kernel
theorem dX7_form_279 : decode cX7_form 279 = .ok (.istore 8, 2) := by decide +kernel
theorem dX7_form_281 : decode cX7_form 281 = .ok (.iload 8, 2) := by decide +kernel
theorem dX7_form_283 : decode cX7_form 283 = .ok (.iload_n 3, 1) := by decide +kernel
theorem dX7_form_284 : decode cX7_form 284 = .ok (.if_icmp .gt 33, 3) := by decide +kernel
theorem dX7_form_287 : decode cX7_form 287 = .ok (.aload_n 0, 1) := by decide +kernel
theorem dX7_form_288 : decode cX7_form 288 = .ok (.getfield 35, 3) := by decide +kernel
theorem dX7_form_291 : decode cX7_form 291 = .ok (.bipush 8, 2) := by decide +kernel
theorem dX7_form_293 : decode cX7_form 293 = .ok (.iload 7, 2) := by decide +kernel
theorem dX7_form_295 : decode cX7_form 295 = .ok (.iload 6, 2) := by decide +kernel
theorem dX7_form_297 : decode cX7_form 297 = .ok (.isub, 1) := by decide +kernel
theorem dX7_form_298 : decode cX7_form 298 = .ok (.imul, 1) := by decide +kernel
theorem dX7_form_299 : decode cX7_form 299 = .ok (.iload 8, 2) := by decide +kernel
theorem dX7_form_301 : decode cX7_form 301 = .ok (.iadd, 1) := by decide +kernel
theorem dX7_form_302 : decode cX7_form 302 = .ok (.aload_n 0, 1) := by decide +kernel
theorem dX7_form_303 : decode cX7_form 303 = .ok (.iload 7, 2) := by decide +kernel
theorem dX7_form_305 : decode cX7_form 305 = .ok (.iload 8, 2) := by decide +kernel
theorem dX7_form_307 : decode cX7_form 307 = .ok (.invokevirtual 167, 3) := by decide +kernel
