def y_Z_acceptsExpression : MethodName := ⟨"CipherNotationModel", "acceptsExpression", "(II)Z"⟩
theorem d_Z_acceptsExpression_0 : decode prog_8_method_24_code 0 = .ok (.aload_n 0, 1) := by decide +kernel
theorem d_Z_acceptsExpression_1 : decode prog_8_method_24_code 1 = .ok (.getfield (168), 3) := by decide +kernel
theorem d_Z_acceptsExpression_4 : decode prog_8_method_24_code 4 = .ok (.bipush (30), 2) := by decide +kernel
theorem d_Z_acceptsExpression_6 : decode prog_8_method_24_code 6 = .ok (.if_icmp .lt (10), 3) := by decide +kernel
theorem d_Z_acceptsExpression_9 : decode prog_8_method_24_code 9 = .ok (.aload_n 0, 1) := by decide +kernel
theorem d_Z_acceptsExpression_10 : decode prog_8_method_24_code 10 = .ok (.iload_n 1, 1) := by decide +kernel
theorem d_Z_acceptsExpression_11 : decode prog_8_method_24_code 11 = .ok (.iload_n 2, 1) := by decide +kernel
theorem d_Z_acceptsExpression_12 : decode prog_8_method_24_code 12 = .ok (.invokevirtual (275), 3) := by decide +kernel
theorem d_Z_acceptsExpression_15 : decode prog_8_method_24_code 15 = .ok (.ireturn, 1) := by decide +kernel
theorem d_Z_acceptsExpression_16 : decode prog_8_method_24_code 16 = .ok (.aload_n 0, 1) := by decide +kernel
theorem d_Z_acceptsExpression_17 : decode prog_8_method_24_code 17 = .ok (.getfield (168), 3) := by decide +kernel
theorem d_Z_acceptsExpression_20 : decode prog_8_method_24_code 20 = .ok (.bipush (20), 2) := by decide +kernel
theorem d_Z_acceptsExpression_22 : decode prog_8_method_24_code 22 = .ok (.if_icmp .ne (10), 3) := by decide +kernel
theorem d_Z_acceptsExpression_25 : decode prog_8_method_24_code 25 = .ok (.aload_n 0, 1) := by decide +kernel
theorem d_Z_acceptsExpression_26 : decode prog_8_method_24_code 26 = .ok (.iload_n 1, 1) := by decide +kernel
theorem d_Z_acceptsExpression_27 : decode prog_8_method_24_code 27 = .ok (.iload_n 2, 1) := by decide +kernel
theorem d_Z_acceptsExpression_28 : decode prog_8_method_24_code 28 = .ok (.invokevirtual (278), 3) := by decide +kernel
theorem d_Z_acceptsExpression_31 : decode prog_8_method_24_code 31 = .ok (.ireturn, 1) := by decide +kernel
theorem d_Z_acceptsExpression_32 : decode prog_8_method_24_code 32 = .ok (.aload_n 0, 1) := by decide +kernel
theorem d_Z_acceptsExpression_33 : decode prog_8_method_24_code 33 = .ok (.getfield (168), 3) := by decide +kernel
theorem d_Z_acceptsExpression_36 : decode prog_8_method_24_code 36 = .ok (.bipush (21), 2) := by decide +kernel
theorem d_Z_acceptsExpression_38 : decode prog_8_method_24_code 38 = .ok (.if_icmp .ne (96), 3) := by decide +kernel
theorem d_Z_acceptsExpression_41 : decode prog_8_method_24_code 41 = .ok (.iload_n 1, 1) := by decide +kernel
theorem d_Z_acceptsExpression_42 : decode prog_8_method_24_code 42 = .ok (.bipush (94), 2) := by decide +kernel
theorem d_Z_acceptsExpression_44 : decode prog_8_method_24_code 44 = .ok (.if_icmp .eq (33), 3) := by decide +kernel
theorem d_Z_acceptsExpression_47 : decode prog_8_method_24_code 47 = .ok (.iload_n 1, 1) := by decide +kernel
theorem d_Z_acceptsExpression_48 : decode prog_8_method_24_code 48 = .ok (.bipush (38), 2) := by decide +kernel
theorem d_Z_acceptsExpression_50 : decode prog_8_method_24_code 50 = .ok (.if_icmp .eq (27), 3) := by decide +kernel
theorem d_Z_acceptsExpression_53 : decode prog_8_method_24_code 53 = .ok (.iload_n 1, 1) := by decide +kernel
theorem d_Z_acceptsExpression_54 : decode prog_8_method_24_code 54 = .ok (.bipush (124), 2) := by decide +kernel
theorem d_Z_acceptsExpression_56 : decode prog_8_method_24_code 56 = .ok (.if_icmp .eq (21), 3) := by decide +kernel
theorem d_Z_acceptsExpression_59 : decode prog_8_method_24_code 59 = .ok (.iload_n 1, 1) := by decide +kernel
theorem d_Z_acceptsExpression_60 : decode prog_8_method_24_code 60 = .ok (.bipush (43), 2) := by decide +kernel
theorem d_Z_acceptsExpression_62 : decode prog_8_method_24_code 62 = .ok (.if_icmp .eq (15), 3) := by decide +kernel
theorem d_Z_acceptsExpression_65 : decode prog_8_method_24_code 65 = .ok (.iload_n 1, 1) := by decide +kernel
theorem d_Z_acceptsExpression_66 : decode prog_8_method_24_code 66 = .ok (.bipush (45), 2) := by decide +kernel
theorem d_Z_acceptsExpression_68 : decode prog_8_method_24_code 68 = .ok (.if_icmp .eq (9), 3) := by decide +kernel
theorem d_Z_acceptsExpression_71 : decode prog_8_method_24_code 71 = .ok (.iload_n 1, 1) := by decide +kernel
theorem d_Z_acceptsExpression_72 : decode prog_8_method_24_code 72 = .ok (.bipush (42), 2) := by decide +kernel
theorem d_Z_acceptsExpression_74 : decode prog_8_method_24_code 74 = .ok (.if_icmp .ne (7), 3) := by decide +kernel
theorem d_Z_acceptsExpression_77 : decode prog_8_method_24_code 77 = .ok (.iconst 1, 1) := by decide +kernel
theorem d_Z_acceptsExpression_78 : decode prog_8_method_24_code 78 = .ok (.goto (4), 3) := by decide +kernel
theorem d_Z_acceptsExpression_81 : decode prog_8_method_24_code 81 = .ok (.iconst 0, 1) := by decide +kernel
theorem d_Z_acceptsExpression_82 : decode prog_8_method_24_code 82 = .ok (.istore_n 3, 1) := by decide +kernel
theorem d_Z_acceptsExpression_83 : decode prog_8_method_24_code 83 = .ok (.aload_n 0, 1) := by decide +kernel
theorem d_Z_acceptsExpression_84 : decode prog_8_method_24_code 84 = .ok (.getfield (96), 3) := by decide +kernel
theorem d_Z_acceptsExpression_87 : decode prog_8_method_24_code 87 = .ok (.aload_n 0, 1) := by decide +kernel
theorem d_Z_acceptsExpression_88 : decode prog_8_method_24_code 88 = .ok (.getfield (201), 3) := by decide +kernel
theorem d_Z_acceptsExpression_91 : decode prog_8_method_24_code 91 = .ok (.iconst 1, 1) := by decide +kernel
theorem d_Z_acceptsExpression_92 : decode prog_8_method_24_code 92 = .ok (.isub, 1) := by decide +kernel
theorem d_Z_acceptsExpression_93 : decode prog_8_method_24_code 93 = .ok (.iload_n 3, 1) := by decide +kernel
theorem d_Z_acceptsExpression_94 : decode prog_8_method_24_code 94 = .ok (.ifCond .eq (7), 3) := by decide +kernel
theorem d_Z_acceptsExpression_97 : decode prog_8_method_24_code 97 = .ok (.iload_n 1, 1) := by decide +kernel
theorem d_Z_acceptsExpression_98 : decode prog_8_method_24_code 98 = .ok (.goto (4), 3) := by decide +kernel
theorem d_Z_acceptsExpression_101 : decode prog_8_method_24_code 101 = .ok (.iconst 1, 1) := by decide +kernel
theorem d_Z_acceptsExpression_102 : decode prog_8_method_24_code 102 = .ok (.iastore, 1) := by decide +kernel
theorem d_Z_acceptsExpression_103 : decode prog_8_method_24_code 103 = .ok (.aload_n 0, 1) := by decide +kernel
theorem d_Z_acceptsExpression_104 : decode prog_8_method_24_code 104 = .ok (.iload_n 3, 1) := by decide +kernel
theorem d_Z_acceptsExpression_105 : decode prog_8_method_24_code 105 = .ok (.ifCond .eq (8), 3) := by decide +kernel
theorem d_Z_acceptsExpression_108 : decode prog_8_method_24_code 108 = .ok (.bipush (20), 2) := by decide +kernel
theorem d_Z_acceptsExpression_110 : decode prog_8_method_24_code 110 = .ok (.goto (5), 3) := by decide +kernel
theorem d_Z_acceptsExpression_113 : decode prog_8_method_24_code 113 = .ok (.bipush (22), 2) := by decide +kernel
theorem d_Z_acceptsExpression_115 : decode prog_8_method_24_code 115 = .ok (.putfield (168), 3) := by decide +kernel
theorem d_Z_acceptsExpression_118 : decode prog_8_method_24_code 118 = .ok (.iload_n 3, 1) := by decide +kernel
theorem d_Z_acceptsExpression_119 : decode prog_8_method_24_code 119 = .ok (.ifCond .ne (9), 3) := by decide +kernel
theorem d_Z_acceptsExpression_122 : decode prog_8_method_24_code 122 = .ok (.iload_n 1, 1) := by decide +kernel
theorem d_Z_acceptsExpression_123 : decode prog_8_method_24_code 123 = .ok (.bipush (60), 2) := by decide +kernel
theorem d_Z_acceptsExpression_125 : decode prog_8_method_24_code 125 = .ok (.if_icmp .ne (7), 3) := by decide +kernel
theorem d_Z_acceptsExpression_128 : decode prog_8_method_24_code 128 = .ok (.iconst 1, 1) := by decide +kernel
theorem d_Z_acceptsExpression_129 : decode prog_8_method_24_code 129 = .ok (.goto (4), 3) := by decide +kernel
theorem d_Z_acceptsExpression_132 : decode prog_8_method_24_code 132 = .ok (.iconst 0, 1) := by decide +kernel
theorem d_Z_acceptsExpression_133 : decode prog_8_method_24_code 133 = .ok (.ireturn, 1) := by decide +kernel
theorem d_Z_acceptsExpression_134 : decode prog_8_method_24_code 134 = .ok (.aload_n 0, 1) := by decide +kernel
theorem d_Z_acceptsExpression_135 : decode prog_8_method_24_code 135 = .ok (.getfield (168), 3) := by decide +kernel
theorem d_Z_acceptsExpression_138 : decode prog_8_method_24_code 138 = .ok (.bipush (23), 2) := by decide +kernel
theorem d_Z_acceptsExpression_140 : decode prog_8_method_24_code 140 = .ok (.if_icmp .eq (12), 3) := by decide +kernel
theorem d_Z_acceptsExpression_143 : decode prog_8_method_24_code 143 = .ok (.aload_n 0, 1) := by decide +kernel
theorem d_Z_acceptsExpression_144 : decode prog_8_method_24_code 144 = .ok (.getfield (168), 3) := by decide +kernel
theorem d_Z_acceptsExpression_147 : decode prog_8_method_24_code 147 = .ok (.bipush (24), 2) := by decide +kernel
theorem d_Z_acceptsExpression_149 : decode prog_8_method_24_code 149 = .ok (.if_icmp .ne (70), 3) := by decide +kernel
theorem d_Z_acceptsExpression_152 : decode prog_8_method_24_code 152 = .ok (.iload_n 1, 1) := by decide +kernel
theorem d_Z_acceptsExpression_153 : decode prog_8_method_24_code 153 = .ok (.bipush (41), 2) := by decide +kernel
theorem d_Z_acceptsExpression_155 : decode prog_8_method_24_code 155 = .ok (.if_icmp .ne (64), 3) := by decide +kernel
theorem d_Z_acceptsExpression_158 : decode prog_8_method_24_code 158 = .ok (.aload_n 0, 1) := by decide +kernel
theorem d_Z_acceptsExpression_159 : decode prog_8_method_24_code 159 = .ok (.getfield (168), 3) := by decide +kernel
theorem d_Z_acceptsExpression_162 : decode prog_8_method_24_code 162 = .ok (.bipush (23), 2) := by decide +kernel
theorem d_Z_acceptsExpression_164 : decode prog_8_method_24_code 164 = .ok (.if_icmp .ne (20), 3) := by decide +kernel
theorem d_Z_acceptsExpression_167 : decode prog_8_method_24_code 167 = .ok (.aload_n 0, 1) := by decide +kernel
theorem d_Z_acceptsExpression_168 : decode prog_8_method_24_code 168 = .ok (.bipush (7), 2) := by decide +kernel
theorem d_Z_acceptsExpression_170 : decode prog_8_method_24_code 170 = .ok (.aload_n 0, 1) := by decide +kernel
theorem d_Z_acceptsExpression_171 : decode prog_8_method_24_code 171 = .ok (.getfield (207), 3) := by decide +kernel
theorem d_Z_acceptsExpression_174 : decode prog_8_method_24_code 174 = .ok (.aload_n 0, 1) := by decide +kernel
theorem d_Z_acceptsExpression_175 : decode prog_8_method_24_code 175 = .ok (.getfield (224), 3) := by decide +kernel
theorem d_Z_acceptsExpression_178 : decode prog_8_method_24_code 178 = .ok (.invokevirtual (243), 3) := by decide +kernel
theorem d_Z_acceptsExpression_181 : decode prog_8_method_24_code 181 = .ok (.goto (22), 3) := by decide +kernel
theorem d_Z_acceptsExpression_184 : decode prog_8_method_24_code 184 = .ok (.aload_n 0, 1) := by decide +kernel
theorem d_Z_acceptsExpression_185 : decode prog_8_method_24_code 185 = .ok (.bipush (8), 2) := by decide +kernel
theorem d_Z_acceptsExpression_187 : decode prog_8_method_24_code 187 = .ok (.aload_n 0, 1) := by decide +kernel
theorem d_Z_acceptsExpression_188 : decode prog_8_method_24_code 188 = .ok (.getfield (96), 3) := by decide +kernel
theorem d_Z_acceptsExpression_191 : decode prog_8_method_24_code 191 = .ok (.aload_n 0, 1) := by decide +kernel
theorem d_Z_acceptsExpression_192 : decode prog_8_method_24_code 192 = .ok (.getfield (201), 3) := by decide +kernel
theorem d_Z_acceptsExpression_195 : decode prog_8_method_24_code 195 = .ok (.iconst 1, 1) := by decide +kernel
theorem d_Z_acceptsExpression_196 : decode prog_8_method_24_code 196 = .ok (.isub, 1) := by decide +kernel
theorem d_Z_acceptsExpression_197 : decode prog_8_method_24_code 197 = .ok (.iaload, 1) := by decide +kernel
theorem d_Z_acceptsExpression_198 : decode prog_8_method_24_code 198 = .ok (.i2l, 1) := by decide +kernel
theorem d_Z_acceptsExpression_199 : decode prog_8_method_24_code 199 = .ok (.iconst (-1), 1) := by decide +kernel
theorem d_Z_acceptsExpression_200 : decode prog_8_method_24_code 200 = .ok (.invokevirtual (243), 3) := by decide +kernel
theorem d_Z_acceptsExpression_203 : decode prog_8_method_24_code 203 = .ok (.aload_n 0, 1) := by decide +kernel
theorem d_Z_acceptsExpression_204 : decode prog_8_method_24_code 204 = .ok (.dup, 1) := by decide +kernel
theorem d_Z_acceptsExpression_205 : decode prog_8_method_24_code 205 = .ok (.getfield (201), 3) := by decide +kernel
theorem d_Z_acceptsExpression_208 : decode prog_8_method_24_code 208 = .ok (.iconst 1, 1) := by decide +kernel
theorem d_Z_acceptsExpression_209 : decode prog_8_method_24_code 209 = .ok (.isub, 1) := by decide +kernel
theorem d_Z_acceptsExpression_210 : decode prog_8_method_24_code 210 = .ok (.putfield (201), 3) := by decide +kernel
theorem d_Z_acceptsExpression_213 : decode prog_8_method_24_code 213 = .ok (.aload_n 0, 1) := by decide +kernel
theorem d_Z_acceptsExpression_214 : decode prog_8_method_24_code 214 = .ok (.invokevirtual (247), 3) := by decide +kernel
theorem d_Z_acceptsExpression_217 : decode prog_8_method_24_code 217 = .ok (.iconst 1, 1) := by decide +kernel
theorem d_Z_acceptsExpression_218 : decode prog_8_method_24_code 218 = .ok (.ireturn, 1) := by decide +kernel
theorem d_Z_acceptsExpression_219 : decode prog_8_method_24_code 219 = .ok (.aload_n 0, 1) := by decide +kernel
theorem d_Z_acceptsExpression_220 : decode prog_8_method_24_code 220 = .ok (.getfield (168), 3) := by decide +kernel
theorem d_Z_acceptsExpression_223 : decode prog_8_method_24_code 223 = .ok (.bipush (25), 2) := by decide +kernel
theorem d_Z_acceptsExpression_225 : decode prog_8_method_24_code 225 = .ok (.if_icmp .ne (32), 3) := by decide +kernel
theorem d_Z_acceptsExpression_228 : decode prog_8_method_24_code 228 = .ok (.iload_n 1, 1) := by decide +kernel
theorem d_Z_acceptsExpression_229 : decode prog_8_method_24_code 229 = .ok (.bipush (59), 2) := by decide +kernel
theorem d_Z_acceptsExpression_231 : decode prog_8_method_24_code 231 = .ok (.if_icmp .ne (26), 3) := by decide +kernel
theorem d_Z_acceptsExpression_234 : decode prog_8_method_24_code 234 = .ok (.aload_n 0, 1) := by decide +kernel
theorem d_Z_acceptsExpression_235 : decode prog_8_method_24_code 235 = .ok (.getfield (63), 3) := by decide +kernel
theorem d_Z_acceptsExpression_238 : decode prog_8_method_24_code 238 = .ok (.aload_n 0, 1) := by decide +kernel
theorem d_Z_acceptsExpression_239 : decode prog_8_method_24_code 239 = .ok (.getfield (186), 3) := by decide +kernel
theorem d_Z_acceptsExpression_242 : decode prog_8_method_24_code 242 = .ok (.iconst 1, 1) := by decide +kernel
theorem d_Z_acceptsExpression_243 : decode prog_8_method_24_code 243 = .ok (.isub, 1) := by decide +kernel
theorem d_Z_acceptsExpression_244 : decode prog_8_method_24_code 244 = .ok (.aload_n 0, 1) := by decide +kernel
theorem d_Z_acceptsExpression_245 : decode prog_8_method_24_code 245 = .ok (.getfield (195), 3) := by decide +kernel
theorem d_Z_acceptsExpression_248 : decode prog_8_method_24_code 248 = .ok (.iastore, 1) := by decide +kernel
theorem d_Z_acceptsExpression_249 : decode prog_8_method_24_code 249 = .ok (.aload_n 0, 1) := by decide +kernel
theorem d_Z_acceptsExpression_250 : decode prog_8_method_24_code 250 = .ok (.bipush (10), 2) := by decide +kernel
theorem d_Z_acceptsExpression_252 : decode prog_8_method_24_code 252 = .ok (.putfield (168), 3) := by decide +kernel
theorem d_Z_acceptsExpression_255 : decode prog_8_method_24_code 255 = .ok (.iconst 1, 1) := by decide +kernel
theorem d_Z_acceptsExpression_256 : decode prog_8_method_24_code 256 = .ok (.ireturn, 1) := by decide +kernel
theorem d_Z_acceptsExpression_257 : decode prog_8_method_24_code 257 = .ok (.iconst 0, 1) := by decide +kernel
theorem d_Z_acceptsExpression_258 : decode prog_8_method_24_code 258 = .ok (.ireturn, 1) := by decide +kernel
set_option maxRecDepth 100000 in
theorem cw_Z_278 : ax_cw "CipherNotationModel" 278 y_Z_acceptsStart (.code y_Z_acceptsStart prog_8_method_25_code 3 (some .boolean)) 2 := ⟨nw_5 215 (by decide +kernel) rfl, nw_1 7 (by decide +kernel) rfl, nw_5 218 rfl rfl, by decide +kernel, by decide +kernel⟩
theorem im_Z_acceptsStart : Cond.instanceMethod y_Z_acceptsStart ∈ ax_tbl := nw_5 217 (by decide +kernel) rfl
theorem se_Z_acceptsStart : Cond.selects y_Z_acceptsStart.cls y_Z_acceptsStart y_Z_acceptsStart ∈ ax_tbl := nw_sel 60 (by decide +kernel) (by decide +kernel)
set_option maxRecDepth 100000 in
theorem cw_Z_275 : ax_cw "CipherNotationModel" 275 y_Z_acceptsIndex (.code y_Z_acceptsIndex prog_8_method_27_code 3 (some .boolean)) 2 := ⟨nw_5 211 (by decide +kernel) rfl, nw_1 7 (by decide +kernel) rfl, nw_5 214 rfl rfl, by decide +kernel, by decide +kernel⟩
theorem im_Z_acceptsIndex : Cond.instanceMethod y_Z_acceptsIndex ∈ ax_tbl := nw_5 213 (by decide +kernel) rfl
theorem se_Z_acceptsIndex : Cond.selects y_Z_acceptsIndex.cls y_Z_acceptsIndex y_Z_acceptsIndex ∈ ax_tbl := nw_sel 59 (by decide +kernel) (by decide +kernel)
def f_Z_acceptsExpression (F : Nat) (a1 : Int32) (a2 : Int32) (s : ax_σ) : Option (Int32 × ax_σ) :=
  if (s.1 0 38 7) < (30 : Int32) then
    if (s.1 0 38 7) = (20 : Int32) then
      Option.bind (f_Z_acceptsStart F a1 a2 s) (fun (r46, s47) =>
        bif ax_bo r46 then
          some ((r46, s47))
        else none)
    else
      if (s.1 0 38 7) = (21 : Int32) then
        Option.bind (
          Option.bind (
            if a1 = (94 : Int32) then
              some true
            else
              if a1 = (38 : Int32) then
                some true
              else
                if a1 = (124 : Int32) then
                  some true
                else
                  if a1 = (43 : Int32) then
                    some true
                  else
                    if a1 = (45 : Int32) then
                      some true
                    else
                      if a1 = (42 : Int32) then
                        some true
                      else
                        some false) (fun w33 => bif w33 then
            some (1 : Int32)
          else
            some (0 : Int32))) (fun v34 =>
          Option.bind (
            if v34 = (0 : Int32) then
              some (1 : Int32)
            else
              some a1) (fun v36 =>
            bif ax_in ((s.1 0 38 49) - (1 : Int32)) 12 then
            ax_let (ax_wI s 0 66 (((s.1 0 38 49) - (1 : Int32))).toNatClampNeg v36) (fun s38 =>
              Option.bind (
                if v34 = (0 : Int32) then
                  some (22 : Int32)
                else
                  some (20 : Int32)) (fun v40 =>
                ax_let (ax_wI s38 0 38 7 v40) (fun s41 =>
                  Option.bind (
                    if v34 = (0 : Int32) then
                      if a1 = (60 : Int32) then
                        some true
                      else
                        some false
                    else
                      some true) (fun w44 => bif w44 then
                    some (((1 : Int32), s41))
                  else
                    some (((0 : Int32), s41))))))
            else none))
      else
        Option.bind (
          if (s.1 0 38 7) = (23 : Int32) then
            some true
          else
            if (s.1 0 38 7) = (24 : Int32) then
              some true
            else
              some false) (fun w26 => bif w26 then
          if a1 = (41 : Int32) then
            Option.bind (
              if (s.1 0 38 7) = (23 : Int32) then
                Option.bind (f_Z_emit (7 : Int32) (s.2 0 38 9) (s.1 0 38 10) s) (fun s12 =>
                  some s12)
              else
                bif ax_in ((s.1 0 38 49) - (1 : Int32)) 12 then
                Option.bind (f_Z_emit (8 : Int32) (((s.1 0 66 (((s.1 0 38 49) - (1 : Int32))).toNatClampNeg)).toInt64) (-1 : Int32) s) (fun s10 =>
                  some s10)
                else none) (fun s15 =>
              ax_let (ax_wI s15 0 38 49 ((s15.1 0 38 49) - (1 : Int32))) (fun s16 =>
                Option.bind (f_Z_complete F s16) (fun s17 =>
                  some (((1 : Int32), s17)))))
          else
            Option.bind (
              if (s.1 0 38 7) = (25 : Int32) then
                if a1 = (59 : Int32) then
                  some false
                else
                  some true
              else
                some true) (fun w8 => bif w8 then
              some (((0 : Int32), s))
            else
              bif ax_in ((s.1 0 38 22) - (1 : Int32)) 240 then
              ax_let (ax_wI s 0 55 (((s.1 0 38 22) - (1 : Int32))).toNatClampNeg (s.1 0 38 36)) (fun s6 =>
                ax_let (ax_wI s6 0 38 7 (10 : Int32)) (fun s7 =>
                  some (((1 : Int32), s7))))
              else none)
        else
          Option.bind (
            if (s.1 0 38 7) = (25 : Int32) then
              if a1 = (59 : Int32) then
                some false
              else
                some true
            else
              some true) (fun w25 => bif w25 then
            some (((0 : Int32), s))
          else
            bif ax_in ((s.1 0 38 22) - (1 : Int32)) 240 then
            ax_let (ax_wI s 0 55 (((s.1 0 38 22) - (1 : Int32))).toNatClampNeg (s.1 0 38 36)) (fun s23 =>
              ax_let (ax_wI s23 0 38 7 (10 : Int32)) (fun s24 =>
                some (((1 : Int32), s24))))
            else none))
  else
    Option.bind (f_Z_acceptsIndex F a1 a2 s) (fun (r50, s51) =>
      bif ax_bo r50 then
        some ((r50, s51))
      else none)
set_option maxHeartbeats 4000000 in
set_option maxRecDepth 100000 in
theorem t_Z_acceptsExpression {l : Launch} {D : va_G} {cA : Nat → ClassId} {ad : Nat → Nat → Nat} {al : List (Nat × Nat)} {θ : ax_Θ} {ρ : ax_ρ} {F : Nat} (h0 : ax_M0 al) {a1 : Int32} {a2 : Int32} {s : ax_σ} {r0 : Int32} {s0 : ax_σ} (h : f_Z_acceptsExpression F a1 a2 s = some (r0, s0)) : ax_T l D cA ad al θ y_Z_acceptsExpression (.code y_Z_acceptsExpression prog_8_method_24_code 4 (some .boolean)) 3 [.inr (0, 38), .inl (.int (a1)), .inl (.int (a2))] (ax_m s ρ) (some (.inl (.int r0))) (ax_m s0 ρ) := by
  refine ax_T_of (own := "CipherNotationModel") (by decide) rfl (Nat.le_of_ble_eq_true rfl) [(0, .inr (0, 38)), (1, .inl (.int (a1))), (2, .inl (.int (a2)))] rfl ?_
  intro G hA
  have hB := hA.B
  have hK := hB.K
  have hal := hB.la
  unfold f_Z_acceptsExpression at h
  refine ax_bk hK (ax_fc (ax_v_ld (ax_r_aload_n (i := 0) d_Z_acceptsExpression_0 rfl)) (ax_fc (ax_w_gf (e := none) hal d_Z_acceptsExpression_1 fd_Z_168) (ax_fc (ax_v_pu (ax_r_bipush (v := 30) d_Z_acceptsExpression_4 (by decide))) ax_fn))) (y := (6, [(0, .inr (0, 38)), (1, .inl (.int (a1))), (2, .inl (.int (a2)))], [.inl (.int ((30 : Int32))), .inl (.int ((s.1 0 38 7)))], ax_m (s) ρ)) rfl ⟨trivial, (h0 38 rfl), trivial, trivial⟩ ?_
  refine ax_ic_lt (tgt := 16) hK d_Z_acceptsExpression_6 (by decide) (fun c53 => ?_) (fun c53 => ?_)
  · replace h := ax_it c53 h
    refine ax_bk hK (ax_fc (ax_v_ld (ax_r_aload_n (i := 0) d_Z_acceptsExpression_16 rfl)) (ax_fc (ax_w_gf (e := none) hal d_Z_acceptsExpression_17 fd_Z_168) (ax_fc (ax_v_pu (ax_r_bipush (v := 20) d_Z_acceptsExpression_20 (by decide))) ax_fn))) (y := (22, [(0, .inr (0, 38)), (1, .inl (.int (a1))), (2, .inl (.int (a2)))], [.inl (.int ((20 : Int32))), .inl (.int ((s.1 0 38 7)))], ax_m (s) ρ)) rfl ⟨trivial, (h0 38 rfl), trivial, trivial⟩ ?_
    refine ax_ic_ne (tgt := 32) hK d_Z_acceptsExpression_22 (by decide) (fun c49 => ?_) (fun c49 => ?_)
    · replace h := ax_if c49 h
      refine ax_bk hK (ax_fc (ax_v_ld (ax_r_aload_n (i := 0) d_Z_acceptsExpression_32 rfl)) (ax_fc (ax_w_gf (e := none) hal d_Z_acceptsExpression_33 fd_Z_168) (ax_fc (ax_v_pu (ax_r_bipush (v := 21) d_Z_acceptsExpression_36 (by decide))) ax_fn))) (y := (38, [(0, .inr (0, 38)), (1, .inl (.int (a1))), (2, .inl (.int (a2)))], [.inl (.int ((21 : Int32))), .inl (.int ((s.1 0 38 7)))], ax_m (s) ρ)) rfl ⟨trivial, (h0 38 rfl), trivial, trivial⟩ ?_
      refine ax_ic_ne (tgt := 134) hK d_Z_acceptsExpression_38 (by decide) (fun c45 => ?_) (fun c45 => ?_)
      · replace h := ax_if c45 h
        refine ax_bk hK (ax_fc (ax_v_ld (ax_r_aload_n (i := 0) d_Z_acceptsExpression_134 rfl)) (ax_fc (ax_w_gf (e := none) hal d_Z_acceptsExpression_135 fd_Z_168) (ax_fc (ax_v_pu (ax_r_bipush (v := 23) d_Z_acceptsExpression_138 (by decide))) ax_fn))) (y := (140, [(0, .inr (0, 38)), (1, .inl (.int (a1))), (2, .inl (.int (a2)))], [.inl (.int ((23 : Int32))), .inl (.int ((s.1 0 38 7)))], ax_m (s) ρ)) rfl ⟨trivial, (h0 38 rfl), trivial, trivial⟩ ?_
        obtain ⟨w26, hw26, h⟩ := ax_bd h
        have KTw26 : w26 = true → ax_R G 4 0 0 (152, [(0, .inr (0, 38)), (1, .inl (.int (a1)))], [], ax_m (s) ρ) := by
          intro e9
          subst w26
          replace h := ax_ct h
          refine ax_bk hK (ax_fc (ax_v_ld (ax_r_iload_n (i := 1) d_Z_acceptsExpression_152 rfl)) (ax_fc (ax_v_pu (ax_r_bipush (v := 41) d_Z_acceptsExpression_153 (by decide))) ax_fn)) (y := (155, [(0, .inr (0, 38)), (1, .inl (.int (a1)))], [.inl (.int ((41 : Int32))), .inl (.int (a1))], ax_m (s) ρ)) rfl ⟨trivial, trivial, trivial⟩ ?_
          refine ax_ic_ne (tgt := 219) hK d_Z_acceptsExpression_155 (by decide) (fun c19 => ?_) (fun c19 => ?_)
          · replace h := ax_if c19 h
            refine ax_bk hK (ax_fc (ax_v_ld (ax_r_aload_n (i := 0) d_Z_acceptsExpression_219 rfl)) (ax_fc (ax_w_gf (e := none) hal d_Z_acceptsExpression_220 fd_Z_168) (ax_fc (ax_v_pu (ax_r_bipush (v := 25) d_Z_acceptsExpression_223 (by decide))) ax_fn))) (y := (225, [(0, .inr (0, 38)), (1, .inl (.int (a1)))], [.inl (.int ((25 : Int32))), .inl (.int ((s.1 0 38 7)))], ax_m (s) ρ)) rfl ⟨trivial, (h0 38 rfl), trivial, trivial⟩ ?_
            obtain ⟨w8, hw8, h⟩ := ax_bd h
            have KTw8 : w8 = true → ax_R G 4 0 0 (257, [], [], ax_m (s) ρ) := by
              intro e9
              subst w8
              replace h := ax_ct h
              refine ax_bk hK (ax_fc (ax_v_pu (ax_r_iconst (v := 0) d_Z_acceptsExpression_257 (by decide))) ax_fn) (y := (258, [], [.inl (.int ((0 : Int32)))], ax_m (s) ρ)) rfl ⟨trivial, trivial⟩ ?_
              cases h
              exact ax_zret hA (by decide) d_Z_acceptsExpression_258
            have KFw8 : w8 = false → ax_R G 4 0 0 (234, [(0, .inr (0, 38))], [], ax_m (s) ρ) := by
              intro e9
              subst w8
              replace h := ax_cf h
              obtain ⟨b5, h⟩ := ax_gd h
              refine ax_bk hK (ax_fc (ax_v_ld (ax_r_aload_n (i := 0) d_Z_acceptsExpression_234 rfl)) (ax_fc (ax_w_gf (e := none) hal d_Z_acceptsExpression_235 fd_Z_63) (ax_fc (ax_v_ld (ax_r_aload_n (i := 0) d_Z_acceptsExpression_238 rfl)) (ax_fc (ax_w_gf (e := none) hal d_Z_acceptsExpression_239 fd_Z_186) (ax_fc (ax_v_pu (ax_r_iconst (v := 1) d_Z_acceptsExpression_242 (by decide))) (ax_fc (ax_v_pu (ax_r_isub d_Z_acceptsExpression_243)) (ax_fc (ax_v_ld (ax_r_aload_n (i := 0) d_Z_acceptsExpression_244 rfl)) (ax_fc (ax_w_gf (e := none) hal d_Z_acceptsExpression_245 fd_Z_195) (ax_fc (ax_w_iast hal d_Z_acceptsExpression_248) ax_fn))))))))) (y := (249, [(0, .inr (0, 38))], [], ax_m (ax_wI s 0 55 (((s.1 0 38 22) - (1 : Int32))).toNatClampNeg (s.1 0 38 36)) ρ)) rfl ⟨trivial, (h0 38 rfl), trivial, (h0 38 rfl), trivial, trivial, trivial, (h0 38 rfl), ⟨(h0 55 rfl), ax_inp b5⟩, trivial⟩ ?_
              refine ax_lt (Q := fun ςς => ax_R G 4 0 0 (249, [(0, .inr (0, 38))], [], ax_m (ςς) ρ)) h (fun s6 h => ?_)
              refine ax_bk hK (ax_fc (ax_v_ld (ax_r_aload_n (i := 0) d_Z_acceptsExpression_249 rfl)) (ax_fc (ax_v_pu (ax_r_bipush (v := 10) d_Z_acceptsExpression_250 (by decide))) (ax_fc (ax_w_pf (tc := 0) hal d_Z_acceptsExpression_252 fp_Z_168 rfl) ax_fn))) (y := (255, [(0, .inr (0, 38))], [], ax_m (ax_wI s6 0 38 7 (10 : Int32)) ρ)) rfl ⟨trivial, trivial, (h0 38 rfl), trivial⟩ ?_
              refine ax_lt (Q := fun ςς => ax_R G 4 0 0 (255, [(0, .inr (0, 38))], [], ax_m (ςς) ρ)) h (fun s7 h => ?_)
              refine ax_bk hK (ax_fc (ax_v_pu (ax_r_iconst (v := 1) d_Z_acceptsExpression_255 (by decide))) ax_fn) (y := (256, [(0, .inr (0, 38))], [.inl (.int ((1 : Int32)))], ax_m (s7) ρ)) rfl ⟨trivial, trivial⟩ ?_
              cases h
              exact ax_zret hA (by decide) d_Z_acceptsExpression_256
            clear h
            have h := hw8
            refine ax_ic_ne (tgt := 257) hK d_Z_acceptsExpression_225 (by decide) (fun c4 => ?_) (fun c4 => ?_)
            · replace h := ax_if c4 h
              cases h
              exact ax_Lsub [] rfl (KTw8 rfl)
            · replace h := ax_it c4 h
              refine ax_bk hK (ax_fc (ax_v_ld (ax_r_iload_n (i := 1) d_Z_acceptsExpression_228 rfl)) (ax_fc (ax_v_pu (ax_r_bipush (v := 59) d_Z_acceptsExpression_229 (by decide))) ax_fn)) (y := (231, [(0, .inr (0, 38)), (1, .inl (.int (a1)))], [.inl (.int ((59 : Int32))), .inl (.int (a1))], ax_m (s) ρ)) rfl ⟨trivial, trivial, trivial⟩ ?_
              refine ax_ic_ne (tgt := 257) hK d_Z_acceptsExpression_231 (by decide) (fun c3 => ?_) (fun c3 => ?_)
              · replace h := ax_if c3 h
                cases h
                exact ax_Lsub [] rfl (KTw8 rfl)
              · replace h := ax_it c3 h
                cases h
                exact ax_Lsub [0] rfl (KFw8 rfl)
          · replace h := ax_it c19 h
            refine ax_bk hK (ax_fc (ax_v_ld (ax_r_aload_n (i := 0) d_Z_acceptsExpression_158 rfl)) (ax_fc (ax_w_gf (e := none) hal d_Z_acceptsExpression_159 fd_Z_168) (ax_fc (ax_v_pu (ax_r_bipush (v := 23) d_Z_acceptsExpression_162 (by decide))) ax_fn))) (y := (164, [(0, .inr (0, 38)), (1, .inl (.int (a1)))], [.inl (.int ((23 : Int32))), .inl (.int ((s.1 0 38 7)))], ax_m (s) ρ)) rfl ⟨trivial, (h0 38 rfl), trivial, trivial⟩ ?_
            obtain ⟨w54, hw54, h⟩ := ax_bd h
            have KEw54 : ∀ (s15 : ax_σ), w54 = s15 → ax_R G 4 0 0 (203, [(0, .inr (0, 38))], [], ax_m (s15) ρ) := by
              intro s15 e9
              subst w54
              try dsimp only at h
              refine ax_bk hK (ax_fc (ax_v_ld (ax_r_aload_n (i := 0) d_Z_acceptsExpression_203 rfl)) (ax_fc (ax_v_pu (ax_r_dup d_Z_acceptsExpression_204)) (ax_fc (ax_w_gf (e := none) hal d_Z_acceptsExpression_205 fd_Z_201) (ax_fc (ax_v_pu (ax_r_iconst (v := 1) d_Z_acceptsExpression_208 (by decide))) (ax_fc (ax_v_pu (ax_r_isub d_Z_acceptsExpression_209)) (ax_fc (ax_w_pf (tc := 0) hal d_Z_acceptsExpression_210 fp_Z_201 rfl) ax_fn)))))) (y := (213, [(0, .inr (0, 38))], [], ax_m (ax_wI s15 0 38 49 ((s15.1 0 38 49) - (1 : Int32))) ρ)) rfl ⟨trivial, trivial, (h0 38 rfl), trivial, trivial, (h0 38 rfl), trivial⟩ ?_
              refine ax_lt (Q := fun ςς => ax_R G 4 0 0 (213, [(0, .inr (0, 38))], [], ax_m (ςς) ρ)) h (fun s16 h => ?_)
              refine ax_bk hK (ax_fc (ax_v_ld (ax_r_aload_n (i := 0) d_Z_acceptsExpression_213 rfl)) ax_fn) (y := (214, [(0, .inr (0, 38))], [.inr (0, 38)], ax_m (s16) ρ)) rfl ⟨trivial, trivial⟩ ?_
              obtain ⟨s17, q18, h⟩ := ax_bd h
              refine ax_bV (rest := []) hB (t_Z_complete h0 q18) cw_Z_247 im_Z_complete se_Z_complete d_Z_acceptsExpression_214 (h0 38 rfl) rfl rfl (by decide) (by decide) rfl rfl (Nat.le_of_ble_eq_true rfl) ?_
              change ax_R G 4 0 0 (217, [(0, .inr (0, 38))], [], ax_m (s17) ρ)
              refine ax_bk hK (ax_fc (ax_v_pu (ax_r_iconst (v := 1) d_Z_acceptsExpression_217 (by decide))) ax_fn) (y := (218, [(0, .inr (0, 38))], [.inl (.int ((1 : Int32)))], ax_m (s17) ρ)) rfl ⟨trivial, trivial⟩ ?_
              cases h
              exact ax_zret hA (by decide) d_Z_acceptsExpression_218
            clear h
            have h := hw54
            refine ax_ic_ne (tgt := 184) hK d_Z_acceptsExpression_164 (by decide) (fun c14 => ?_) (fun c14 => ?_)
            · replace h := ax_if c14 h
              obtain ⟨b9, h⟩ := ax_gd h
              refine ax_bk hK (ax_fc (ax_v_ld (ax_r_aload_n (i := 0) d_Z_acceptsExpression_184 rfl)) (ax_fc (ax_v_pu (ax_r_bipush (v := 8) d_Z_acceptsExpression_185 (by decide))) (ax_fc (ax_v_ld (ax_r_aload_n (i := 0) d_Z_acceptsExpression_187 rfl)) (ax_fc (ax_w_gf (e := none) hal d_Z_acceptsExpression_188 fd_Z_96) (ax_fc (ax_v_ld (ax_r_aload_n (i := 0) d_Z_acceptsExpression_191 rfl)) (ax_fc (ax_w_gf (e := none) hal d_Z_acceptsExpression_192 fd_Z_201) (ax_fc (ax_v_pu (ax_r_iconst (v := 1) d_Z_acceptsExpression_195 (by decide))) (ax_fc (ax_v_pu (ax_r_isub d_Z_acceptsExpression_196)) (ax_fc (ax_w_iald hal d_Z_acceptsExpression_197) (ax_fc (ax_v_pu (ax_r_i2l d_Z_acceptsExpression_198)) (ax_fc (ax_v_pu (ax_r_iconst (v := -1) d_Z_acceptsExpression_199 (by decide))) ax_fn))))))))))) (y := (200, [(0, .inr (0, 38)), (1, .inl (.int (a1)))], [.inl (.int ((-1 : Int32))), .inl (.long (((s.1 0 66 (((s.1 0 38 49) - (1 : Int32))).toNatClampNeg)).toInt64)), .inl (.int ((8 : Int32))), .inr (0, 38)], ax_m (s) ρ)) rfl ⟨trivial, trivial, trivial, (h0 38 rfl), trivial, (h0 38 rfl), trivial, trivial, ⟨(h0 66 rfl), ax_inp b9⟩, trivial, trivial, trivial⟩ ?_
              obtain ⟨s10, q11, h⟩ := ax_bd h
              refine ax_bV (rest := []) hB (t_Z_emit h0 q11) cw_Z_243 im_Z_emit se_Z_emit d_Z_acceptsExpression_200 (h0 38 rfl) rfl rfl (by decide) (by decide) rfl rfl (Nat.le_of_ble_eq_true rfl) ?_
              change ax_R G 4 0 0 (203, [(0, .inr (0, 38)), (1, .inl (.int (a1)))], [], ax_m (s10) ρ)
              cases h
              exact ax_Lsub [0] rfl (KEw54 _ rfl)
            · replace h := ax_it c14 h
              refine ax_bk hK (ax_fc (ax_v_ld (ax_r_aload_n (i := 0) d_Z_acceptsExpression_167 rfl)) (ax_fc (ax_v_pu (ax_r_bipush (v := 7) d_Z_acceptsExpression_168 (by decide))) (ax_fc (ax_v_ld (ax_r_aload_n (i := 0) d_Z_acceptsExpression_170 rfl)) (ax_fc (ax_w_gf (e := none) hal d_Z_acceptsExpression_171 fd_Z_207) (ax_fc (ax_v_ld (ax_r_aload_n (i := 0) d_Z_acceptsExpression_174 rfl)) (ax_fc (ax_w_gf (e := none) hal d_Z_acceptsExpression_175 fd_Z_224) ax_fn)))))) (y := (178, [(0, .inr (0, 38)), (1, .inl (.int (a1)))], [.inl (.int ((s.1 0 38 10))), .inl (.long ((s.2 0 38 9))), .inl (.int ((7 : Int32))), .inr (0, 38)], ax_m (s) ρ)) rfl ⟨trivial, trivial, trivial, (h0 38 rfl), trivial, (h0 38 rfl), trivial⟩ ?_
              obtain ⟨s12, q13, h⟩ := ax_bd h
              refine ax_bV (rest := []) hB (t_Z_emit h0 q13) cw_Z_243 im_Z_emit se_Z_emit d_Z_acceptsExpression_178 (h0 38 rfl) rfl rfl (by decide) (by decide) rfl rfl (Nat.le_of_ble_eq_true rfl) ?_
              change ax_R G 4 0 0 (181, [(0, .inr (0, 38)), (1, .inl (.int (a1)))], [], ax_m (s12) ρ)
              refine ax_bk hK (ax_fc (ax_v_go (tgt := 203) d_Z_acceptsExpression_181 (by decide)) ax_fn) (y := (203, [(0, .inr (0, 38)), (1, .inl (.int (a1)))], [], ax_m (s12) ρ)) rfl ⟨trivial, trivial⟩ ?_
              cases h
              exact ax_Lsub [0] rfl (KEw54 _ rfl)
        have KFw26 : w26 = false → ax_R G 4 0 0 (219, [(0, .inr (0, 38)), (1, .inl (.int (a1)))], [], ax_m (s) ρ) := by
          intro e9
          subst w26
          replace h := ax_cf h
          refine ax_bk hK (ax_fc (ax_v_ld (ax_r_aload_n (i := 0) d_Z_acceptsExpression_219 rfl)) (ax_fc (ax_w_gf (e := none) hal d_Z_acceptsExpression_220 fd_Z_168) (ax_fc (ax_v_pu (ax_r_bipush (v := 25) d_Z_acceptsExpression_223 (by decide))) ax_fn))) (y := (225, [(0, .inr (0, 38)), (1, .inl (.int (a1)))], [.inl (.int ((25 : Int32))), .inl (.int ((s.1 0 38 7)))], ax_m (s) ρ)) rfl ⟨trivial, (h0 38 rfl), trivial, trivial⟩ ?_
          obtain ⟨w25, hw25, h⟩ := ax_bd h
          have KTw25 : w25 = true → ax_R G 4 0 0 (257, [], [], ax_m (s) ρ) := by
            intro e9
            subst w25
            replace h := ax_ct h
            refine ax_bk hK (ax_fc (ax_v_pu (ax_r_iconst (v := 0) d_Z_acceptsExpression_257 (by decide))) ax_fn) (y := (258, [], [.inl (.int ((0 : Int32)))], ax_m (s) ρ)) rfl ⟨trivial, trivial⟩ ?_
            cases h
            exact ax_zret hA (by decide) d_Z_acceptsExpression_258
          have KFw25 : w25 = false → ax_R G 4 0 0 (234, [(0, .inr (0, 38))], [], ax_m (s) ρ) := by
            intro e9
            subst w25
            replace h := ax_cf h
            obtain ⟨b22, h⟩ := ax_gd h
            refine ax_bk hK (ax_fc (ax_v_ld (ax_r_aload_n (i := 0) d_Z_acceptsExpression_234 rfl)) (ax_fc (ax_w_gf (e := none) hal d_Z_acceptsExpression_235 fd_Z_63) (ax_fc (ax_v_ld (ax_r_aload_n (i := 0) d_Z_acceptsExpression_238 rfl)) (ax_fc (ax_w_gf (e := none) hal d_Z_acceptsExpression_239 fd_Z_186) (ax_fc (ax_v_pu (ax_r_iconst (v := 1) d_Z_acceptsExpression_242 (by decide))) (ax_fc (ax_v_pu (ax_r_isub d_Z_acceptsExpression_243)) (ax_fc (ax_v_ld (ax_r_aload_n (i := 0) d_Z_acceptsExpression_244 rfl)) (ax_fc (ax_w_gf (e := none) hal d_Z_acceptsExpression_245 fd_Z_195) (ax_fc (ax_w_iast hal d_Z_acceptsExpression_248) ax_fn))))))))) (y := (249, [(0, .inr (0, 38))], [], ax_m (ax_wI s 0 55 (((s.1 0 38 22) - (1 : Int32))).toNatClampNeg (s.1 0 38 36)) ρ)) rfl ⟨trivial, (h0 38 rfl), trivial, (h0 38 rfl), trivial, trivial, trivial, (h0 38 rfl), ⟨(h0 55 rfl), ax_inp b22⟩, trivial⟩ ?_
            refine ax_lt (Q := fun ςς => ax_R G 4 0 0 (249, [(0, .inr (0, 38))], [], ax_m (ςς) ρ)) h (fun s23 h => ?_)
            refine ax_bk hK (ax_fc (ax_v_ld (ax_r_aload_n (i := 0) d_Z_acceptsExpression_249 rfl)) (ax_fc (ax_v_pu (ax_r_bipush (v := 10) d_Z_acceptsExpression_250 (by decide))) (ax_fc (ax_w_pf (tc := 0) hal d_Z_acceptsExpression_252 fp_Z_168 rfl) ax_fn))) (y := (255, [(0, .inr (0, 38))], [], ax_m (ax_wI s23 0 38 7 (10 : Int32)) ρ)) rfl ⟨trivial, trivial, (h0 38 rfl), trivial⟩ ?_
            refine ax_lt (Q := fun ςς => ax_R G 4 0 0 (255, [(0, .inr (0, 38))], [], ax_m (ςς) ρ)) h (fun s24 h => ?_)
            refine ax_bk hK (ax_fc (ax_v_pu (ax_r_iconst (v := 1) d_Z_acceptsExpression_255 (by decide))) ax_fn) (y := (256, [(0, .inr (0, 38))], [.inl (.int ((1 : Int32)))], ax_m (s24) ρ)) rfl ⟨trivial, trivial⟩ ?_
            cases h
            exact ax_zret hA (by decide) d_Z_acceptsExpression_256
          clear h
          have h := hw25
          refine ax_ic_ne (tgt := 257) hK d_Z_acceptsExpression_225 (by decide) (fun c21 => ?_) (fun c21 => ?_)
          · replace h := ax_if c21 h
            cases h
            exact ax_Lsub [] rfl (KTw25 rfl)
          · replace h := ax_it c21 h
            refine ax_bk hK (ax_fc (ax_v_ld (ax_r_iload_n (i := 1) d_Z_acceptsExpression_228 rfl)) (ax_fc (ax_v_pu (ax_r_bipush (v := 59) d_Z_acceptsExpression_229 (by decide))) ax_fn)) (y := (231, [(0, .inr (0, 38)), (1, .inl (.int (a1)))], [.inl (.int ((59 : Int32))), .inl (.int (a1))], ax_m (s) ρ)) rfl ⟨trivial, trivial, trivial⟩ ?_
            refine ax_ic_ne (tgt := 257) hK d_Z_acceptsExpression_231 (by decide) (fun c20 => ?_) (fun c20 => ?_)
            · replace h := ax_if c20 h
              cases h
              exact ax_Lsub [] rfl (KTw25 rfl)
            · replace h := ax_it c20 h
              cases h
              exact ax_Lsub [0] rfl (KFw25 rfl)
        clear h
        have h := hw26
        refine ax_ic_eq (tgt := 152) hK d_Z_acceptsExpression_140 (by decide) (fun c2 => ?_) (fun c2 => ?_)
        · replace h := ax_it c2 h
          cases h
          exact ax_Lsub [0, 1] rfl (KTw26 rfl)
        · replace h := ax_if c2 h
          refine ax_bk hK (ax_fc (ax_v_ld (ax_r_aload_n (i := 0) d_Z_acceptsExpression_143 rfl)) (ax_fc (ax_w_gf (e := none) hal d_Z_acceptsExpression_144 fd_Z_168) (ax_fc (ax_v_pu (ax_r_bipush (v := 24) d_Z_acceptsExpression_147 (by decide))) ax_fn))) (y := (149, [(0, .inr (0, 38)), (1, .inl (.int (a1))), (2, .inl (.int (a2)))], [.inl (.int ((24 : Int32))), .inl (.int ((s.1 0 38 7)))], ax_m (s) ρ)) rfl ⟨trivial, (h0 38 rfl), trivial, trivial⟩ ?_
          refine ax_ic_ne (tgt := 219) hK d_Z_acceptsExpression_149 (by decide) (fun c1 => ?_) (fun c1 => ?_)
          · replace h := ax_if c1 h
            cases h
            exact ax_Lsub [0, 1] rfl (KFw26 rfl)
          · replace h := ax_it c1 h
            cases h
            exact ax_Lsub [0, 1] rfl (KTw26 rfl)
      · replace h := ax_it c45 h
        refine ax_bk hK (ax_fc (ax_v_ld (ax_r_iload_n (i := 1) d_Z_acceptsExpression_41 rfl)) (ax_fc (ax_v_pu (ax_r_bipush (v := 94) d_Z_acceptsExpression_42 (by decide))) ax_fn)) (y := (44, [(0, .inr (0, 38)), (1, .inl (.int (a1))), (2, .inl (.int (a2)))], [.inl (.int ((94 : Int32))), .inl (.int (a1))], ax_m (s) ρ)) rfl ⟨trivial, trivial, trivial⟩ ?_
        obtain ⟨w55, hw55, h⟩ := ax_bd h
        have KEw55 : ∀ (v34 : Int32), w55 = v34 → ax_R G 4 0 0 (82, [(0, .inr (0, 38)), (1, .inl (.int (a1)))], [.inl (.int (v34))], ax_m (s) ρ) := by
          intro v34 e9
          subst w55
          try dsimp only at h
          refine ax_bk hK (ax_fc (ax_v_so (ax_r_istore_n (i := 3) d_Z_acceptsExpression_82 rfl)) (ax_fc (ax_v_ld (ax_r_aload_n (i := 0) d_Z_acceptsExpression_83 rfl)) (ax_fc (ax_w_gf (e := none) hal d_Z_acceptsExpression_84 fd_Z_96) (ax_fc (ax_v_ld (ax_r_aload_n (i := 0) d_Z_acceptsExpression_87 rfl)) (ax_fc (ax_w_gf (e := none) hal d_Z_acceptsExpression_88 fd_Z_201) (ax_fc (ax_v_pu (ax_r_iconst (v := 1) d_Z_acceptsExpression_91 (by decide))) (ax_fc (ax_v_pu (ax_r_isub d_Z_acceptsExpression_92)) (ax_fc (ax_v_ld (ax_r_iload_n (i := 3) d_Z_acceptsExpression_93 rfl)) ax_fn)))))))) (y := (94, [(3, .inl (.int (v34))), (0, .inr (0, 38)), (1, .inl (.int (a1)))], [.inl (.int (v34)), .inl (.int (((s.1 0 38 49) - (1 : Int32)))), .inr (0, 66)], ax_m (s) ρ)) rfl ⟨trivial, trivial, (h0 38 rfl), trivial, (h0 38 rfl), trivial, trivial, trivial, trivial⟩ ?_
          obtain ⟨w56, hw56, h⟩ := ax_bd h
          have KEw56 : ∀ (v36 : Int32), w56 = v36 → ax_R G 4 0 0 (102, [(0, .inr (0, 38)), (1, .inl (.int (a1))), (3, .inl (.int (v34)))], [.inl (.int (v36)), .inl (.int (((s.1 0 38 49) - (1 : Int32)))), .inr (0, 66)], ax_m (s) ρ) := by
            intro v36 e9
            subst w56
            try dsimp only at h
            obtain ⟨b37, h⟩ := ax_gd h
            refine ax_bk hK (ax_fc (ax_w_iast hal d_Z_acceptsExpression_102) ax_fn) (y := (103, [(0, .inr (0, 38)), (1, .inl (.int (a1))), (3, .inl (.int (v34)))], [], ax_m (ax_wI s 0 66 (((s.1 0 38 49) - (1 : Int32))).toNatClampNeg v36) ρ)) rfl ⟨⟨(h0 66 rfl), ax_inp b37⟩, trivial⟩ ?_
            refine ax_lt (Q := fun ςς => ax_R G 4 0 0 (103, [(0, .inr (0, 38)), (1, .inl (.int (a1))), (3, .inl (.int (v34)))], [], ax_m (ςς) ρ)) h (fun s38 h => ?_)
            refine ax_bk hK (ax_fc (ax_v_ld (ax_r_aload_n (i := 0) d_Z_acceptsExpression_103 rfl)) (ax_fc (ax_v_ld (ax_r_iload_n (i := 3) d_Z_acceptsExpression_104 rfl)) ax_fn)) (y := (105, [(0, .inr (0, 38)), (1, .inl (.int (a1))), (3, .inl (.int (v34)))], [.inl (.int (v34)), .inr (0, 38)], ax_m (s38) ρ)) rfl ⟨trivial, trivial, trivial⟩ ?_
            obtain ⟨w57, hw57, h⟩ := ax_bd h
            have KEw57 : ∀ (v40 : Int32), w57 = v40 → ax_R G 4 0 0 (115, [(1, .inl (.int (a1))), (3, .inl (.int (v34)))], [.inl (.int (v40)), .inr (0, 38)], ax_m (s38) ρ) := by
              intro v40 e9
              subst w57
              try dsimp only at h
              refine ax_bk hK (ax_fc (ax_w_pf (tc := 0) hal d_Z_acceptsExpression_115 fp_Z_168 rfl) ax_fn) (y := (118, [(1, .inl (.int (a1))), (3, .inl (.int (v34)))], [], ax_m (ax_wI s38 0 38 7 v40) ρ)) rfl ⟨(h0 38 rfl), trivial⟩ ?_
              refine ax_lt (Q := fun ςς => ax_R G 4 0 0 (118, [(1, .inl (.int (a1))), (3, .inl (.int (v34)))], [], ax_m (ςς) ρ)) h (fun s41 h => ?_)
              refine ax_bk hK (ax_fc (ax_v_ld (ax_r_iload_n (i := 3) d_Z_acceptsExpression_118 rfl)) ax_fn) (y := (119, [(1, .inl (.int (a1))), (3, .inl (.int (v34)))], [.inl (.int (v34))], ax_m (s41) ρ)) rfl ⟨trivial, trivial⟩ ?_
              obtain ⟨w44, hw44, h⟩ := ax_bd h
              have KTw44 : w44 = true → ax_R G 4 0 0 (128, [], [], ax_m (s41) ρ) := by
                intro e9
                subst w44
                replace h := ax_ct h
                refine ax_bk hK (ax_fc (ax_v_pu (ax_r_iconst (v := 1) d_Z_acceptsExpression_128 (by decide))) (ax_fc (ax_v_go (tgt := 133) d_Z_acceptsExpression_129 (by decide)) ax_fn)) (y := (133, [], [.inl (.int ((1 : Int32)))], ax_m (s41) ρ)) rfl ⟨trivial, trivial, trivial⟩ ?_
                cases h
                exact ax_zret hA (by decide) d_Z_acceptsExpression_133
              have KFw44 : w44 = false → ax_R G 4 0 0 (132, [], [], ax_m (s41) ρ) := by
                intro e9
                subst w44
                replace h := ax_cf h
                refine ax_bk hK (ax_fc (ax_v_pu (ax_r_iconst (v := 0) d_Z_acceptsExpression_132 (by decide))) ax_fn) (y := (133, [], [.inl (.int ((0 : Int32)))], ax_m (s41) ρ)) rfl ⟨trivial, trivial⟩ ?_
                cases h
                exact ax_zret hA (by decide) d_Z_acceptsExpression_133
              clear h
              have h := hw44
              refine ax_if_ne (tgt := 128) hK d_Z_acceptsExpression_119 (by decide) (fun c43 => ?_) (fun c43 => ?_)
              · replace h := ax_if c43 h
                cases h
                exact ax_Lsub [] rfl (KTw44 rfl)
              · replace h := ax_it c43 h
                refine ax_bk hK (ax_fc (ax_v_ld (ax_r_iload_n (i := 1) d_Z_acceptsExpression_122 rfl)) (ax_fc (ax_v_pu (ax_r_bipush (v := 60) d_Z_acceptsExpression_123 (by decide))) ax_fn)) (y := (125, [(1, .inl (.int (a1))), (3, .inl (.int (v34)))], [.inl (.int ((60 : Int32))), .inl (.int (a1))], ax_m (s41) ρ)) rfl ⟨trivial, trivial, trivial⟩ ?_
                refine ax_ic_ne (tgt := 132) hK d_Z_acceptsExpression_125 (by decide) (fun c42 => ?_) (fun c42 => ?_)
                · replace h := ax_if c42 h
                  cases h
                  exact ax_Lsub [] rfl (KFw44 rfl)
                · replace h := ax_it c42 h
                  cases h
                  exact ax_Lsub [] rfl (KTw44 rfl)
            clear h
            have h := hw57
            refine ax_if_eq (tgt := 113) hK d_Z_acceptsExpression_105 (by decide) (fun c39 => ?_) (fun c39 => ?_)
            · replace h := ax_it c39 h
              refine ax_bk hK (ax_fc (ax_v_pu (ax_r_bipush (v := 22) d_Z_acceptsExpression_113 (by decide))) ax_fn) (y := (115, [(0, .inr (0, 38)), (1, .inl (.int (a1))), (3, .inl (.int (v34)))], [.inl (.int ((22 : Int32))), .inr (0, 38)], ax_m (s38) ρ)) rfl ⟨trivial, trivial⟩ ?_
              cases h
              exact ax_Lsub [1, 2] rfl (KEw57 _ rfl)
            · replace h := ax_if c39 h
              refine ax_bk hK (ax_fc (ax_v_pu (ax_r_bipush (v := 20) d_Z_acceptsExpression_108 (by decide))) (ax_fc (ax_v_go (tgt := 115) d_Z_acceptsExpression_110 (by decide)) ax_fn)) (y := (115, [(0, .inr (0, 38)), (1, .inl (.int (a1))), (3, .inl (.int (v34)))], [.inl (.int ((20 : Int32))), .inr (0, 38)], ax_m (s38) ρ)) rfl ⟨trivial, trivial, trivial⟩ ?_
              cases h
              exact ax_Lsub [1, 2] rfl (KEw57 _ rfl)
          clear h
          have h := hw56
          refine ax_if_eq (tgt := 101) hK d_Z_acceptsExpression_94 (by decide) (fun c35 => ?_) (fun c35 => ?_)
          · replace h := ax_it c35 h
            refine ax_bk hK (ax_fc (ax_v_pu (ax_r_iconst (v := 1) d_Z_acceptsExpression_101 (by decide))) ax_fn) (y := (102, [(3, .inl (.int (v34))), (0, .inr (0, 38)), (1, .inl (.int (a1)))], [.inl (.int ((1 : Int32))), .inl (.int (((s.1 0 38 49) - (1 : Int32)))), .inr (0, 66)], ax_m (s) ρ)) rfl ⟨trivial, trivial⟩ ?_
            cases h
            exact ax_Lsub [1, 2, 0] rfl (KEw56 _ rfl)
          · replace h := ax_if c35 h
            refine ax_bk hK (ax_fc (ax_v_ld (ax_r_iload_n (i := 1) d_Z_acceptsExpression_97 rfl)) (ax_fc (ax_v_go (tgt := 102) d_Z_acceptsExpression_98 (by decide)) ax_fn)) (y := (102, [(3, .inl (.int (v34))), (0, .inr (0, 38)), (1, .inl (.int (a1)))], [.inl (.int (a1)), .inl (.int (((s.1 0 38 49) - (1 : Int32)))), .inr (0, 66)], ax_m (s) ρ)) rfl ⟨trivial, trivial, trivial⟩ ?_
            cases h
            exact ax_Lsub [1, 2, 0] rfl (KEw56 _ rfl)
        clear h
        have h := hw55
        obtain ⟨w33, hw33, h⟩ := ax_bd h
        have KTw33 : w33 = true → ax_R G 4 0 0 (77, [(0, .inr (0, 38)), (1, .inl (.int (a1)))], [], ax_m (s) ρ) := by
          intro e9
          subst w33
          replace h := ax_ct h
          refine ax_bk hK (ax_fc (ax_v_pu (ax_r_iconst (v := 1) d_Z_acceptsExpression_77 (by decide))) (ax_fc (ax_v_go (tgt := 82) d_Z_acceptsExpression_78 (by decide)) ax_fn)) (y := (82, [(0, .inr (0, 38)), (1, .inl (.int (a1)))], [.inl (.int ((1 : Int32)))], ax_m (s) ρ)) rfl ⟨trivial, trivial, trivial⟩ ?_
          cases h
          exact ax_Lsub [0, 1] rfl (KEw55 _ rfl)
        have KFw33 : w33 = false → ax_R G 4 0 0 (81, [(0, .inr (0, 38)), (1, .inl (.int (a1)))], [], ax_m (s) ρ) := by
          intro e9
          subst w33
          replace h := ax_cf h
          refine ax_bk hK (ax_fc (ax_v_pu (ax_r_iconst (v := 0) d_Z_acceptsExpression_81 (by decide))) ax_fn) (y := (82, [(0, .inr (0, 38)), (1, .inl (.int (a1)))], [.inl (.int ((0 : Int32)))], ax_m (s) ρ)) rfl ⟨trivial, trivial⟩ ?_
          cases h
          exact ax_Lsub [0, 1] rfl (KEw55 _ rfl)
        clear h
        have h := hw33
        refine ax_ic_eq (tgt := 77) hK d_Z_acceptsExpression_44 (by decide) (fun c32 => ?_) (fun c32 => ?_)
        · replace h := ax_it c32 h
          cases h
          exact ax_Lsub [0, 1] rfl (KTw33 rfl)
        · replace h := ax_if c32 h
          refine ax_bk hK (ax_fc (ax_v_ld (ax_r_iload_n (i := 1) d_Z_acceptsExpression_47 rfl)) (ax_fc (ax_v_pu (ax_r_bipush (v := 38) d_Z_acceptsExpression_48 (by decide))) ax_fn)) (y := (50, [(0, .inr (0, 38)), (1, .inl (.int (a1))), (2, .inl (.int (a2)))], [.inl (.int ((38 : Int32))), .inl (.int (a1))], ax_m (s) ρ)) rfl ⟨trivial, trivial, trivial⟩ ?_
          refine ax_ic_eq (tgt := 77) hK d_Z_acceptsExpression_50 (by decide) (fun c31 => ?_) (fun c31 => ?_)
          · replace h := ax_it c31 h
            cases h
            exact ax_Lsub [0, 1] rfl (KTw33 rfl)
          · replace h := ax_if c31 h
            refine ax_bk hK (ax_fc (ax_v_ld (ax_r_iload_n (i := 1) d_Z_acceptsExpression_53 rfl)) (ax_fc (ax_v_pu (ax_r_bipush (v := 124) d_Z_acceptsExpression_54 (by decide))) ax_fn)) (y := (56, [(0, .inr (0, 38)), (1, .inl (.int (a1))), (2, .inl (.int (a2)))], [.inl (.int ((124 : Int32))), .inl (.int (a1))], ax_m (s) ρ)) rfl ⟨trivial, trivial, trivial⟩ ?_
            refine ax_ic_eq (tgt := 77) hK d_Z_acceptsExpression_56 (by decide) (fun c30 => ?_) (fun c30 => ?_)
            · replace h := ax_it c30 h
              cases h
              exact ax_Lsub [0, 1] rfl (KTw33 rfl)
            · replace h := ax_if c30 h
              refine ax_bk hK (ax_fc (ax_v_ld (ax_r_iload_n (i := 1) d_Z_acceptsExpression_59 rfl)) (ax_fc (ax_v_pu (ax_r_bipush (v := 43) d_Z_acceptsExpression_60 (by decide))) ax_fn)) (y := (62, [(0, .inr (0, 38)), (1, .inl (.int (a1))), (2, .inl (.int (a2)))], [.inl (.int ((43 : Int32))), .inl (.int (a1))], ax_m (s) ρ)) rfl ⟨trivial, trivial, trivial⟩ ?_
              refine ax_ic_eq (tgt := 77) hK d_Z_acceptsExpression_62 (by decide) (fun c29 => ?_) (fun c29 => ?_)
              · replace h := ax_it c29 h
                cases h
                exact ax_Lsub [0, 1] rfl (KTw33 rfl)
              · replace h := ax_if c29 h
                refine ax_bk hK (ax_fc (ax_v_ld (ax_r_iload_n (i := 1) d_Z_acceptsExpression_65 rfl)) (ax_fc (ax_v_pu (ax_r_bipush (v := 45) d_Z_acceptsExpression_66 (by decide))) ax_fn)) (y := (68, [(0, .inr (0, 38)), (1, .inl (.int (a1))), (2, .inl (.int (a2)))], [.inl (.int ((45 : Int32))), .inl (.int (a1))], ax_m (s) ρ)) rfl ⟨trivial, trivial, trivial⟩ ?_
                refine ax_ic_eq (tgt := 77) hK d_Z_acceptsExpression_68 (by decide) (fun c28 => ?_) (fun c28 => ?_)
                · replace h := ax_it c28 h
                  cases h
                  exact ax_Lsub [0, 1] rfl (KTw33 rfl)
                · replace h := ax_if c28 h
                  refine ax_bk hK (ax_fc (ax_v_ld (ax_r_iload_n (i := 1) d_Z_acceptsExpression_71 rfl)) (ax_fc (ax_v_pu (ax_r_bipush (v := 42) d_Z_acceptsExpression_72 (by decide))) ax_fn)) (y := (74, [(0, .inr (0, 38)), (1, .inl (.int (a1))), (2, .inl (.int (a2)))], [.inl (.int ((42 : Int32))), .inl (.int (a1))], ax_m (s) ρ)) rfl ⟨trivial, trivial, trivial⟩ ?_
                  refine ax_ic_ne (tgt := 81) hK d_Z_acceptsExpression_74 (by decide) (fun c27 => ?_) (fun c27 => ?_)
                  · replace h := ax_if c27 h
                    cases h
                    exact ax_Lsub [0, 1] rfl (KFw33 rfl)
                  · replace h := ax_it c27 h
                    cases h
                    exact ax_Lsub [0, 1] rfl (KTw33 rfl)
    · replace h := ax_it c49 h
      refine ax_bk hK (ax_fc (ax_v_ld (ax_r_aload_n (i := 0) d_Z_acceptsExpression_25 rfl)) (ax_fc (ax_v_ld (ax_r_iload_n (i := 1) d_Z_acceptsExpression_26 rfl)) (ax_fc (ax_v_ld (ax_r_iload_n (i := 2) d_Z_acceptsExpression_27 rfl)) ax_fn))) (y := (28, [(0, .inr (0, 38)), (1, .inl (.int (a1))), (2, .inl (.int (a2)))], [.inl (.int (a2)), .inl (.int (a1)), .inr (0, 38)], ax_m (s) ρ)) rfl ⟨trivial, trivial, trivial, trivial⟩ ?_
      obtain ⟨⟨r46, s47⟩, q48, h⟩ := ax_bd h
      dsimp only at h
      refine ax_bV (rest := []) hB (t_Z_acceptsStart h0 q48) cw_Z_278 im_Z_acceptsStart se_Z_acceptsStart d_Z_acceptsExpression_28 (h0 38 rfl) rfl rfl (by decide) (by decide) rfl rfl (Nat.le_of_ble_eq_true rfl) ?_
      change ax_R G 4 0 0 (31, [(0, .inr (0, 38)), (1, .inl (.int (a1))), (2, .inl (.int (a2)))], [.inl (.int (r46))], ax_m (s47) ρ)
      obtain ⟨b58, h⟩ := ax_gd h
      cases h
      exact ax_zret hA (ax_bop b58) d_Z_acceptsExpression_31
  · replace h := ax_if c53 h
    refine ax_bk hK (ax_fc (ax_v_ld (ax_r_aload_n (i := 0) d_Z_acceptsExpression_9 rfl)) (ax_fc (ax_v_ld (ax_r_iload_n (i := 1) d_Z_acceptsExpression_10 rfl)) (ax_fc (ax_v_ld (ax_r_iload_n (i := 2) d_Z_acceptsExpression_11 rfl)) ax_fn))) (y := (12, [(0, .inr (0, 38)), (1, .inl (.int (a1))), (2, .inl (.int (a2)))], [.inl (.int (a2)), .inl (.int (a1)), .inr (0, 38)], ax_m (s) ρ)) rfl ⟨trivial, trivial, trivial, trivial⟩ ?_
    obtain ⟨⟨r50, s51⟩, q52, h⟩ := ax_bd h
    dsimp only at h
    refine ax_bV (rest := []) hB (t_Z_acceptsIndex h0 q52) cw_Z_275 im_Z_acceptsIndex se_Z_acceptsIndex d_Z_acceptsExpression_12 (h0 38 rfl) rfl rfl (by decide) (by decide) rfl rfl (Nat.le_of_ble_eq_true rfl) ?_
    change ax_R G 4 0 0 (15, [(0, .inr (0, 38)), (1, .inl (.int (a1))), (2, .inl (.int (a2)))], [.inl (.int (r50))], ax_m (s51) ρ)
    obtain ⟨b59, h⟩ := ax_gd h
    cases h
    exact ax_zret hA (ax_bop b59) d_Z_acceptsExpression_15
def y_Z_accepts : MethodName := ⟨"CipherNotationModel", "accepts", "(II)Z"⟩
theorem d_Z_accepts_0 : decode prog_8_method_14_code 0 = .ok (.aload_n 0, 1) := by decide +kernel
theorem d_Z_accepts_1 : decode prog_8_method_14_code 1 = .ok (.invokevirtual (220), 3) := by decide +kernel
theorem d_Z_accepts_4 : decode prog_8_method_14_code 4 = .ok (.ifCond .eq (31), 3) := by decide +kernel
theorem d_Z_accepts_7 : decode prog_8_method_14_code 7 = .ok (.iload_n 1, 1) := by decide +kernel
theorem d_Z_accepts_8 : decode prog_8_method_14_code 8 = .ok (.invokestatic (153), 3) := by decide +kernel
theorem d_Z_accepts_11 : decode prog_8_method_14_code 11 = .ok (.ifCond .eq (24), 3) := by decide +kernel
theorem d_Z_accepts_14 : decode prog_8_method_14_code 14 = .ok (.aload_n 0, 1) := by decide +kernel
theorem d_Z_accepts_15 : decode prog_8_method_14_code 15 = .ok (.iconst 1, 1) := by decide +kernel
theorem d_Z_accepts_16 : decode prog_8_method_14_code 16 = .ok (.putfield (171), 3) := by decide +kernel
theorem d_Z_accepts_19 : decode prog_8_method_14_code 19 = .ok (.aload_n 0, 1) := by decide +kernel
theorem d_Z_accepts_20 : decode prog_8_method_14_code 20 = .ok (.iload_n 1, 1) := by decide +kernel
theorem d_Z_accepts_21 : decode prog_8_method_14_code 21 = .ok (.bipush (48), 2) := by decide +kernel
theorem d_Z_accepts_23 : decode prog_8_method_14_code 23 = .ok (.isub, 1) := by decide +kernel
theorem d_Z_accepts_24 : decode prog_8_method_14_code 24 = .ok (.i2l, 1) := by decide +kernel
theorem d_Z_accepts_25 : decode prog_8_method_14_code 25 = .ok (.putfield (207), 3) := by decide +kernel
theorem d_Z_accepts_28 : decode prog_8_method_14_code 28 = .ok (.aload_n 0, 1) := by decide +kernel
theorem d_Z_accepts_29 : decode prog_8_method_14_code 29 = .ok (.iload_n 2, 1) := by decide +kernel
theorem d_Z_accepts_30 : decode prog_8_method_14_code 30 = .ok (.putfield (224), 3) := by decide +kernel
theorem d_Z_accepts_33 : decode prog_8_method_14_code 33 = .ok (.iconst 1, 1) := by decide +kernel
theorem d_Z_accepts_34 : decode prog_8_method_14_code 34 = .ok (.ireturn, 1) := by decide +kernel
theorem d_Z_accepts_35 : decode prog_8_method_14_code 35 = .ok (.aload_n 0, 1) := by decide +kernel
theorem d_Z_accepts_36 : decode prog_8_method_14_code 36 = .ok (.getfield (168), 3) := by decide +kernel
theorem d_Z_accepts_39 : decode prog_8_method_14_code 39 = .ok (.iconst 3, 1) := by decide +kernel
theorem d_Z_accepts_40 : decode prog_8_method_14_code 40 = .ok (.if_icmp .ne (9), 3) := by decide +kernel
theorem d_Z_accepts_43 : decode prog_8_method_14_code 43 = .ok (.iload_n 1, 1) := by decide +kernel
theorem d_Z_accepts_44 : decode prog_8_method_14_code 44 = .ok (.bipush (42), 2) := by decide +kernel
theorem d_Z_accepts_46 : decode prog_8_method_14_code 46 = .ok (.if_icmp .eq (21), 3) := by decide +kernel
theorem d_Z_accepts_49 : decode prog_8_method_14_code 49 = .ok (.aload_n 0, 1) := by decide +kernel
theorem d_Z_accepts_50 : decode prog_8_method_14_code 50 = .ok (.getfield (168), 3) := by decide +kernel
theorem d_Z_accepts_53 : decode prog_8_method_14_code 53 = .ok (.bipush (6), 2) := by decide +kernel
theorem d_Z_accepts_55 : decode prog_8_method_14_code 55 = .ok (.if_icmp .eq (12), 3) := by decide +kernel
theorem d_Z_accepts_58 : decode prog_8_method_14_code 58 = .ok (.aload_n 0, 1) := by decide +kernel
theorem d_Z_accepts_59 : decode prog_8_method_14_code 59 = .ok (.getfield (168), 3) := by decide +kernel
theorem d_Z_accepts_62 : decode prog_8_method_14_code 62 = .ok (.bipush (8), 2) := by decide +kernel
theorem d_Z_accepts_64 : decode prog_8_method_14_code 64 = .ok (.if_icmp .ne (7), 3) := by decide +kernel
theorem d_Z_accepts_67 : decode prog_8_method_14_code 67 = .ok (.iconst 1, 1) := by decide +kernel
theorem d_Z_accepts_68 : decode prog_8_method_14_code 68 = .ok (.goto (4), 3) := by decide +kernel
theorem d_Z_accepts_71 : decode prog_8_method_14_code 71 = .ok (.iconst 0, 1) := by decide +kernel
theorem d_Z_accepts_72 : decode prog_8_method_14_code 72 = .ok (.istore_n 3, 1) := by decide +kernel
theorem d_Z_accepts_73 : decode prog_8_method_14_code 73 = .ok (.aload_n 0, 1) := by decide +kernel
theorem d_Z_accepts_74 : decode prog_8_method_14_code 74 = .ok (.getfield (168), 3) := by decide +kernel
theorem d_Z_accepts_77 : decode prog_8_method_14_code 77 = .ok (.bipush (10), 2) := by decide +kernel
theorem d_Z_accepts_79 : decode prog_8_method_14_code 79 = .ok (.if_icmp .lt (12), 3) := by decide +kernel
theorem d_Z_accepts_82 : decode prog_8_method_14_code 82 = .ok (.aload_n 0, 1) := by decide +kernel
theorem d_Z_accepts_83 : decode prog_8_method_14_code 83 = .ok (.getfield (168), 3) := by decide +kernel
theorem d_Z_accepts_86 : decode prog_8_method_14_code 86 = .ok (.bipush (49), 2) := by decide +kernel
theorem d_Z_accepts_88 : decode prog_8_method_14_code 88 = .ok (.if_icmp .le (11), 3) := by decide +kernel
theorem d_Z_accepts_91 : decode prog_8_method_14_code 91 = .ok (.aload_n 0, 1) := by decide +kernel
theorem d_Z_accepts_92 : decode prog_8_method_14_code 92 = .ok (.iload_n 1, 1) := by decide +kernel
theorem d_Z_accepts_93 : decode prog_8_method_14_code 93 = .ok (.invokevirtual (227), 3) := by decide +kernel
theorem d_Z_accepts_96 : decode prog_8_method_14_code 96 = .ok (.goto (45), 3) := by decide +kernel
theorem d_Z_accepts_99 : decode prog_8_method_14_code 99 = .ok (.aload_n 0, 1) := by decide +kernel
theorem d_Z_accepts_100 : decode prog_8_method_14_code 100 = .ok (.getfield (168), 3) := by decide +kernel
theorem d_Z_accepts_103 : decode prog_8_method_14_code 103 = .ok (.bipush (20), 2) := by decide +kernel
theorem d_Z_accepts_105 : decode prog_8_method_14_code 105 = .ok (.if_icmp .ge (12), 3) := by decide +kernel
theorem d_Z_accepts_108 : decode prog_8_method_14_code 108 = .ok (.aload_n 0, 1) := by decide +kernel
theorem d_Z_accepts_109 : decode prog_8_method_14_code 109 = .ok (.iload_n 1, 1) := by decide +kernel
theorem d_Z_accepts_110 : decode prog_8_method_14_code 110 = .ok (.iload_n 2, 1) := by decide +kernel
theorem d_Z_accepts_111 : decode prog_8_method_14_code 111 = .ok (.invokevirtual (230), 3) := by decide +kernel
theorem d_Z_accepts_114 : decode prog_8_method_14_code 114 = .ok (.goto (27), 3) := by decide +kernel
theorem d_Z_accepts_117 : decode prog_8_method_14_code 117 = .ok (.aload_n 0, 1) := by decide +kernel
theorem d_Z_accepts_118 : decode prog_8_method_14_code 118 = .ok (.getfield (168), 3) := by decide +kernel
theorem d_Z_accepts_121 : decode prog_8_method_14_code 121 = .ok (.bipush (40), 2) := by decide +kernel
theorem d_Z_accepts_123 : decode prog_8_method_14_code 123 = .ok (.if_icmp .ge (12), 3) := by decide +kernel
theorem d_Z_accepts_126 : decode prog_8_method_14_code 126 = .ok (.aload_n 0, 1) := by decide +kernel
theorem d_Z_accepts_127 : decode prog_8_method_14_code 127 = .ok (.iload_n 1, 1) := by decide +kernel
theorem d_Z_accepts_128 : decode prog_8_method_14_code 128 = .ok (.iload_n 2, 1) := by decide +kernel
theorem d_Z_accepts_129 : decode prog_8_method_14_code 129 = .ok (.invokevirtual (233), 3) := by decide +kernel
theorem d_Z_accepts_132 : decode prog_8_method_14_code 132 = .ok (.goto (9), 3) := by decide +kernel
theorem d_Z_accepts_135 : decode prog_8_method_14_code 135 = .ok (.aload_n 0, 1) := by decide +kernel
theorem d_Z_accepts_136 : decode prog_8_method_14_code 136 = .ok (.iload_n 1, 1) := by decide +kernel
theorem d_Z_accepts_137 : decode prog_8_method_14_code 137 = .ok (.iload_n 2, 1) := by decide +kernel
theorem d_Z_accepts_138 : decode prog_8_method_14_code 138 = .ok (.invokevirtual (236), 3) := by decide +kernel
theorem d_Z_accepts_141 : decode prog_8_method_14_code 141 = .ok (.istore (4), 2) := by decide +kernel
theorem d_Z_accepts_143 : decode prog_8_method_14_code 143 = .ok (.aload_n 0, 1) := by decide +kernel
theorem d_Z_accepts_144 : decode prog_8_method_14_code 144 = .ok (.iload_n 1, 1) := by decide +kernel
theorem d_Z_accepts_145 : decode prog_8_method_14_code 145 = .ok (.iload (4), 2) := by decide +kernel
theorem d_Z_accepts_147 : decode prog_8_method_14_code 147 = .ok (.ifCond .eq (11), 3) := by decide +kernel
theorem d_Z_accepts_150 : decode prog_8_method_14_code 150 = .ok (.iload_n 3, 1) := by decide +kernel
theorem d_Z_accepts_151 : decode prog_8_method_14_code 151 = .ok (.ifCond .ne (7), 3) := by decide +kernel
theorem d_Z_accepts_154 : decode prog_8_method_14_code 154 = .ok (.iconst 1, 1) := by decide +kernel
theorem d_Z_accepts_155 : decode prog_8_method_14_code 155 = .ok (.goto (4), 3) := by decide +kernel
theorem d_Z_accepts_158 : decode prog_8_method_14_code 158 = .ok (.iconst 0, 1) := by decide +kernel
theorem d_Z_accepts_159 : decode prog_8_method_14_code 159 = .ok (.invokevirtual (164), 3) := by decide +kernel
theorem d_Z_accepts_162 : decode prog_8_method_14_code 162 = .ok (.iload (4), 2) := by decide +kernel
theorem d_Z_accepts_164 : decode prog_8_method_14_code 164 = .ok (.ireturn, 1) := by decide +kernel
set_option maxRecDepth 100000 in
theorem cw_Z_220 : ax_cw "CipherNotationModel" 220 y_Z_wantsNumber (.code y_Z_wantsNumber prog_8_method_13_code 1 (some .boolean)) 0 := ⟨nw_5 177 (by decide +kernel) rfl, nw_1 7 (by decide +kernel) rfl, nw_5 180 rfl rfl, by decide +kernel, by decide +kernel⟩
theorem im_Z_wantsNumber : Cond.instanceMethod y_Z_wantsNumber ∈ ax_tbl := nw_5 179 (by decide +kernel) rfl
theorem se_Z_wantsNumber : Cond.selects y_Z_wantsNumber.cls y_Z_wantsNumber y_Z_wantsNumber ∈ ax_tbl := nw_sel 53 (by decide +kernel) (by decide +kernel)
set_option maxRecDepth 100000 in
theorem cw_Z_227 : ax_cw "CipherNotationModel" 227 y_Z_acceptsHead (.code y_Z_acceptsHead prog_8_method_16_code 3 (some .boolean)) 1 := ⟨nw_5 181 (by decide +kernel) rfl, nw_1 7 (by decide +kernel) rfl, nw_5 184 rfl rfl, by decide +kernel, by decide +kernel⟩
theorem im_Z_acceptsHead : Cond.instanceMethod y_Z_acceptsHead ∈ ax_tbl := nw_5 183 (by decide +kernel) rfl
theorem se_Z_acceptsHead : Cond.selects y_Z_acceptsHead.cls y_Z_acceptsHead y_Z_acceptsHead ∈ ax_tbl := nw_sel 54 (by decide +kernel) (by decide +kernel)
set_option maxRecDepth 100000 in
theorem cw_Z_236 : ax_cw "CipherNotationModel" 236 y_Z_acceptsStep (.code y_Z_acceptsStep prog_8_method_20_code 4 (some .boolean)) 2 := ⟨nw_5 223 (by decide +kernel) rfl, nw_1 7 (by decide +kernel) rfl, nw_5 226 rfl rfl, by decide +kernel, by decide +kernel⟩
theorem im_Z_acceptsStep : Cond.instanceMethod y_Z_acceptsStep ∈ ax_tbl := nw_5 225 (by decide +kernel) rfl
theorem se_Z_acceptsStep : Cond.selects y_Z_acceptsStep.cls y_Z_acceptsStep y_Z_acceptsStep ∈ ax_tbl := nw_sel 62 (by decide +kernel) (by decide +kernel)
set_option maxRecDepth 100000 in
theorem cw_Z_233 : ax_cw "CipherNotationModel" 233 y_Z_acceptsExpression (.code y_Z_acceptsExpression prog_8_method_24_code 4 (some .boolean)) 2 := ⟨nw_5 207 (by decide +kernel) rfl, nw_1 7 (by decide +kernel) rfl, nw_5 210 rfl rfl, by decide +kernel, by decide +kernel⟩
theorem im_Z_acceptsExpression : Cond.instanceMethod y_Z_acceptsExpression ∈ ax_tbl := nw_5 209 (by decide +kernel) rfl
theorem se_Z_acceptsExpression : Cond.selects y_Z_acceptsExpression.cls y_Z_acceptsExpression y_Z_acceptsExpression ∈ ax_tbl := nw_sel 58 (by decide +kernel) (by decide +kernel)
set_option maxRecDepth 100000 in
theorem cw_Z_230 : ax_cw "CipherNotationModel" 230 y_Z_acceptsThing (.code y_Z_acceptsThing prog_8_method_19_code 3 (some .boolean)) 2 := ⟨nw_5 193 (by decide +kernel) rfl, nw_1 7 (by decide +kernel) rfl, nw_5 196 rfl rfl, by decide +kernel, by decide +kernel⟩
theorem im_Z_acceptsThing : Cond.instanceMethod y_Z_acceptsThing ∈ ax_tbl := nw_5 195 (by decide +kernel) rfl
theorem se_Z_acceptsThing : Cond.selects y_Z_acceptsThing.cls y_Z_acceptsThing y_Z_acceptsThing ∈ ax_tbl := nw_sel 56 (by decide +kernel) (by decide +kernel)
theorem fp_Z_207 : ax_fp "CipherNotationModel" 207 6 9 (.long) := ⟨nC6, nT6, 73, nY6, rfl, nW6, by decide, nw_4 146 (by decide +kernel) rfl, nO6, nA6, by decide +kernel, by decide +kernel⟩
theorem fp_Z_224 : ax_fp "CipherNotationModel" 224 6 10 (.int) := ⟨nC6, nT6, 73, nY6, rfl, nW6, by decide, nw_4 147 (by decide +kernel) rfl, nO6, nA6, by decide +kernel, by decide +kernel⟩
def f_Z_accepts (F : Nat) (a1 : Int32) (a2 : Int32) (s : ax_σ) : Option (Int32 × ax_σ) :=
  Option.bind (f_Z_wantsNumber s) (fun r1 =>
    Option.bind (
      if r1 = (0 : Int32) then
        some true
      else
        Option.bind (f_Z_isDigit a1) (fun r3 =>
          if r3 = (0 : Int32) then
            some true
          else
            some false)) (fun w42 => bif w42 then
      Option.bind (
        Option.bind (
          if (s.1 0 38 7) = (3 : Int32) then
            if a1 = (42 : Int32) then
              some false
            else
              some true
          else
            some true) (fun w12 => bif w12 then
          Option.bind (
            if (s.1 0 38 7) = (6 : Int32) then
              some true
            else
              if (s.1 0 38 7) = (8 : Int32) then
                some true
              else
                some false) (fun w11 => bif w11 then
            some (1 : Int32)
          else
            some (0 : Int32))
        else
          some (1 : Int32))) (fun v13 =>
        Option.bind (
          Option.bind (
            if (s.1 0 38 7) < (10 : Int32) then
              some true
            else
              if (s.1 0 38 7) ≤ (49 : Int32) then
                some false
              else
                some true) (fun w30 => bif w30 then
            Option.bind (f_Z_acceptsHead F a1 s) (fun (r16, s17) =>
              some (r16, s17))
          else
            if (20 : Int32) ≤ (s.1 0 38 7) then
              if (40 : Int32) ≤ (s.1 0 38 7) then
                Option.bind (f_Z_acceptsStep a1 a2 s) (fun (r19, s20) =>
                  some (r19, s20))
              else
                Option.bind (f_Z_acceptsExpression F a1 a2 s) (fun (r22, s23) =>
                  some (r22, s23))
            else
              Option.bind (f_Z_acceptsThing a1 a2 s) (fun (r26, s27) =>
                some (r26, s27)))) (fun (v31, s32) =>
          Option.bind (
            Option.bind (
              if v31 = (0 : Int32) then
                some true
              else
                if v13 = (0 : Int32) then
                  some false
                else
                  some true) (fun w35 => bif w35 then
              some (0 : Int32)
            else
              some (1 : Int32))) (fun v36 =>
            Option.bind (f_Z_print_II a1 v36 s32) (fun s37 =>
              bif ax_bo v31 then
                some ((v31, s37))
              else none))))
    else
      ax_let (ax_wI s 0 38 8 (1 : Int32)) (fun s39 =>
        ax_let (ax_wL s39 0 38 9 (((a1 - (48 : Int32))).toInt64)) (fun s40 =>
          ax_let (ax_wI s40 0 38 10 a2) (fun s41 =>
            some (((1 : Int32), s41)))))))
set_option maxHeartbeats 4000000 in
set_option maxRecDepth 100000 in
theorem t_Z_accepts {l : Launch} {D : va_G} {cA : Nat → ClassId} {ad : Nat → Nat → Nat} {al : List (Nat × Nat)} {θ : ax_Θ} {ρ : ax_ρ} {F : Nat} (h0 : ax_M0 al) {a1 : Int32} {a2 : Int32} {s : ax_σ} {r0 : Int32} {s0 : ax_σ} (h : f_Z_accepts F a1 a2 s = some (r0, s0)) : ax_T l D cA ad al θ y_Z_accepts (.code y_Z_accepts prog_8_method_14_code 5 (some .boolean)) 4 [.inr (0, 38), .inl (.int (a1)), .inl (.int (a2))] (ax_m s ρ) (some (.inl (.int r0))) (ax_m s0 ρ) := by
  refine ax_T_of (own := "CipherNotationModel") (by decide) rfl (Nat.le_of_ble_eq_true rfl) [(0, .inr (0, 38)), (1, .inl (.int (a1))), (2, .inl (.int (a2)))] rfl ?_
  intro G hA
  have hB := hA.B
  have hK := hB.K
  have hal := hB.la
  unfold f_Z_accepts at h
  refine ax_bk hK (ax_fc (ax_v_ld (ax_r_aload_n (i := 0) d_Z_accepts_0 rfl)) ax_fn) (y := (1, [(0, .inr (0, 38)), (1, .inl (.int (a1))), (2, .inl (.int (a2)))], [.inr (0, 38)], ax_m (s) ρ)) rfl ⟨trivial, trivial⟩ ?_
  obtain ⟨r1, q2, h⟩ := ax_bd h
  refine ax_bV (rest := []) hB (t_Z_wantsNumber h0 q2) cw_Z_220 im_Z_wantsNumber se_Z_wantsNumber d_Z_accepts_1 (h0 38 rfl) rfl rfl (by decide) (by decide) rfl rfl (Nat.le_of_ble_eq_true rfl) ?_
  change ax_R G 5 0 0 (4, [(0, .inr (0, 38)), (1, .inl (.int (a1))), (2, .inl (.int (a2)))], [.inl (.int (r1))], ax_m (s) ρ)
  obtain ⟨w42, hw42, h⟩ := ax_bd h
  have KTw42 : w42 = true → ax_R G 5 0 0 (35, [(0, .inr (0, 38)), (1, .inl (.int (a1))), (2, .inl (.int (a2)))], [], ax_m (s) ρ) := by
    intro e9
    subst w42
    replace h := ax_ct h
    refine ax_bk hK (ax_fc (ax_v_ld (ax_r_aload_n (i := 0) d_Z_accepts_35 rfl)) (ax_fc (ax_w_gf (e := none) hal d_Z_accepts_36 fd_Z_168) (ax_fc (ax_v_pu (ax_r_iconst (v := 3) d_Z_accepts_39 (by decide))) ax_fn))) (y := (40, [(0, .inr (0, 38)), (1, .inl (.int (a1))), (2, .inl (.int (a2)))], [.inl (.int ((3 : Int32))), .inl (.int ((s.1 0 38 7)))], ax_m (s) ρ)) rfl ⟨trivial, (h0 38 rfl), trivial, trivial⟩ ?_
    obtain ⟨w43, hw43, h⟩ := ax_bd h
    have KEw43 : ∀ (v13 : Int32), w43 = v13 → ax_R G 5 0 0 (72, [(0, .inr (0, 38)), (1, .inl (.int (a1))), (2, .inl (.int (a2)))], [.inl (.int (v13))], ax_m (s) ρ) := by
      intro v13 e9
      subst w43
      try dsimp only at h
      refine ax_bk hK (ax_fc (ax_v_so (ax_r_istore_n (i := 3) d_Z_accepts_72 rfl)) (ax_fc (ax_v_ld (ax_r_aload_n (i := 0) d_Z_accepts_73 rfl)) (ax_fc (ax_w_gf (e := none) hal d_Z_accepts_74 fd_Z_168) (ax_fc (ax_v_pu (ax_r_bipush (v := 10) d_Z_accepts_77 (by decide))) ax_fn)))) (y := (79, [(3, .inl (.int (v13))), (0, .inr (0, 38)), (1, .inl (.int (a1))), (2, .inl (.int (a2)))], [.inl (.int ((10 : Int32))), .inl (.int ((s.1 0 38 7)))], ax_m (s) ρ)) rfl ⟨trivial, trivial, (h0 38 rfl), trivial, trivial⟩ ?_
      obtain ⟨w44, hw44, h⟩ := ax_bd h
      have KEw44 : ∀ (v31 : Int32) (s32 : ax_σ), w44 = (v31, s32) → ax_R G 5 0 0 (141, [(0, .inr (0, 38)), (1, .inl (.int (a1))), (3, .inl (.int (v13)))], [.inl (.int (v31))], ax_m (s32) ρ) := by
        intro v31 s32 e9
        subst w44
        try dsimp only at h
        refine ax_bk hK (ax_fc (ax_v_so (ax_r_istore d_Z_accepts_141)) (ax_fc (ax_v_ld (ax_r_aload_n (i := 0) d_Z_accepts_143 rfl)) (ax_fc (ax_v_ld (ax_r_iload_n (i := 1) d_Z_accepts_144 rfl)) (ax_fc (ax_v_ld (ax_r_iload d_Z_accepts_145)) ax_fn)))) (y := (147, [(4, .inl (.int (v31))), (0, .inr (0, 38)), (1, .inl (.int (a1))), (3, .inl (.int (v13)))], [.inl (.int (v31)), .inl (.int (a1)), .inr (0, 38)], ax_m (s32) ρ)) rfl ⟨trivial, trivial, trivial, trivial, trivial⟩ ?_
        obtain ⟨w45, hw45, h⟩ := ax_bd h
        have KEw45 : ∀ (v36 : Int32), w45 = v36 → ax_R G 5 0 0 (159, [(4, .inl (.int (v31)))], [.inl (.int (v36)), .inl (.int (a1)), .inr (0, 38)], ax_m (s32) ρ) := by
          intro v36 e9
          subst w45
          try dsimp only at h
          obtain ⟨s37, q38, h⟩ := ax_bd h
          refine ax_bV (rest := []) hB (t_Z_print_II h0 q38) cw_Z_164 im_Z_print_II se_Z_print_II d_Z_accepts_159 (h0 38 rfl) rfl rfl (by decide) (by decide) rfl rfl (Nat.le_of_ble_eq_true rfl) ?_
          change ax_R G 5 0 0 (162, [(4, .inl (.int (v31)))], [], ax_m (s37) ρ)
          refine ax_bk hK (ax_fc (ax_v_ld (ax_r_iload d_Z_accepts_162)) ax_fn) (y := (164, [(4, .inl (.int (v31)))], [.inl (.int (v31))], ax_m (s37) ρ)) rfl ⟨trivial, trivial⟩ ?_
          obtain ⟨b46, h⟩ := ax_gd h
          cases h
          exact ax_zret hA (ax_bop b46) d_Z_accepts_164
        clear h
        have h := hw45
        obtain ⟨w35, hw35, h⟩ := ax_bd h
        have KTw35 : w35 = true → ax_R G 5 0 0 (158, [(4, .inl (.int (v31)))], [.inl (.int (a1)), .inr (0, 38)], ax_m (s32) ρ) := by
          intro e9
          subst w35
          replace h := ax_ct h
          refine ax_bk hK (ax_fc (ax_v_pu (ax_r_iconst (v := 0) d_Z_accepts_158 (by decide))) ax_fn) (y := (159, [(4, .inl (.int (v31)))], [.inl (.int ((0 : Int32))), .inl (.int (a1)), .inr (0, 38)], ax_m (s32) ρ)) rfl ⟨trivial, trivial⟩ ?_
          cases h
          exact ax_Lsub [0] rfl (KEw45 _ rfl)
        have KFw35 : w35 = false → ax_R G 5 0 0 (154, [(4, .inl (.int (v31)))], [.inl (.int (a1)), .inr (0, 38)], ax_m (s32) ρ) := by
          intro e9
          subst w35
          replace h := ax_cf h
          refine ax_bk hK (ax_fc (ax_v_pu (ax_r_iconst (v := 1) d_Z_accepts_154 (by decide))) (ax_fc (ax_v_go (tgt := 159) d_Z_accepts_155 (by decide)) ax_fn)) (y := (159, [(4, .inl (.int (v31)))], [.inl (.int ((1 : Int32))), .inl (.int (a1)), .inr (0, 38)], ax_m (s32) ρ)) rfl ⟨trivial, trivial, trivial⟩ ?_
          cases h
          exact ax_Lsub [0] rfl (KEw45 _ rfl)
        clear h
        have h := hw35
        refine ax_if_eq (tgt := 158) hK d_Z_accepts_147 (by decide) (fun c34 => ?_) (fun c34 => ?_)
        · replace h := ax_it c34 h
          cases h
          exact ax_Lsub [0] rfl (KTw35 rfl)
        · replace h := ax_if c34 h
          refine ax_bk hK (ax_fc (ax_v_ld (ax_r_iload_n (i := 3) d_Z_accepts_150 rfl)) ax_fn) (y := (151, [(4, .inl (.int (v31))), (0, .inr (0, 38)), (1, .inl (.int (a1))), (3, .inl (.int (v13)))], [.inl (.int (v13)), .inl (.int (a1)), .inr (0, 38)], ax_m (s32) ρ)) rfl ⟨trivial, trivial⟩ ?_
          refine ax_if_ne (tgt := 158) hK d_Z_accepts_151 (by decide) (fun c33 => ?_) (fun c33 => ?_)
          · replace h := ax_if c33 h
            cases h
            exact ax_Lsub [0] rfl (KTw35 rfl)
          · replace h := ax_it c33 h
            cases h
            exact ax_Lsub [0] rfl (KFw35 rfl)
      clear h
      have h := hw44
      obtain ⟨w30, hw30, h⟩ := ax_bd h
      have KTw30 : w30 = true → ax_R G 5 0 0 (91, [(0, .inr (0, 38)), (1, .inl (.int (a1))), (3, .inl (.int (v13)))], [], ax_m (s) ρ) := by
        intro e9
        subst w30
        replace h := ax_ct h
        refine ax_bk hK (ax_fc (ax_v_ld (ax_r_aload_n (i := 0) d_Z_accepts_91 rfl)) (ax_fc (ax_v_ld (ax_r_iload_n (i := 1) d_Z_accepts_92 rfl)) ax_fn)) (y := (93, [(0, .inr (0, 38)), (1, .inl (.int (a1))), (3, .inl (.int (v13)))], [.inl (.int (a1)), .inr (0, 38)], ax_m (s) ρ)) rfl ⟨trivial, trivial, trivial⟩ ?_
        obtain ⟨⟨r16, s17⟩, q18, h⟩ := ax_bd h
        dsimp only at h
        refine ax_bV (rest := []) hB (t_Z_acceptsHead h0 q18) cw_Z_227 im_Z_acceptsHead se_Z_acceptsHead d_Z_accepts_93 (h0 38 rfl) rfl rfl (by decide) (by decide) rfl rfl (Nat.le_of_ble_eq_true rfl) ?_
        change ax_R G 5 0 0 (96, [(0, .inr (0, 38)), (1, .inl (.int (a1))), (3, .inl (.int (v13)))], [.inl (.int (r16))], ax_m (s17) ρ)
        refine ax_bk hK (ax_fc (ax_v_go (tgt := 141) d_Z_accepts_96 (by decide)) ax_fn) (y := (141, [(0, .inr (0, 38)), (1, .inl (.int (a1))), (3, .inl (.int (v13)))], [.inl (.int (r16))], ax_m (s17) ρ)) rfl ⟨trivial, trivial⟩ ?_
        cases h
        exact ax_Lsub [0, 1, 2] rfl (KEw44 _ _ rfl)
      have KFw30 : w30 = false → ax_R G 5 0 0 (99, [(0, .inr (0, 38)), (1, .inl (.int (a1))), (2, .inl (.int (a2))), (3, .inl (.int (v13)))], [], ax_m (s) ρ) := by
        intro e9
        subst w30
        replace h := ax_cf h
        refine ax_bk hK (ax_fc (ax_v_ld (ax_r_aload_n (i := 0) d_Z_accepts_99 rfl)) (ax_fc (ax_w_gf (e := none) hal d_Z_accepts_100 fd_Z_168) (ax_fc (ax_v_pu (ax_r_bipush (v := 20) d_Z_accepts_103 (by decide))) ax_fn))) (y := (105, [(0, .inr (0, 38)), (1, .inl (.int (a1))), (2, .inl (.int (a2))), (3, .inl (.int (v13)))], [.inl (.int ((20 : Int32))), .inl (.int ((s.1 0 38 7)))], ax_m (s) ρ)) rfl ⟨trivial, (h0 38 rfl), trivial, trivial⟩ ?_
        refine ax_ic_ge (tgt := 117) hK d_Z_accepts_105 (by decide) (fun c29 => ?_) (fun c29 => ?_)
        · replace h := ax_it c29 h
          refine ax_bk hK (ax_fc (ax_v_ld (ax_r_aload_n (i := 0) d_Z_accepts_117 rfl)) (ax_fc (ax_w_gf (e := none) hal d_Z_accepts_118 fd_Z_168) (ax_fc (ax_v_pu (ax_r_bipush (v := 40) d_Z_accepts_121 (by decide))) ax_fn))) (y := (123, [(0, .inr (0, 38)), (1, .inl (.int (a1))), (2, .inl (.int (a2))), (3, .inl (.int (v13)))], [.inl (.int ((40 : Int32))), .inl (.int ((s.1 0 38 7)))], ax_m (s) ρ)) rfl ⟨trivial, (h0 38 rfl), trivial, trivial⟩ ?_
          refine ax_ic_ge (tgt := 135) hK d_Z_accepts_123 (by decide) (fun c25 => ?_) (fun c25 => ?_)
          · replace h := ax_it c25 h
            refine ax_bk hK (ax_fc (ax_v_ld (ax_r_aload_n (i := 0) d_Z_accepts_135 rfl)) (ax_fc (ax_v_ld (ax_r_iload_n (i := 1) d_Z_accepts_136 rfl)) (ax_fc (ax_v_ld (ax_r_iload_n (i := 2) d_Z_accepts_137 rfl)) ax_fn))) (y := (138, [(0, .inr (0, 38)), (1, .inl (.int (a1))), (2, .inl (.int (a2))), (3, .inl (.int (v13)))], [.inl (.int (a2)), .inl (.int (a1)), .inr (0, 38)], ax_m (s) ρ)) rfl ⟨trivial, trivial, trivial, trivial⟩ ?_
            obtain ⟨⟨r19, s20⟩, q21, h⟩ := ax_bd h
            dsimp only at h
            refine ax_bV (rest := []) hB (t_Z_acceptsStep h0 q21) cw_Z_236 im_Z_acceptsStep se_Z_acceptsStep d_Z_accepts_138 (h0 38 rfl) rfl rfl (by decide) (by decide) rfl rfl (Nat.le_of_ble_eq_true rfl) ?_
            change ax_R G 5 0 0 (141, [(0, .inr (0, 38)), (1, .inl (.int (a1))), (2, .inl (.int (a2))), (3, .inl (.int (v13)))], [.inl (.int (r19))], ax_m (s20) ρ)
            cases h
            exact ax_Lsub [0, 1, 3] rfl (KEw44 _ _ rfl)
          · replace h := ax_if c25 h
            refine ax_bk hK (ax_fc (ax_v_ld (ax_r_aload_n (i := 0) d_Z_accepts_126 rfl)) (ax_fc (ax_v_ld (ax_r_iload_n (i := 1) d_Z_accepts_127 rfl)) (ax_fc (ax_v_ld (ax_r_iload_n (i := 2) d_Z_accepts_128 rfl)) ax_fn))) (y := (129, [(0, .inr (0, 38)), (1, .inl (.int (a1))), (2, .inl (.int (a2))), (3, .inl (.int (v13)))], [.inl (.int (a2)), .inl (.int (a1)), .inr (0, 38)], ax_m (s) ρ)) rfl ⟨trivial, trivial, trivial, trivial⟩ ?_
            obtain ⟨⟨r22, s23⟩, q24, h⟩ := ax_bd h
            dsimp only at h
            refine ax_bV (rest := []) hB (t_Z_acceptsExpression h0 q24) cw_Z_233 im_Z_acceptsExpression se_Z_acceptsExpression d_Z_accepts_129 (h0 38 rfl) rfl rfl (by decide) (by decide) rfl rfl (Nat.le_of_ble_eq_true rfl) ?_
            change ax_R G 5 0 0 (132, [(0, .inr (0, 38)), (1, .inl (.int (a1))), (2, .inl (.int (a2))), (3, .inl (.int (v13)))], [.inl (.int (r22))], ax_m (s23) ρ)
            refine ax_bk hK (ax_fc (ax_v_go (tgt := 141) d_Z_accepts_132 (by decide)) ax_fn) (y := (141, [(0, .inr (0, 38)), (1, .inl (.int (a1))), (2, .inl (.int (a2))), (3, .inl (.int (v13)))], [.inl (.int (r22))], ax_m (s23) ρ)) rfl ⟨trivial, trivial⟩ ?_
            cases h
            exact ax_Lsub [0, 1, 3] rfl (KEw44 _ _ rfl)
        · replace h := ax_if c29 h
          refine ax_bk hK (ax_fc (ax_v_ld (ax_r_aload_n (i := 0) d_Z_accepts_108 rfl)) (ax_fc (ax_v_ld (ax_r_iload_n (i := 1) d_Z_accepts_109 rfl)) (ax_fc (ax_v_ld (ax_r_iload_n (i := 2) d_Z_accepts_110 rfl)) ax_fn))) (y := (111, [(0, .inr (0, 38)), (1, .inl (.int (a1))), (2, .inl (.int (a2))), (3, .inl (.int (v13)))], [.inl (.int (a2)), .inl (.int (a1)), .inr (0, 38)], ax_m (s) ρ)) rfl ⟨trivial, trivial, trivial, trivial⟩ ?_
          obtain ⟨⟨r26, s27⟩, q28, h⟩ := ax_bd h
          dsimp only at h
          refine ax_bV (rest := []) hB (t_Z_acceptsThing h0 q28) cw_Z_230 im_Z_acceptsThing se_Z_acceptsThing d_Z_accepts_111 (h0 38 rfl) rfl rfl (by decide) (by decide) rfl rfl (Nat.le_of_ble_eq_true rfl) ?_
          change ax_R G 5 0 0 (114, [(0, .inr (0, 38)), (1, .inl (.int (a1))), (2, .inl (.int (a2))), (3, .inl (.int (v13)))], [.inl (.int (r26))], ax_m (s27) ρ)
          refine ax_bk hK (ax_fc (ax_v_go (tgt := 141) d_Z_accepts_114 (by decide)) ax_fn) (y := (141, [(0, .inr (0, 38)), (1, .inl (.int (a1))), (2, .inl (.int (a2))), (3, .inl (.int (v13)))], [.inl (.int (r26))], ax_m (s27) ρ)) rfl ⟨trivial, trivial⟩ ?_
          cases h
          exact ax_Lsub [0, 1, 3] rfl (KEw44 _ _ rfl)
      clear h
      have h := hw30
      refine ax_ic_lt (tgt := 91) hK d_Z_accepts_79 (by decide) (fun c15 => ?_) (fun c15 => ?_)
      · replace h := ax_it c15 h
        cases h
        exact ax_Lsub [1, 2, 0] rfl (KTw30 rfl)
      · replace h := ax_if c15 h
        refine ax_bk hK (ax_fc (ax_v_ld (ax_r_aload_n (i := 0) d_Z_accepts_82 rfl)) (ax_fc (ax_w_gf (e := none) hal d_Z_accepts_83 fd_Z_168) (ax_fc (ax_v_pu (ax_r_bipush (v := 49) d_Z_accepts_86 (by decide))) ax_fn))) (y := (88, [(3, .inl (.int (v13))), (0, .inr (0, 38)), (1, .inl (.int (a1))), (2, .inl (.int (a2)))], [.inl (.int ((49 : Int32))), .inl (.int ((s.1 0 38 7)))], ax_m (s) ρ)) rfl ⟨trivial, (h0 38 rfl), trivial, trivial⟩ ?_
        refine ax_ic_le (tgt := 99) hK d_Z_accepts_88 (by decide) (fun c14 => ?_) (fun c14 => ?_)
        · replace h := ax_it c14 h
          cases h
          exact ax_Lsub [1, 2, 3, 0] rfl (KFw30 rfl)
        · replace h := ax_if c14 h
          cases h
          exact ax_Lsub [1, 2, 0] rfl (KTw30 rfl)
    clear h
    have h := hw43
    obtain ⟨w12, hw12, h⟩ := ax_bd h
    have KTw12 : w12 = true → ax_R G 5 0 0 (49, [(0, .inr (0, 38)), (1, .inl (.int (a1))), (2, .inl (.int (a2)))], [], ax_m (s) ρ) := by
      intro e9
      subst w12
      replace h := ax_ct h
      refine ax_bk hK (ax_fc (ax_v_ld (ax_r_aload_n (i := 0) d_Z_accepts_49 rfl)) (ax_fc (ax_w_gf (e := none) hal d_Z_accepts_50 fd_Z_168) (ax_fc (ax_v_pu (ax_r_bipush (v := 6) d_Z_accepts_53 (by decide))) ax_fn))) (y := (55, [(0, .inr (0, 38)), (1, .inl (.int (a1))), (2, .inl (.int (a2)))], [.inl (.int ((6 : Int32))), .inl (.int ((s.1 0 38 7)))], ax_m (s) ρ)) rfl ⟨trivial, (h0 38 rfl), trivial, trivial⟩ ?_
      obtain ⟨w11, hw11, h⟩ := ax_bd h
      have KTw11 : w11 = true → ax_R G 5 0 0 (67, [(0, .inr (0, 38)), (1, .inl (.int (a1))), (2, .inl (.int (a2)))], [], ax_m (s) ρ) := by
        intro e9
        subst w11
        replace h := ax_ct h
        refine ax_bk hK (ax_fc (ax_v_pu (ax_r_iconst (v := 1) d_Z_accepts_67 (by decide))) (ax_fc (ax_v_go (tgt := 72) d_Z_accepts_68 (by decide)) ax_fn)) (y := (72, [(0, .inr (0, 38)), (1, .inl (.int (a1))), (2, .inl (.int (a2)))], [.inl (.int ((1 : Int32)))], ax_m (s) ρ)) rfl ⟨trivial, trivial, trivial⟩ ?_
        cases h
        exact ax_Lsub [0, 1, 2] rfl (KEw43 _ rfl)
      have KFw11 : w11 = false → ax_R G 5 0 0 (71, [(0, .inr (0, 38)), (1, .inl (.int (a1))), (2, .inl (.int (a2)))], [], ax_m (s) ρ) := by
        intro e9
        subst w11
        replace h := ax_cf h
        refine ax_bk hK (ax_fc (ax_v_pu (ax_r_iconst (v := 0) d_Z_accepts_71 (by decide))) ax_fn) (y := (72, [(0, .inr (0, 38)), (1, .inl (.int (a1))), (2, .inl (.int (a2)))], [.inl (.int ((0 : Int32)))], ax_m (s) ρ)) rfl ⟨trivial, trivial⟩ ?_
        cases h
        exact ax_Lsub [0, 1, 2] rfl (KEw43 _ rfl)
      clear h
      have h := hw11
      refine ax_ic_eq (tgt := 67) hK d_Z_accepts_55 (by decide) (fun c10 => ?_) (fun c10 => ?_)
      · replace h := ax_it c10 h
        cases h
        exact ax_Lsub [0, 1, 2] rfl (KTw11 rfl)
      · replace h := ax_if c10 h
        refine ax_bk hK (ax_fc (ax_v_ld (ax_r_aload_n (i := 0) d_Z_accepts_58 rfl)) (ax_fc (ax_w_gf (e := none) hal d_Z_accepts_59 fd_Z_168) (ax_fc (ax_v_pu (ax_r_bipush (v := 8) d_Z_accepts_62 (by decide))) ax_fn))) (y := (64, [(0, .inr (0, 38)), (1, .inl (.int (a1))), (2, .inl (.int (a2)))], [.inl (.int ((8 : Int32))), .inl (.int ((s.1 0 38 7)))], ax_m (s) ρ)) rfl ⟨trivial, (h0 38 rfl), trivial, trivial⟩ ?_
        refine ax_ic_ne (tgt := 71) hK d_Z_accepts_64 (by decide) (fun c9 => ?_) (fun c9 => ?_)
        · replace h := ax_if c9 h
          cases h
          exact ax_Lsub [0, 1, 2] rfl (KFw11 rfl)
        · replace h := ax_it c9 h
          cases h
          exact ax_Lsub [0, 1, 2] rfl (KTw11 rfl)
    have KFw12 : w12 = false → ax_R G 5 0 0 (67, [(0, .inr (0, 38)), (1, .inl (.int (a1))), (2, .inl (.int (a2)))], [], ax_m (s) ρ) := by
      intro e9
      subst w12
      replace h := ax_cf h
      refine ax_bk hK (ax_fc (ax_v_pu (ax_r_iconst (v := 1) d_Z_accepts_67 (by decide))) (ax_fc (ax_v_go (tgt := 72) d_Z_accepts_68 (by decide)) ax_fn)) (y := (72, [(0, .inr (0, 38)), (1, .inl (.int (a1))), (2, .inl (.int (a2)))], [.inl (.int ((1 : Int32)))], ax_m (s) ρ)) rfl ⟨trivial, trivial, trivial⟩ ?_
      cases h
      exact ax_Lsub [0, 1, 2] rfl (KEw43 _ rfl)
    clear h
    have h := hw12
    refine ax_ic_ne (tgt := 49) hK d_Z_accepts_40 (by decide) (fun c8 => ?_) (fun c8 => ?_)
    · replace h := ax_if c8 h
      cases h
      exact ax_Lsub [0, 1, 2] rfl (KTw12 rfl)
    · replace h := ax_it c8 h
      refine ax_bk hK (ax_fc (ax_v_ld (ax_r_iload_n (i := 1) d_Z_accepts_43 rfl)) (ax_fc (ax_v_pu (ax_r_bipush (v := 42) d_Z_accepts_44 (by decide))) ax_fn)) (y := (46, [(0, .inr (0, 38)), (1, .inl (.int (a1))), (2, .inl (.int (a2)))], [.inl (.int ((42 : Int32))), .inl (.int (a1))], ax_m (s) ρ)) rfl ⟨trivial, trivial, trivial⟩ ?_
      refine ax_ic_eq (tgt := 67) hK d_Z_accepts_46 (by decide) (fun c7 => ?_) (fun c7 => ?_)
      · replace h := ax_it c7 h
        cases h
        exact ax_Lsub [0, 1, 2] rfl (KFw12 rfl)
      · replace h := ax_if c7 h
        cases h
        exact ax_Lsub [0, 1, 2] rfl (KTw12 rfl)
  have KFw42 : w42 = false → ax_R G 5 0 0 (14, [(0, .inr (0, 38)), (1, .inl (.int (a1))), (2, .inl (.int (a2)))], [], ax_m (s) ρ) := by
    intro e9
    subst w42
    replace h := ax_cf h
    refine ax_bk hK (ax_fc (ax_v_ld (ax_r_aload_n (i := 0) d_Z_accepts_14 rfl)) (ax_fc (ax_v_pu (ax_r_iconst (v := 1) d_Z_accepts_15 (by decide))) (ax_fc (ax_w_pf (tc := 0) hal d_Z_accepts_16 fp_Z_171 rfl) ax_fn))) (y := (19, [(0, .inr (0, 38)), (1, .inl (.int (a1))), (2, .inl (.int (a2)))], [], ax_m (ax_wI s 0 38 8 (1 : Int32)) ρ)) rfl ⟨trivial, trivial, (h0 38 rfl), trivial⟩ ?_
    refine ax_lt (Q := fun ςς => ax_R G 5 0 0 (19, [(0, .inr (0, 38)), (1, .inl (.int (a1))), (2, .inl (.int (a2)))], [], ax_m (ςς) ρ)) h (fun s39 h => ?_)
    refine ax_bk hK (ax_fc (ax_v_ld (ax_r_aload_n (i := 0) d_Z_accepts_19 rfl)) (ax_fc (ax_v_ld (ax_r_iload_n (i := 1) d_Z_accepts_20 rfl)) (ax_fc (ax_v_pu (ax_r_bipush (v := 48) d_Z_accepts_21 (by decide))) (ax_fc (ax_v_pu (ax_r_isub d_Z_accepts_23)) (ax_fc (ax_v_pu (ax_r_i2l d_Z_accepts_24)) (ax_fc (ax_w_pf (tc := 2) hal d_Z_accepts_25 fp_Z_207 rfl) ax_fn)))))) (y := (28, [(0, .inr (0, 38)), (1, .inl (.int (a1))), (2, .inl (.int (a2)))], [], ax_m (ax_wL s39 0 38 9 (((a1 - (48 : Int32))).toInt64)) ρ)) rfl ⟨trivial, trivial, trivial, trivial, trivial, (h0 38 rfl), trivial⟩ ?_
    refine ax_lt (Q := fun ςς => ax_R G 5 0 0 (28, [(0, .inr (0, 38)), (1, .inl (.int (a1))), (2, .inl (.int (a2)))], [], ax_m (ςς) ρ)) h (fun s40 h => ?_)
    refine ax_bk hK (ax_fc (ax_v_ld (ax_r_aload_n (i := 0) d_Z_accepts_28 rfl)) (ax_fc (ax_v_ld (ax_r_iload_n (i := 2) d_Z_accepts_29 rfl)) (ax_fc (ax_w_pf (tc := 0) hal d_Z_accepts_30 fp_Z_224 rfl) ax_fn))) (y := (33, [(0, .inr (0, 38)), (1, .inl (.int (a1))), (2, .inl (.int (a2)))], [], ax_m (ax_wI s40 0 38 10 a2) ρ)) rfl ⟨trivial, trivial, (h0 38 rfl), trivial⟩ ?_
    refine ax_lt (Q := fun ςς => ax_R G 5 0 0 (33, [(0, .inr (0, 38)), (1, .inl (.int (a1))), (2, .inl (.int (a2)))], [], ax_m (ςς) ρ)) h (fun s41 h => ?_)
    refine ax_bk hK (ax_fc (ax_v_pu (ax_r_iconst (v := 1) d_Z_accepts_33 (by decide))) ax_fn) (y := (34, [(0, .inr (0, 38)), (1, .inl (.int (a1))), (2, .inl (.int (a2)))], [.inl (.int ((1 : Int32)))], ax_m (s41) ρ)) rfl ⟨trivial, trivial⟩ ?_
    cases h
    exact ax_zret hA (by decide) d_Z_accepts_34
  clear h
  have h := hw42
  refine ax_if_eq (tgt := 35) hK d_Z_accepts_4 (by decide) (fun c6 => ?_) (fun c6 => ?_)
  · replace h := ax_it c6 h
    cases h
    exact ax_Lsub [0, 1, 2] rfl (KTw42 rfl)
  · replace h := ax_if c6 h
    refine ax_bk hK (ax_fc (ax_v_ld (ax_r_iload_n (i := 1) d_Z_accepts_7 rfl)) ax_fn) (y := (8, [(0, .inr (0, 38)), (1, .inl (.int (a1))), (2, .inl (.int (a2)))], [.inl (.int (a1))], ax_m (s) ρ)) rfl ⟨trivial, trivial⟩ ?_
    obtain ⟨r3, q4, h⟩ := ax_bd h
    refine ax_bS (rest := []) hB (t_Z_isDigit q4) cw_Z_153 sm_Z_isDigit d_Z_accepts_8 (by decide) (by decide) rfl rfl (Nat.le_of_ble_eq_true rfl) ?_
    change ax_R G 5 0 0 (11, [(0, .inr (0, 38)), (1, .inl (.int (a1))), (2, .inl (.int (a2)))], [.inl (.int (r3))], ax_m (s) ρ)
    refine ax_if_eq (tgt := 35) hK d_Z_accepts_11 (by decide) (fun c5 => ?_) (fun c5 => ?_)
    · replace h := ax_it c5 h
      cases h
      exact ax_Lsub [0, 1, 2] rfl (KTw42 rfl)
    · replace h := ax_if c5 h
      cases h
      exact ax_Lsub [0, 1, 2] rfl (KFw42 rfl)
def y_Z_read : MethodName := ⟨"CipherNotationModel", "read", "([II)I"⟩
theorem d_Z_read_0 : decode prog_8_method_12_code 0 = .ok (.aload_n 0, 1) := by decide +kernel
theorem d_Z_read_1 : decode prog_8_method_12_code 1 = .ok (.invokevirtual (204), 3) := by decide +kernel
theorem d_Z_read_4 : decode prog_8_method_12_code 4 = .ok (.iconst 0, 1) := by decide +kernel
theorem d_Z_read_5 : decode prog_8_method_12_code 5 = .ok (.istore_n 3, 1) := by decide +kernel
theorem d_Z_read_6 : decode prog_8_method_12_code 6 = .ok (.iload_n 3, 1) := by decide +kernel
theorem d_Z_read_7 : decode prog_8_method_12_code 7 = .ok (.iload_n 2, 1) := by decide +kernel
theorem d_Z_read_8 : decode prog_8_method_12_code 8 = .ok (.if_icmp .ge (103), 3) := by decide +kernel
theorem d_Z_read_11 : decode prog_8_method_12_code 11 = .ok (.aload_n 1, 1) := by decide +kernel
theorem d_Z_read_12 : decode prog_8_method_12_code 12 = .ok (.iload_n 3, 1) := by decide +kernel
theorem d_Z_read_13 : decode prog_8_method_12_code 13 = .ok (.iaload, 1) := by decide +kernel
theorem d_Z_read_14 : decode prog_8_method_12_code 14 = .ok (.istore (4), 2) := by decide +kernel
theorem d_Z_read_16 : decode prog_8_method_12_code 16 = .ok (.aload_n 0, 1) := by decide +kernel
theorem d_Z_read_17 : decode prog_8_method_12_code 17 = .ok (.getfield (171), 3) := by decide +kernel
theorem d_Z_read_20 : decode prog_8_method_12_code 20 = .ok (.ifCond .le (55), 3) := by decide +kernel
theorem d_Z_read_23 : decode prog_8_method_12_code 23 = .ok (.iload (4), 2) := by decide +kernel
theorem d_Z_read_25 : decode prog_8_method_12_code 25 = .ok (.invokestatic (153), 3) := by decide +kernel
theorem d_Z_read_28 : decode prog_8_method_12_code 28 = .ok (.ifCond .eq (47), 3) := by decide +kernel
theorem d_Z_read_31 : decode prog_8_method_12_code 31 = .ok (.aload_n 0, 1) := by decide +kernel
theorem d_Z_read_32 : decode prog_8_method_12_code 32 = .ok (.getfield (171), 3) := by decide +kernel
theorem d_Z_read_35 : decode prog_8_method_12_code 35 = .ok (.bipush (9), 2) := by decide +kernel
theorem d_Z_read_37 : decode prog_8_method_12_code 37 = .ok (.if_icmp .ne (5), 3) := by decide +kernel
theorem d_Z_read_40 : decode prog_8_method_12_code 40 = .ok (.iload_n 3, 1) := by decide +kernel
theorem d_Z_read_41 : decode prog_8_method_12_code 41 = .ok (.ireturn, 1) := by decide +kernel
theorem d_Z_read_42 : decode prog_8_method_12_code 42 = .ok (.aload_n 0, 1) := by decide +kernel
theorem d_Z_read_43 : decode prog_8_method_12_code 43 = .ok (.ldc2_w (162), 3) := by decide +kernel
theorem d_Z_read_46 : decode prog_8_method_12_code 46 = .ok (.aload_n 0, 1) := by decide +kernel
theorem d_Z_read_47 : decode prog_8_method_12_code 47 = .ok (.getfield (207), 3) := by decide +kernel
theorem d_Z_read_50 : decode prog_8_method_12_code 50 = .ok (.lmul, 1) := by decide +kernel
theorem d_Z_read_51 : decode prog_8_method_12_code 51 = .ok (.iload (4), 2) := by decide +kernel
theorem d_Z_read_53 : decode prog_8_method_12_code 53 = .ok (.i2l, 1) := by decide +kernel
theorem d_Z_read_54 : decode prog_8_method_12_code 54 = .ok (.ladd, 1) := by decide +kernel
theorem d_Z_read_55 : decode prog_8_method_12_code 55 = .ok (.ldc2_w (211), 3) := by decide +kernel
theorem d_Z_read_58 : decode prog_8_method_12_code 58 = .ok (.lsub, 1) := by decide +kernel
theorem d_Z_read_59 : decode prog_8_method_12_code 59 = .ok (.putfield (207), 3) := by decide +kernel
theorem d_Z_read_62 : decode prog_8_method_12_code 62 = .ok (.aload_n 0, 1) := by decide +kernel
theorem d_Z_read_63 : decode prog_8_method_12_code 63 = .ok (.dup, 1) := by decide +kernel
theorem d_Z_read_64 : decode prog_8_method_12_code 64 = .ok (.getfield (171), 3) := by decide +kernel
theorem d_Z_read_67 : decode prog_8_method_12_code 67 = .ok (.iconst 1, 1) := by decide +kernel
theorem d_Z_read_68 : decode prog_8_method_12_code 68 = .ok (.iadd, 1) := by decide +kernel
theorem d_Z_read_69 : decode prog_8_method_12_code 69 = .ok (.putfield (171), 3) := by decide +kernel
theorem d_Z_read_72 : decode prog_8_method_12_code 72 = .ok (.goto (33), 3) := by decide +kernel
theorem d_Z_read_75 : decode prog_8_method_12_code 75 = .ok (.aload_n 0, 1) := by decide +kernel
theorem d_Z_read_76 : decode prog_8_method_12_code 76 = .ok (.getfield (171), 3) := by decide +kernel
theorem d_Z_read_79 : decode prog_8_method_12_code 79 = .ok (.ifCond .le (7), 3) := by decide +kernel
theorem d_Z_read_82 : decode prog_8_method_12_code 82 = .ok (.aload_n 0, 1) := by decide +kernel
theorem d_Z_read_83 : decode prog_8_method_12_code 83 = .ok (.invokevirtual (213), 3) := by decide +kernel
theorem d_Z_read_86 : decode prog_8_method_12_code 86 = .ok (.iload (4), 2) := by decide +kernel
theorem d_Z_read_88 : decode prog_8_method_12_code 88 = .ok (.bipush (32), 2) := by decide +kernel
theorem d_Z_read_90 : decode prog_8_method_12_code 90 = .ok (.if_icmp .eq (15), 3) := by decide +kernel
theorem d_Z_read_93 : decode prog_8_method_12_code 93 = .ok (.aload_n 0, 1) := by decide +kernel
theorem d_Z_read_94 : decode prog_8_method_12_code 94 = .ok (.iload (4), 2) := by decide +kernel
theorem d_Z_read_96 : decode prog_8_method_12_code 96 = .ok (.iload_n 3, 1) := by decide +kernel
theorem d_Z_read_97 : decode prog_8_method_12_code 97 = .ok (.invokevirtual (216), 3) := by decide +kernel
theorem d_Z_read_100 : decode prog_8_method_12_code 100 = .ok (.ifCond .ne (5), 3) := by decide +kernel
theorem d_Z_read_103 : decode prog_8_method_12_code 103 = .ok (.iload_n 3, 1) := by decide +kernel
theorem d_Z_read_104 : decode prog_8_method_12_code 104 = .ok (.ireturn, 1) := by decide +kernel
theorem d_Z_read_105 : decode prog_8_method_12_code 105 = .ok (.iinc 3 (1), 3) := by decide +kernel
theorem d_Z_read_108 : decode prog_8_method_12_code 108 = .ok (.goto (-102), 3) := by decide +kernel
theorem d_Z_read_111 : decode prog_8_method_12_code 111 = .ok (.aload_n 0, 1) := by decide +kernel
theorem d_Z_read_112 : decode prog_8_method_12_code 112 = .ok (.getfield (171), 3) := by decide +kernel
theorem d_Z_read_115 : decode prog_8_method_12_code 115 = .ok (.ifCond .le (7), 3) := by decide +kernel
theorem d_Z_read_118 : decode prog_8_method_12_code 118 = .ok (.aload_n 0, 1) := by decide +kernel
theorem d_Z_read_119 : decode prog_8_method_12_code 119 = .ok (.invokevirtual (213), 3) := by decide +kernel
theorem d_Z_read_122 : decode prog_8_method_12_code 122 = .ok (.aload_n 0, 1) := by decide +kernel
theorem d_Z_read_123 : decode prog_8_method_12_code 123 = .ok (.getfield (168), 3) := by decide +kernel
theorem d_Z_read_126 : decode prog_8_method_12_code 126 = .ok (.bipush (60), 2) := by decide +kernel
theorem d_Z_read_128 : decode prog_8_method_12_code 128 = .ok (.if_icmp .ne (7), 3) := by decide +kernel
theorem d_Z_read_131 : decode prog_8_method_12_code 131 = .ok (.iconst (-1), 1) := by decide +kernel
theorem d_Z_read_132 : decode prog_8_method_12_code 132 = .ok (.goto (4), 3) := by decide +kernel
theorem d_Z_read_135 : decode prog_8_method_12_code 135 = .ok (.iload_n 2, 1) := by decide +kernel
theorem d_Z_read_136 : decode prog_8_method_12_code 136 = .ok (.ireturn, 1) := by decide +kernel
theorem fd_Z_171 : ax_fd "CipherNotationModel" 171 6 8 := ⟨nC6, nT6, 73, nY6, rfl, nW6, by decide, nw_4 145 (by decide +kernel) rfl, nO6, nA6⟩
set_option maxRecDepth 100000 in
theorem cw_Z_216 : ax_cw "CipherNotationModel" 216 y_Z_accepts (.code y_Z_accepts prog_8_method_14_code 5 (some .boolean)) 2 := ⟨nw_5 173 (by decide +kernel) rfl, nw_1 7 (by decide +kernel) rfl, nw_5 176 rfl rfl, by decide +kernel, by decide +kernel⟩
theorem im_Z_accepts : Cond.instanceMethod y_Z_accepts ∈ ax_tbl := nw_5 175 (by decide +kernel) rfl
theorem se_Z_accepts : Cond.selects y_Z_accepts.cls y_Z_accepts y_Z_accepts ∈ ax_tbl := nw_sel 52 (by decide +kernel) (by decide +kernel)
set_option maxRecDepth 100000 in
theorem cw_Z_213 : ax_cw "CipherNotationModel" 213 y_Z_endNumber (.code y_Z_endNumber prog_8_method_15_code 2 none) 0 := ⟨nw_5 148 (by decide +kernel) rfl, nw_1 7 (by decide +kernel) rfl, nw_5 151 rfl rfl, by decide +kernel, by decide +kernel⟩
theorem im_Z_endNumber : Cond.instanceMethod y_Z_endNumber ∈ ax_tbl := nw_5 150 (by decide +kernel) rfl
theorem se_Z_endNumber : Cond.selects y_Z_endNumber.cls y_Z_endNumber y_Z_endNumber ∈ ax_tbl := nw_sel 46 (by decide +kernel) (by decide +kernel)
def lp_Z_read_t_6 (F : Nat) (x2 : Int32) : Nat → Int32 → ax_σ → Option ((Int32 × ax_σ) ⊕ (ax_σ))
  | 0, _, _ => none
  | n + 1, x3, s =>
    if x2 ≤ x3 then
      some (.inr s)
    else
      bif ax_in x3 240 then
      Option.bind (
        if (s.1 0 38 8) ≤ (0 : Int32) then
          some true
        else
          Option.bind (f_Z_isDigit (s.1 0 39 (x3).toNatClampNeg)) (fun r4 =>
            if r4 = (0 : Int32) then
              some true
            else
              some false)) (fun w20 => bif w20 then
        Option.bind (
          if (s.1 0 38 8) ≤ (0 : Int32) then
            some s
          else
            Option.bind (f_Z_endNumber F s) (fun s8 =>
              some s8)) (fun s11 =>
          if (s.1 0 39 (x3).toNatClampNeg) = (32 : Int32) then
            lp_Z_read_t_6 F x2 n (x3 + (1 : Int32)) s11
          else
            Option.bind (f_Z_accepts F (s.1 0 39 (x3).toNatClampNeg) x3 s11) (fun (r12, s13) =>
              if r12 = (0 : Int32) then
                some (.inl (x3, s13))
              else
                lp_Z_read_t_6 F x2 n (x3 + (1 : Int32)) s13))
      else
        if (s.1 0 38 8) = (9 : Int32) then
          some (.inl (x3, s))
        else
          ax_let (ax_wL s 0 38 9 ((((10 : Int64) * (s.2 0 38 9)) + ((s.1 0 39 (x3).toNatClampNeg)).toInt64) - (48 : Int64))) (fun s17 =>
            ax_let (ax_wI s17 0 38 8 ((s17.1 0 38 8) + (1 : Int32))) (fun s18 =>
              lp_Z_read_t_6 F x2 n (x3 + (1 : Int32)) s18)))
      else none
set_option maxHeartbeats 4000000 in
set_option maxRecDepth 100000 in
theorem pl_Z_read_t_6 {D : va_G} {cA : Nat → ClassId} {ad : Nat → Nat → Nat} {al : List (Nat × Nat)} {θ : ax_Θ} {l : Launch} {ρ : ax_ρ} {G : ax_G} {F : Nat} {x2 : Int32} (h0 : ax_M0 al) (hB : ax_B D cA ad al θ l "CipherNotationModel" prog_8_method_12_code 5 5 G) : ∀ (n : Nat) {x3 : Int32} {s : ax_σ} (out : (Int32 × ax_σ) ⊕ (ax_σ)), lp_Z_read_t_6 F x2 n x3 s = some out → (∀ (r0 : Int32) (s0 : ax_σ), out = .inl (r0, s0) → ax_At D cA ad al θ l "CipherNotationModel" prog_8_method_12_code 5 5 (some .int) (some (.inl (.int r0))) (ax_m s0 ρ) G) → (∀ (es : ax_σ), out = .inr es → ax_R G 5 0 0 (111, [(0, .inr (0, 38)), (2, .inl (.int (x2)))], [], ax_m (es) ρ)) → ax_R G 5 0 0 (6, [(0, .inr (0, 38)), (1, .inr (0, 39)), (2, .inl (.int (x2))), (3, .inl (.int (x3)))], [], ax_m (s) ρ) := by
  have hK := hB.K
  have hal := hB.la
  intro n
  induction n with
  | zero =>
    intro x3 s out h
    cases h
  | succ n ih =>
    intro x3 s out h RT KE
    rw [lp_Z_read_t_6] at h
    refine ax_bk hK (ax_fc (ax_v_ld (ax_r_iload_n (i := 3) d_Z_read_6 rfl)) (ax_fc (ax_v_ld (ax_r_iload_n (i := 2) d_Z_read_7 rfl)) ax_fn)) (y := (8, [(0, .inr (0, 38)), (1, .inr (0, 39)), (2, .inl (.int (x2))), (3, .inl (.int (x3)))], [.inl (.int (x2)), .inl (.int (x3))], ax_m (s) ρ)) rfl ⟨trivial, trivial, trivial⟩ ?_
    refine ax_ic_ge (tgt := 111) hK d_Z_read_8 (by decide) (fun c21 => ?_) (fun c21 => ?_)
    · replace h := ax_it c21 h
      cases h
      exact ax_Lsub [0, 2] rfl (KE _ rfl)
    · replace h := ax_if c21 h
      obtain ⟨b3, h⟩ := ax_gd h
      refine ax_bk hK (ax_fc (ax_v_ld (ax_r_aload_n (i := 1) d_Z_read_11 rfl)) (ax_fc (ax_v_ld (ax_r_iload_n (i := 3) d_Z_read_12 rfl)) (ax_fc (ax_w_iald hal d_Z_read_13) (ax_fc (ax_v_so (ax_r_istore d_Z_read_14)) (ax_fc (ax_v_ld (ax_r_aload_n (i := 0) d_Z_read_16 rfl)) (ax_fc (ax_w_gf (e := none) hal d_Z_read_17 fd_Z_171) ax_fn)))))) (y := (20, [(4, .inl (.int ((s.1 0 39 (x3).toNatClampNeg)))), (0, .inr (0, 38)), (1, .inr (0, 39)), (2, .inl (.int (x2))), (3, .inl (.int (x3)))], [.inl (.int ((s.1 0 38 8)))], ax_m (s) ρ)) rfl ⟨trivial, trivial, ⟨(h0 39 rfl), ax_inp b3⟩, trivial, trivial, (h0 38 rfl), trivial⟩ ?_
      obtain ⟨w20, hw20, h⟩ := ax_bd h
      have KTw20 : w20 = true → ax_R G 5 0 0 (75, [(0, .inr (0, 38)), (1, .inr (0, 39)), (2, .inl (.int (x2))), (3, .inl (.int (x3))), (4, .inl (.int ((s.1 0 39 (x3).toNatClampNeg))))], [], ax_m (s) ρ) := by
        intro e9
        subst w20
        replace h := ax_ct h
        refine ax_bk hK (ax_fc (ax_v_ld (ax_r_aload_n (i := 0) d_Z_read_75 rfl)) (ax_fc (ax_w_gf (e := none) hal d_Z_read_76 fd_Z_171) ax_fn)) (y := (79, [(0, .inr (0, 38)), (1, .inr (0, 39)), (2, .inl (.int (x2))), (3, .inl (.int (x3))), (4, .inl (.int ((s.1 0 39 (x3).toNatClampNeg))))], [.inl (.int ((s.1 0 38 8)))], ax_m (s) ρ)) rfl ⟨trivial, (h0 38 rfl), trivial⟩ ?_
        obtain ⟨w22, hw22, h⟩ := ax_bd h
        have KEw22 : ∀ (s11 : ax_σ), w22 = s11 → ax_R G 5 0 0 (86, [(0, .inr (0, 38)), (1, .inr (0, 39)), (2, .inl (.int (x2))), (3, .inl (.int (x3))), (4, .inl (.int ((s.1 0 39 (x3).toNatClampNeg))))], [], ax_m (s11) ρ) := by
          intro s11 e9
          subst w22
          try dsimp only at h
          refine ax_bk hK (ax_fc (ax_v_ld (ax_r_iload d_Z_read_86)) (ax_fc (ax_v_pu (ax_r_bipush (v := 32) d_Z_read_88 (by decide))) ax_fn)) (y := (90, [(0, .inr (0, 38)), (1, .inr (0, 39)), (2, .inl (.int (x2))), (3, .inl (.int (x3))), (4, .inl (.int ((s.1 0 39 (x3).toNatClampNeg))))], [.inl (.int ((32 : Int32))), .inl (.int ((s.1 0 39 (x3).toNatClampNeg)))], ax_m (s11) ρ)) rfl ⟨trivial, trivial, trivial⟩ ?_
          refine ax_ic_eq (tgt := 105) hK d_Z_read_90 (by decide) (fun c16 => ?_) (fun c16 => ?_)
          · replace h := ax_it c16 h
            refine ax_bk hK (ax_fc (ax_v_ii (d := 1) d_Z_read_105 (by decide)) (ax_fc (ax_v_go (tgt := 6) d_Z_read_108 (by decide)) ax_fn)) (y := (6, [(3, .inl (.int ((x3 + (1 : Int32))))), (0, .inr (0, 38)), (1, .inr (0, 39)), (2, .inl (.int (x2))), (4, .inl (.int ((s.1 0 39 (x3).toNatClampNeg))))], [], ax_m (s11) ρ)) rfl ⟨trivial, trivial, trivial⟩ ?_
            exact ax_Lsub [1, 2, 3, 0] rfl (ih _ h RT KE)
          · replace h := ax_if c16 h
            refine ax_bk hK (ax_fc (ax_v_ld (ax_r_aload_n (i := 0) d_Z_read_93 rfl)) (ax_fc (ax_v_ld (ax_r_iload d_Z_read_94)) (ax_fc (ax_v_ld (ax_r_iload_n (i := 3) d_Z_read_96 rfl)) ax_fn))) (y := (97, [(0, .inr (0, 38)), (1, .inr (0, 39)), (2, .inl (.int (x2))), (3, .inl (.int (x3))), (4, .inl (.int ((s.1 0 39 (x3).toNatClampNeg))))], [.inl (.int (x3)), .inl (.int ((s.1 0 39 (x3).toNatClampNeg))), .inr (0, 38)], ax_m (s11) ρ)) rfl ⟨trivial, trivial, trivial, trivial⟩ ?_
            obtain ⟨⟨r12, s13⟩, q14, h⟩ := ax_bd h
            dsimp only at h
            refine ax_bV (rest := []) hB (t_Z_accepts h0 q14) cw_Z_216 im_Z_accepts se_Z_accepts d_Z_read_97 (h0 38 rfl) rfl rfl (by decide) (by decide) rfl rfl (Nat.le_of_ble_eq_true rfl) ?_
            change ax_R G 5 0 0 (100, [(0, .inr (0, 38)), (1, .inr (0, 39)), (2, .inl (.int (x2))), (3, .inl (.int (x3))), (4, .inl (.int ((s.1 0 39 (x3).toNatClampNeg))))], [.inl (.int (r12))], ax_m (s13) ρ)
            refine ax_if_ne (tgt := 105) hK d_Z_read_100 (by decide) (fun c15 => ?_) (fun c15 => ?_)
            · replace h := ax_if c15 h
              refine ax_bk hK (ax_fc (ax_v_ii (d := 1) d_Z_read_105 (by decide)) (ax_fc (ax_v_go (tgt := 6) d_Z_read_108 (by decide)) ax_fn)) (y := (6, [(3, .inl (.int ((x3 + (1 : Int32))))), (0, .inr (0, 38)), (1, .inr (0, 39)), (2, .inl (.int (x2))), (4, .inl (.int ((s.1 0 39 (x3).toNatClampNeg))))], [], ax_m (s13) ρ)) rfl ⟨trivial, trivial, trivial⟩ ?_
              exact ax_Lsub [1, 2, 3, 0] rfl (ih _ h RT KE)
            · replace h := ax_it c15 h
              refine ax_bk hK (ax_fc (ax_v_ld (ax_r_iload_n (i := 3) d_Z_read_103 rfl)) ax_fn) (y := (104, [(0, .inr (0, 38)), (1, .inr (0, 39)), (2, .inl (.int (x2))), (3, .inl (.int (x3))), (4, .inl (.int ((s.1 0 39 (x3).toNatClampNeg))))], [.inl (.int (x3))], ax_m (s13) ρ)) rfl ⟨trivial, trivial⟩ ?_
              cases h
              exact ax_iret (RT _ _ rfl) d_Z_read_104
        clear h
        have h := hw22
        refine ax_if_le (tgt := 86) hK d_Z_read_79 (by decide) (fun c10 => ?_) (fun c10 => ?_)
        · replace h := ax_it c10 h
          cases h
          exact ax_Lsub [0, 1, 2, 3, 4] rfl (KEw22 _ rfl)
        · replace h := ax_if c10 h
          refine ax_bk hK (ax_fc (ax_v_ld (ax_r_aload_n (i := 0) d_Z_read_82 rfl)) ax_fn) (y := (83, [(0, .inr (0, 38)), (1, .inr (0, 39)), (2, .inl (.int (x2))), (3, .inl (.int (x3))), (4, .inl (.int ((s.1 0 39 (x3).toNatClampNeg))))], [.inr (0, 38)], ax_m (s) ρ)) rfl ⟨trivial, trivial⟩ ?_
          obtain ⟨s8, q9, h⟩ := ax_bd h
          refine ax_bV (rest := []) hB (t_Z_endNumber h0 q9) cw_Z_213 im_Z_endNumber se_Z_endNumber d_Z_read_83 (h0 38 rfl) rfl rfl (by decide) (by decide) rfl rfl (Nat.le_of_ble_eq_true rfl) ?_
          change ax_R G 5 0 0 (86, [(0, .inr (0, 38)), (1, .inr (0, 39)), (2, .inl (.int (x2))), (3, .inl (.int (x3))), (4, .inl (.int ((s.1 0 39 (x3).toNatClampNeg))))], [], ax_m (s8) ρ)
          cases h
          exact ax_Lsub [0, 1, 2, 3, 4] rfl (KEw22 _ rfl)
      have KFw20 : w20 = false → ax_R G 5 0 0 (31, [(0, .inr (0, 38)), (1, .inr (0, 39)), (2, .inl (.int (x2))), (3, .inl (.int (x3))), (4, .inl (.int ((s.1 0 39 (x3).toNatClampNeg))))], [], ax_m (s) ρ) := by
        intro e9
        subst w20
        replace h := ax_cf h
        refine ax_bk hK (ax_fc (ax_v_ld (ax_r_aload_n (i := 0) d_Z_read_31 rfl)) (ax_fc (ax_w_gf (e := none) hal d_Z_read_32 fd_Z_171) (ax_fc (ax_v_pu (ax_r_bipush (v := 9) d_Z_read_35 (by decide))) ax_fn))) (y := (37, [(0, .inr (0, 38)), (1, .inr (0, 39)), (2, .inl (.int (x2))), (3, .inl (.int (x3))), (4, .inl (.int ((s.1 0 39 (x3).toNatClampNeg))))], [.inl (.int ((9 : Int32))), .inl (.int ((s.1 0 38 8)))], ax_m (s) ρ)) rfl ⟨trivial, (h0 38 rfl), trivial, trivial⟩ ?_
        refine ax_ic_ne (tgt := 42) hK d_Z_read_37 (by decide) (fun c19 => ?_) (fun c19 => ?_)
        · replace h := ax_if c19 h
          refine ax_bk hK (ax_fc (ax_v_ld (ax_r_aload_n (i := 0) d_Z_read_42 rfl)) (ax_fc (ax_v_ldc2 (v := 10) d_Z_read_43 (nw_5 146 (by decide +kernel) rfl)) (ax_fc (ax_v_ld (ax_r_aload_n (i := 0) d_Z_read_46 rfl)) (ax_fc (ax_w_gf (e := none) hal d_Z_read_47 fd_Z_207) (ax_fc (ax_v_pu (ax_r_lmul d_Z_read_50)) (ax_fc (ax_v_ld (ax_r_iload d_Z_read_51)) (ax_fc (ax_v_pu (ax_r_i2l d_Z_read_53)) (ax_fc (ax_v_pu (ax_r_ladd d_Z_read_54)) (ax_fc (ax_v_ldc2 (v := 48) d_Z_read_55 (nw_5 147 (by decide +kernel) rfl)) (ax_fc (ax_v_pu (ax_r_lsub d_Z_read_58)) (ax_fc (ax_w_pf (tc := 2) hal d_Z_read_59 fp_Z_207 rfl) ax_fn))))))))))) (y := (62, [(0, .inr (0, 38)), (1, .inr (0, 39)), (2, .inl (.int (x2))), (3, .inl (.int (x3))), (4, .inl (.int ((s.1 0 39 (x3).toNatClampNeg))))], [], ax_m (ax_wL s 0 38 9 ((((10 : Int64) * (s.2 0 38 9)) + ((s.1 0 39 (x3).toNatClampNeg)).toInt64) - (48 : Int64))) ρ)) rfl ⟨trivial, trivial, trivial, (h0 38 rfl), trivial, trivial, trivial, trivial, trivial, trivial, (h0 38 rfl), trivial⟩ ?_
          refine ax_lt (Q := fun ςς => ax_R G 5 0 0 (62, [(0, .inr (0, 38)), (1, .inr (0, 39)), (2, .inl (.int (x2))), (3, .inl (.int (x3))), (4, .inl (.int ((s.1 0 39 (x3).toNatClampNeg))))], [], ax_m (ςς) ρ)) h (fun s17 h => ?_)
          refine ax_bk hK (ax_fc (ax_v_ld (ax_r_aload_n (i := 0) d_Z_read_62 rfl)) (ax_fc (ax_v_pu (ax_r_dup d_Z_read_63)) (ax_fc (ax_w_gf (e := none) hal d_Z_read_64 fd_Z_171) (ax_fc (ax_v_pu (ax_r_iconst (v := 1) d_Z_read_67 (by decide))) (ax_fc (ax_v_pu (ax_r_iadd d_Z_read_68)) (ax_fc (ax_w_pf (tc := 0) hal d_Z_read_69 fp_Z_171 rfl) ax_fn)))))) (y := (72, [(0, .inr (0, 38)), (1, .inr (0, 39)), (2, .inl (.int (x2))), (3, .inl (.int (x3))), (4, .inl (.int ((s.1 0 39 (x3).toNatClampNeg))))], [], ax_m (ax_wI s17 0 38 8 ((s17.1 0 38 8) + (1 : Int32))) ρ)) rfl ⟨trivial, trivial, (h0 38 rfl), trivial, trivial, (h0 38 rfl), trivial⟩ ?_
          refine ax_lt (Q := fun ςς => ax_R G 5 0 0 (72, [(0, .inr (0, 38)), (1, .inr (0, 39)), (2, .inl (.int (x2))), (3, .inl (.int (x3))), (4, .inl (.int ((s.1 0 39 (x3).toNatClampNeg))))], [], ax_m (ςς) ρ)) h (fun s18 h => ?_)
          refine ax_bk hK (ax_fc (ax_v_go (tgt := 105) d_Z_read_72 (by decide)) ax_fn) (y := (105, [(0, .inr (0, 38)), (1, .inr (0, 39)), (2, .inl (.int (x2))), (3, .inl (.int (x3))), (4, .inl (.int ((s.1 0 39 (x3).toNatClampNeg))))], [], ax_m (s18) ρ)) rfl ⟨trivial, trivial⟩ ?_
          refine ax_bk hK (ax_fc (ax_v_ii (d := 1) d_Z_read_105 (by decide)) (ax_fc (ax_v_go (tgt := 6) d_Z_read_108 (by decide)) ax_fn)) (y := (6, [(3, .inl (.int ((x3 + (1 : Int32))))), (0, .inr (0, 38)), (1, .inr (0, 39)), (2, .inl (.int (x2))), (4, .inl (.int ((s.1 0 39 (x3).toNatClampNeg))))], [], ax_m (s18) ρ)) rfl ⟨trivial, trivial, trivial⟩ ?_
          exact ax_Lsub [1, 2, 3, 0] rfl (ih _ h RT KE)
        · replace h := ax_it c19 h
          refine ax_bk hK (ax_fc (ax_v_ld (ax_r_iload_n (i := 3) d_Z_read_40 rfl)) ax_fn) (y := (41, [(0, .inr (0, 38)), (1, .inr (0, 39)), (2, .inl (.int (x2))), (3, .inl (.int (x3))), (4, .inl (.int ((s.1 0 39 (x3).toNatClampNeg))))], [.inl (.int (x3))], ax_m (s) ρ)) rfl ⟨trivial, trivial⟩ ?_
          cases h
          exact ax_iret (RT _ _ rfl) d_Z_read_41
      clear h
      have h := hw20
      refine ax_if_le (tgt := 75) hK d_Z_read_20 (by decide) (fun c7 => ?_) (fun c7 => ?_)
      · replace h := ax_it c7 h
        cases h
        exact ax_Lsub [1, 2, 3, 4, 0] rfl (KTw20 rfl)
      · replace h := ax_if c7 h
        refine ax_bk hK (ax_fc (ax_v_ld (ax_r_iload d_Z_read_23)) ax_fn) (y := (25, [(4, .inl (.int ((s.1 0 39 (x3).toNatClampNeg)))), (0, .inr (0, 38)), (1, .inr (0, 39)), (2, .inl (.int (x2))), (3, .inl (.int (x3)))], [.inl (.int ((s.1 0 39 (x3).toNatClampNeg)))], ax_m (s) ρ)) rfl ⟨trivial, trivial⟩ ?_
        obtain ⟨r4, q5, h⟩ := ax_bd h
        refine ax_bS (rest := []) hB (t_Z_isDigit q5) cw_Z_153 sm_Z_isDigit d_Z_read_25 (by decide) (by decide) rfl rfl (Nat.le_of_ble_eq_true rfl) ?_
        change ax_R G 5 0 0 (28, [(4, .inl (.int ((s.1 0 39 (x3).toNatClampNeg)))), (0, .inr (0, 38)), (1, .inr (0, 39)), (2, .inl (.int (x2))), (3, .inl (.int (x3)))], [.inl (.int (r4))], ax_m (s) ρ)
        refine ax_if_eq (tgt := 75) hK d_Z_read_28 (by decide) (fun c6 => ?_) (fun c6 => ?_)
        · replace h := ax_it c6 h
          cases h
          exact ax_Lsub [1, 2, 3, 4, 0] rfl (KTw20 rfl)
        · replace h := ax_if c6 h
          cases h
          exact ax_Lsub [1, 2, 3, 4, 0] rfl (KFw20 rfl)
set_option maxRecDepth 100000 in
theorem cw_Z_204 : ax_cw "CipherNotationModel" 204 y_Z_restart (.code y_Z_restart prog_8_method_11_code 1 none) 0 := ⟨nw_5 139 (by decide +kernel) rfl, nw_1 7 (by decide +kernel) rfl, nw_5 142 rfl rfl, by decide +kernel, by decide +kernel⟩
theorem im_Z_restart : Cond.instanceMethod y_Z_restart ∈ ax_tbl := nw_5 141 (by decide +kernel) rfl
theorem se_Z_restart : Cond.selects y_Z_restart.cls y_Z_restart y_Z_restart ∈ ax_tbl := nw_sel 45 (by decide +kernel) (by decide +kernel)
def f_Z_read_t (F : Nat) (a2 : Int32) (s : ax_σ) : Option (Int32 × ax_σ) :=
  Option.bind (f_Z_restart s) (fun s1 =>
    Option.bind (lp_Z_read_t_6 F a2 F (0 : Int32) s1) (fun w => match w with
      | .inl w => some w
      | .inr s22 =>
        Option.bind (
          if (s22.1 0 38 8) ≤ (0 : Int32) then
            some s22
          else
            Option.bind (f_Z_endNumber F s22) (fun s23 =>
              some s23)) (fun s26 =>
          if (s26.1 0 38 7) = (60 : Int32) then
            some (((-1 : Int32), s26))
          else
            some ((a2, s26)))))
set_option maxHeartbeats 4000000 in
set_option maxRecDepth 100000 in
theorem t_Z_read_t {l : Launch} {D : va_G} {cA : Nat → ClassId} {ad : Nat → Nat → Nat} {al : List (Nat × Nat)} {θ : ax_Θ} {ρ : ax_ρ} {F : Nat} (h0 : ax_M0 al) {a2 : Int32} {s : ax_σ} {r0 : Int32} {s0 : ax_σ} (h : f_Z_read_t F a2 s = some (r0, s0)) : ax_T l D cA ad al θ y_Z_read (.code y_Z_read prog_8_method_12_code 5 (some .int)) 5 [.inr (0, 38), .inr (0, 39), .inl (.int (a2))] (ax_m s ρ) (some (.inl (.int r0))) (ax_m s0 ρ) := by
  refine ax_T_of (own := "CipherNotationModel") (by decide) rfl (Nat.le_of_ble_eq_true rfl) [(0, .inr (0, 38)), (1, .inr (0, 39)), (2, .inl (.int (a2)))] rfl ?_
  intro G hA
  have hB := hA.B
  have hK := hB.K
  have hal := hB.la
  unfold f_Z_read_t at h
  refine ax_bk hK (ax_fc (ax_v_ld (ax_r_aload_n (i := 0) d_Z_read_0 rfl)) ax_fn) (y := (1, [(0, .inr (0, 38)), (1, .inr (0, 39)), (2, .inl (.int (a2)))], [.inr (0, 38)], ax_m (s) ρ)) rfl ⟨trivial, trivial⟩ ?_
  obtain ⟨s1, q2, h⟩ := ax_bd h
  refine ax_bV (rest := []) hB (t_Z_restart h0 q2) cw_Z_204 im_Z_restart se_Z_restart d_Z_read_1 (h0 38 rfl) rfl rfl (by decide) (by decide) rfl rfl (Nat.le_of_ble_eq_true rfl) ?_
  change ax_R G 5 0 0 (4, [(0, .inr (0, 38)), (1, .inr (0, 39)), (2, .inl (.int (a2)))], [], ax_m (s1) ρ)
  refine ax_bk hK (ax_fc (ax_v_pu (ax_r_iconst (v := 0) d_Z_read_4 (by decide))) (ax_fc (ax_v_so (ax_r_istore_n (i := 3) d_Z_read_5 rfl)) ax_fn)) (y := (6, [(3, .inl (.int ((0 : Int32)))), (0, .inr (0, 38)), (1, .inr (0, 39)), (2, .inl (.int (a2)))], [], ax_m (s1) ρ)) rfl ⟨trivial, trivial, trivial⟩ ?_
  obtain ⟨w28, hw28, h⟩ := ax_bd h
  have RTw28 : ∀ (r0 : Int32) (s0 : ax_σ), w28 = .inl (r0, s0) → ax_At D cA ad al θ l "CipherNotationModel" prog_8_method_12_code 5 5 (some .int) (some (.inl (.int r0))) (ax_m s0 ρ) G := by
    intro r0 s0 e9
    subst w28
    try dsimp only at h
    cases h
    exact hA
  refine ax_Lsub [1, 2, 3, 0] rfl (pl_Z_read_t_6 h0 hB F _ hw28 RTw28 ?_)
  intro s22 e9
  subst w28
  try dsimp only at h
  change ax_R G 5 0 0 (111, [(0, .inr (0, 38)), (2, .inl (.int (a2)))], [], ax_m (s22) ρ)
  refine ax_bk hK (ax_fc (ax_v_ld (ax_r_aload_n (i := 0) d_Z_read_111 rfl)) (ax_fc (ax_w_gf (e := none) hal d_Z_read_112 fd_Z_171) ax_fn)) (y := (115, [(0, .inr (0, 38)), (2, .inl (.int (a2)))], [.inl (.int ((s22.1 0 38 8)))], ax_m (s22) ρ)) rfl ⟨trivial, (h0 38 rfl), trivial⟩ ?_
  obtain ⟨w29, hw29, h⟩ := ax_bd h
  have KEw29 : ∀ (s26 : ax_σ), w29 = s26 → ax_R G 5 0 0 (122, [(0, .inr (0, 38)), (2, .inl (.int (a2)))], [], ax_m (s26) ρ) := by
    intro s26 e9
    subst w29
    try dsimp only at h
    refine ax_bk hK (ax_fc (ax_v_ld (ax_r_aload_n (i := 0) d_Z_read_122 rfl)) (ax_fc (ax_w_gf (e := none) hal d_Z_read_123 fd_Z_168) (ax_fc (ax_v_pu (ax_r_bipush (v := 60) d_Z_read_126 (by decide))) ax_fn))) (y := (128, [(0, .inr (0, 38)), (2, .inl (.int (a2)))], [.inl (.int ((60 : Int32))), .inl (.int ((s26.1 0 38 7)))], ax_m (s26) ρ)) rfl ⟨trivial, (h0 38 rfl), trivial, trivial⟩ ?_
    refine ax_ic_ne (tgt := 135) hK d_Z_read_128 (by decide) (fun c27 => ?_) (fun c27 => ?_)
    · replace h := ax_if c27 h
      refine ax_bk hK (ax_fc (ax_v_ld (ax_r_iload_n (i := 2) d_Z_read_135 rfl)) ax_fn) (y := (136, [(0, .inr (0, 38)), (2, .inl (.int (a2)))], [.inl (.int (a2))], ax_m (s26) ρ)) rfl ⟨trivial, trivial⟩ ?_
      cases h
      exact ax_iret hA d_Z_read_136
    · replace h := ax_it c27 h
      refine ax_bk hK (ax_fc (ax_v_pu (ax_r_iconst (v := -1) d_Z_read_131 (by decide))) (ax_fc (ax_v_go (tgt := 136) d_Z_read_132 (by decide)) ax_fn)) (y := (136, [(0, .inr (0, 38)), (2, .inl (.int (a2)))], [.inl (.int ((-1 : Int32)))], ax_m (s26) ρ)) rfl ⟨trivial, trivial, trivial⟩ ?_
      cases h
      exact ax_iret hA d_Z_read_136
  clear h
  have h := hw29
  refine ax_if_le (tgt := 122) hK d_Z_read_115 (by decide) (fun c25 => ?_) (fun c25 => ?_)
  · replace h := ax_it c25 h
    cases h
    exact ax_Lsub [0, 1] rfl (KEw29 _ rfl)
  · replace h := ax_if c25 h
    refine ax_bk hK (ax_fc (ax_v_ld (ax_r_aload_n (i := 0) d_Z_read_118 rfl)) ax_fn) (y := (119, [(0, .inr (0, 38)), (2, .inl (.int (a2)))], [.inr (0, 38)], ax_m (s22) ρ)) rfl ⟨trivial, trivial⟩ ?_
    obtain ⟨s23, q24, h⟩ := ax_bd h
    refine ax_bV (rest := []) hB (t_Z_endNumber h0 q24) cw_Z_213 im_Z_endNumber se_Z_endNumber d_Z_read_119 (h0 38 rfl) rfl rfl (by decide) (by decide) rfl rfl (Nat.le_of_ble_eq_true rfl) ?_
    change ax_R G 5 0 0 (122, [(0, .inr (0, 38)), (2, .inl (.int (a2)))], [], ax_m (s23) ρ)
    cases h
    exact ax_Lsub [0, 1] rfl (KEw29 _ rfl)
def lp_Z_read_s_6 (F : Nat) (x2 : Int32) : Nat → Int32 → ax_σ → Option ((Int32 × ax_σ) ⊕ (ax_σ))
  | 0, _, _ => none
  | n + 1, x3, s =>
    if x2 ≤ x3 then
      some (.inr s)
    else
      bif ax_in x3 240 then
      Option.bind (
        if (s.1 0 38 8) ≤ (0 : Int32) then
          some true
        else
          Option.bind (f_Z_isDigit (s.1 0 40 (x3).toNatClampNeg)) (fun r4 =>
            if r4 = (0 : Int32) then
              some true
            else
              some false)) (fun w20 => bif w20 then
        Option.bind (
          if (s.1 0 38 8) ≤ (0 : Int32) then
            some s
          else
            Option.bind (f_Z_endNumber F s) (fun s8 =>
              some s8)) (fun s11 =>
          if (s.1 0 40 (x3).toNatClampNeg) = (32 : Int32) then
            lp_Z_read_s_6 F x2 n (x3 + (1 : Int32)) s11
          else
            Option.bind (f_Z_accepts F (s.1 0 40 (x3).toNatClampNeg) x3 s11) (fun (r12, s13) =>
              if r12 = (0 : Int32) then
                some (.inl (x3, s13))
              else
                lp_Z_read_s_6 F x2 n (x3 + (1 : Int32)) s13))
      else
        if (s.1 0 38 8) = (9 : Int32) then
          some (.inl (x3, s))
        else
          ax_let (ax_wL s 0 38 9 ((((10 : Int64) * (s.2 0 38 9)) + ((s.1 0 40 (x3).toNatClampNeg)).toInt64) - (48 : Int64))) (fun s17 =>
            ax_let (ax_wI s17 0 38 8 ((s17.1 0 38 8) + (1 : Int32))) (fun s18 =>
              lp_Z_read_s_6 F x2 n (x3 + (1 : Int32)) s18)))
      else none
set_option maxHeartbeats 4000000 in
set_option maxRecDepth 100000 in
theorem pl_Z_read_s_6 {D : va_G} {cA : Nat → ClassId} {ad : Nat → Nat → Nat} {al : List (Nat × Nat)} {θ : ax_Θ} {l : Launch} {ρ : ax_ρ} {G : ax_G} {F : Nat} {x2 : Int32} (h0 : ax_M0 al) (hB : ax_B D cA ad al θ l "CipherNotationModel" prog_8_method_12_code 5 5 G) : ∀ (n : Nat) {x3 : Int32} {s : ax_σ} (out : (Int32 × ax_σ) ⊕ (ax_σ)), lp_Z_read_s_6 F x2 n x3 s = some out → (∀ (r0 : Int32) (s0 : ax_σ), out = .inl (r0, s0) → ax_At D cA ad al θ l "CipherNotationModel" prog_8_method_12_code 5 5 (some .int) (some (.inl (.int r0))) (ax_m s0 ρ) G) → (∀ (es : ax_σ), out = .inr es → ax_R G 5 0 0 (111, [(0, .inr (0, 38)), (2, .inl (.int (x2)))], [], ax_m (es) ρ)) → ax_R G 5 0 0 (6, [(0, .inr (0, 38)), (1, .inr (0, 40)), (2, .inl (.int (x2))), (3, .inl (.int (x3)))], [], ax_m (s) ρ) := by
  have hK := hB.K
  have hal := hB.la
  intro n
  induction n with
  | zero =>
    intro x3 s out h
    cases h
  | succ n ih =>
    intro x3 s out h RT KE
    rw [lp_Z_read_s_6] at h
    refine ax_bk hK (ax_fc (ax_v_ld (ax_r_iload_n (i := 3) d_Z_read_6 rfl)) (ax_fc (ax_v_ld (ax_r_iload_n (i := 2) d_Z_read_7 rfl)) ax_fn)) (y := (8, [(0, .inr (0, 38)), (1, .inr (0, 40)), (2, .inl (.int (x2))), (3, .inl (.int (x3)))], [.inl (.int (x2)), .inl (.int (x3))], ax_m (s) ρ)) rfl ⟨trivial, trivial, trivial⟩ ?_
    refine ax_ic_ge (tgt := 111) hK d_Z_read_8 (by decide) (fun c21 => ?_) (fun c21 => ?_)
    · replace h := ax_it c21 h
      cases h
      exact ax_Lsub [0, 2] rfl (KE _ rfl)
    · replace h := ax_if c21 h
      obtain ⟨b3, h⟩ := ax_gd h
      refine ax_bk hK (ax_fc (ax_v_ld (ax_r_aload_n (i := 1) d_Z_read_11 rfl)) (ax_fc (ax_v_ld (ax_r_iload_n (i := 3) d_Z_read_12 rfl)) (ax_fc (ax_w_iald hal d_Z_read_13) (ax_fc (ax_v_so (ax_r_istore d_Z_read_14)) (ax_fc (ax_v_ld (ax_r_aload_n (i := 0) d_Z_read_16 rfl)) (ax_fc (ax_w_gf (e := none) hal d_Z_read_17 fd_Z_171) ax_fn)))))) (y := (20, [(4, .inl (.int ((s.1 0 40 (x3).toNatClampNeg)))), (0, .inr (0, 38)), (1, .inr (0, 40)), (2, .inl (.int (x2))), (3, .inl (.int (x3)))], [.inl (.int ((s.1 0 38 8)))], ax_m (s) ρ)) rfl ⟨trivial, trivial, ⟨(h0 40 rfl), ax_inp b3⟩, trivial, trivial, (h0 38 rfl), trivial⟩ ?_
      obtain ⟨w20, hw20, h⟩ := ax_bd h
      have KTw20 : w20 = true → ax_R G 5 0 0 (75, [(0, .inr (0, 38)), (1, .inr (0, 40)), (2, .inl (.int (x2))), (3, .inl (.int (x3))), (4, .inl (.int ((s.1 0 40 (x3).toNatClampNeg))))], [], ax_m (s) ρ) := by
        intro e9
        subst w20
        replace h := ax_ct h
        refine ax_bk hK (ax_fc (ax_v_ld (ax_r_aload_n (i := 0) d_Z_read_75 rfl)) (ax_fc (ax_w_gf (e := none) hal d_Z_read_76 fd_Z_171) ax_fn)) (y := (79, [(0, .inr (0, 38)), (1, .inr (0, 40)), (2, .inl (.int (x2))), (3, .inl (.int (x3))), (4, .inl (.int ((s.1 0 40 (x3).toNatClampNeg))))], [.inl (.int ((s.1 0 38 8)))], ax_m (s) ρ)) rfl ⟨trivial, (h0 38 rfl), trivial⟩ ?_
        obtain ⟨w22, hw22, h⟩ := ax_bd h
        have KEw22 : ∀ (s11 : ax_σ), w22 = s11 → ax_R G 5 0 0 (86, [(0, .inr (0, 38)), (1, .inr (0, 40)), (2, .inl (.int (x2))), (3, .inl (.int (x3))), (4, .inl (.int ((s.1 0 40 (x3).toNatClampNeg))))], [], ax_m (s11) ρ) := by
          intro s11 e9
          subst w22
          try dsimp only at h
          refine ax_bk hK (ax_fc (ax_v_ld (ax_r_iload d_Z_read_86)) (ax_fc (ax_v_pu (ax_r_bipush (v := 32) d_Z_read_88 (by decide))) ax_fn)) (y := (90, [(0, .inr (0, 38)), (1, .inr (0, 40)), (2, .inl (.int (x2))), (3, .inl (.int (x3))), (4, .inl (.int ((s.1 0 40 (x3).toNatClampNeg))))], [.inl (.int ((32 : Int32))), .inl (.int ((s.1 0 40 (x3).toNatClampNeg)))], ax_m (s11) ρ)) rfl ⟨trivial, trivial, trivial⟩ ?_
          refine ax_ic_eq (tgt := 105) hK d_Z_read_90 (by decide) (fun c16 => ?_) (fun c16 => ?_)
          · replace h := ax_it c16 h
            refine ax_bk hK (ax_fc (ax_v_ii (d := 1) d_Z_read_105 (by decide)) (ax_fc (ax_v_go (tgt := 6) d_Z_read_108 (by decide)) ax_fn)) (y := (6, [(3, .inl (.int ((x3 + (1 : Int32))))), (0, .inr (0, 38)), (1, .inr (0, 40)), (2, .inl (.int (x2))), (4, .inl (.int ((s.1 0 40 (x3).toNatClampNeg))))], [], ax_m (s11) ρ)) rfl ⟨trivial, trivial, trivial⟩ ?_
            exact ax_Lsub [1, 2, 3, 0] rfl (ih _ h RT KE)
          · replace h := ax_if c16 h
            refine ax_bk hK (ax_fc (ax_v_ld (ax_r_aload_n (i := 0) d_Z_read_93 rfl)) (ax_fc (ax_v_ld (ax_r_iload d_Z_read_94)) (ax_fc (ax_v_ld (ax_r_iload_n (i := 3) d_Z_read_96 rfl)) ax_fn))) (y := (97, [(0, .inr (0, 38)), (1, .inr (0, 40)), (2, .inl (.int (x2))), (3, .inl (.int (x3))), (4, .inl (.int ((s.1 0 40 (x3).toNatClampNeg))))], [.inl (.int (x3)), .inl (.int ((s.1 0 40 (x3).toNatClampNeg))), .inr (0, 38)], ax_m (s11) ρ)) rfl ⟨trivial, trivial, trivial, trivial⟩ ?_
            obtain ⟨⟨r12, s13⟩, q14, h⟩ := ax_bd h
            dsimp only at h
            refine ax_bV (rest := []) hB (t_Z_accepts h0 q14) cw_Z_216 im_Z_accepts se_Z_accepts d_Z_read_97 (h0 38 rfl) rfl rfl (by decide) (by decide) rfl rfl (Nat.le_of_ble_eq_true rfl) ?_
            change ax_R G 5 0 0 (100, [(0, .inr (0, 38)), (1, .inr (0, 40)), (2, .inl (.int (x2))), (3, .inl (.int (x3))), (4, .inl (.int ((s.1 0 40 (x3).toNatClampNeg))))], [.inl (.int (r12))], ax_m (s13) ρ)
            refine ax_if_ne (tgt := 105) hK d_Z_read_100 (by decide) (fun c15 => ?_) (fun c15 => ?_)
            · replace h := ax_if c15 h
              refine ax_bk hK (ax_fc (ax_v_ii (d := 1) d_Z_read_105 (by decide)) (ax_fc (ax_v_go (tgt := 6) d_Z_read_108 (by decide)) ax_fn)) (y := (6, [(3, .inl (.int ((x3 + (1 : Int32))))), (0, .inr (0, 38)), (1, .inr (0, 40)), (2, .inl (.int (x2))), (4, .inl (.int ((s.1 0 40 (x3).toNatClampNeg))))], [], ax_m (s13) ρ)) rfl ⟨trivial, trivial, trivial⟩ ?_
              exact ax_Lsub [1, 2, 3, 0] rfl (ih _ h RT KE)
            · replace h := ax_it c15 h
              refine ax_bk hK (ax_fc (ax_v_ld (ax_r_iload_n (i := 3) d_Z_read_103 rfl)) ax_fn) (y := (104, [(0, .inr (0, 38)), (1, .inr (0, 40)), (2, .inl (.int (x2))), (3, .inl (.int (x3))), (4, .inl (.int ((s.1 0 40 (x3).toNatClampNeg))))], [.inl (.int (x3))], ax_m (s13) ρ)) rfl ⟨trivial, trivial⟩ ?_
              cases h
              exact ax_iret (RT _ _ rfl) d_Z_read_104
        clear h
        have h := hw22
        refine ax_if_le (tgt := 86) hK d_Z_read_79 (by decide) (fun c10 => ?_) (fun c10 => ?_)
        · replace h := ax_it c10 h
          cases h
          exact ax_Lsub [0, 1, 2, 3, 4] rfl (KEw22 _ rfl)
        · replace h := ax_if c10 h
          refine ax_bk hK (ax_fc (ax_v_ld (ax_r_aload_n (i := 0) d_Z_read_82 rfl)) ax_fn) (y := (83, [(0, .inr (0, 38)), (1, .inr (0, 40)), (2, .inl (.int (x2))), (3, .inl (.int (x3))), (4, .inl (.int ((s.1 0 40 (x3).toNatClampNeg))))], [.inr (0, 38)], ax_m (s) ρ)) rfl ⟨trivial, trivial⟩ ?_
          obtain ⟨s8, q9, h⟩ := ax_bd h
          refine ax_bV (rest := []) hB (t_Z_endNumber h0 q9) cw_Z_213 im_Z_endNumber se_Z_endNumber d_Z_read_83 (h0 38 rfl) rfl rfl (by decide) (by decide) rfl rfl (Nat.le_of_ble_eq_true rfl) ?_
          change ax_R G 5 0 0 (86, [(0, .inr (0, 38)), (1, .inr (0, 40)), (2, .inl (.int (x2))), (3, .inl (.int (x3))), (4, .inl (.int ((s.1 0 40 (x3).toNatClampNeg))))], [], ax_m (s8) ρ)
          cases h
          exact ax_Lsub [0, 1, 2, 3, 4] rfl (KEw22 _ rfl)
      have KFw20 : w20 = false → ax_R G 5 0 0 (31, [(0, .inr (0, 38)), (1, .inr (0, 40)), (2, .inl (.int (x2))), (3, .inl (.int (x3))), (4, .inl (.int ((s.1 0 40 (x3).toNatClampNeg))))], [], ax_m (s) ρ) := by
        intro e9
        subst w20
        replace h := ax_cf h
        refine ax_bk hK (ax_fc (ax_v_ld (ax_r_aload_n (i := 0) d_Z_read_31 rfl)) (ax_fc (ax_w_gf (e := none) hal d_Z_read_32 fd_Z_171) (ax_fc (ax_v_pu (ax_r_bipush (v := 9) d_Z_read_35 (by decide))) ax_fn))) (y := (37, [(0, .inr (0, 38)), (1, .inr (0, 40)), (2, .inl (.int (x2))), (3, .inl (.int (x3))), (4, .inl (.int ((s.1 0 40 (x3).toNatClampNeg))))], [.inl (.int ((9 : Int32))), .inl (.int ((s.1 0 38 8)))], ax_m (s) ρ)) rfl ⟨trivial, (h0 38 rfl), trivial, trivial⟩ ?_
        refine ax_ic_ne (tgt := 42) hK d_Z_read_37 (by decide) (fun c19 => ?_) (fun c19 => ?_)
        · replace h := ax_if c19 h
          refine ax_bk hK (ax_fc (ax_v_ld (ax_r_aload_n (i := 0) d_Z_read_42 rfl)) (ax_fc (ax_v_ldc2 (v := 10) d_Z_read_43 (nw_5 146 (by decide +kernel) rfl)) (ax_fc (ax_v_ld (ax_r_aload_n (i := 0) d_Z_read_46 rfl)) (ax_fc (ax_w_gf (e := none) hal d_Z_read_47 fd_Z_207) (ax_fc (ax_v_pu (ax_r_lmul d_Z_read_50)) (ax_fc (ax_v_ld (ax_r_iload d_Z_read_51)) (ax_fc (ax_v_pu (ax_r_i2l d_Z_read_53)) (ax_fc (ax_v_pu (ax_r_ladd d_Z_read_54)) (ax_fc (ax_v_ldc2 (v := 48) d_Z_read_55 (nw_5 147 (by decide +kernel) rfl)) (ax_fc (ax_v_pu (ax_r_lsub d_Z_read_58)) (ax_fc (ax_w_pf (tc := 2) hal d_Z_read_59 fp_Z_207 rfl) ax_fn))))))))))) (y := (62, [(0, .inr (0, 38)), (1, .inr (0, 40)), (2, .inl (.int (x2))), (3, .inl (.int (x3))), (4, .inl (.int ((s.1 0 40 (x3).toNatClampNeg))))], [], ax_m (ax_wL s 0 38 9 ((((10 : Int64) * (s.2 0 38 9)) + ((s.1 0 40 (x3).toNatClampNeg)).toInt64) - (48 : Int64))) ρ)) rfl ⟨trivial, trivial, trivial, (h0 38 rfl), trivial, trivial, trivial, trivial, trivial, trivial, (h0 38 rfl), trivial⟩ ?_
          refine ax_lt (Q := fun ςς => ax_R G 5 0 0 (62, [(0, .inr (0, 38)), (1, .inr (0, 40)), (2, .inl (.int (x2))), (3, .inl (.int (x3))), (4, .inl (.int ((s.1 0 40 (x3).toNatClampNeg))))], [], ax_m (ςς) ρ)) h (fun s17 h => ?_)
          refine ax_bk hK (ax_fc (ax_v_ld (ax_r_aload_n (i := 0) d_Z_read_62 rfl)) (ax_fc (ax_v_pu (ax_r_dup d_Z_read_63)) (ax_fc (ax_w_gf (e := none) hal d_Z_read_64 fd_Z_171) (ax_fc (ax_v_pu (ax_r_iconst (v := 1) d_Z_read_67 (by decide))) (ax_fc (ax_v_pu (ax_r_iadd d_Z_read_68)) (ax_fc (ax_w_pf (tc := 0) hal d_Z_read_69 fp_Z_171 rfl) ax_fn)))))) (y := (72, [(0, .inr (0, 38)), (1, .inr (0, 40)), (2, .inl (.int (x2))), (3, .inl (.int (x3))), (4, .inl (.int ((s.1 0 40 (x3).toNatClampNeg))))], [], ax_m (ax_wI s17 0 38 8 ((s17.1 0 38 8) + (1 : Int32))) ρ)) rfl ⟨trivial, trivial, (h0 38 rfl), trivial, trivial, (h0 38 rfl), trivial⟩ ?_
          refine ax_lt (Q := fun ςς => ax_R G 5 0 0 (72, [(0, .inr (0, 38)), (1, .inr (0, 40)), (2, .inl (.int (x2))), (3, .inl (.int (x3))), (4, .inl (.int ((s.1 0 40 (x3).toNatClampNeg))))], [], ax_m (ςς) ρ)) h (fun s18 h => ?_)
          refine ax_bk hK (ax_fc (ax_v_go (tgt := 105) d_Z_read_72 (by decide)) ax_fn) (y := (105, [(0, .inr (0, 38)), (1, .inr (0, 40)), (2, .inl (.int (x2))), (3, .inl (.int (x3))), (4, .inl (.int ((s.1 0 40 (x3).toNatClampNeg))))], [], ax_m (s18) ρ)) rfl ⟨trivial, trivial⟩ ?_
          refine ax_bk hK (ax_fc (ax_v_ii (d := 1) d_Z_read_105 (by decide)) (ax_fc (ax_v_go (tgt := 6) d_Z_read_108 (by decide)) ax_fn)) (y := (6, [(3, .inl (.int ((x3 + (1 : Int32))))), (0, .inr (0, 38)), (1, .inr (0, 40)), (2, .inl (.int (x2))), (4, .inl (.int ((s.1 0 40 (x3).toNatClampNeg))))], [], ax_m (s18) ρ)) rfl ⟨trivial, trivial, trivial⟩ ?_
          exact ax_Lsub [1, 2, 3, 0] rfl (ih _ h RT KE)
        · replace h := ax_it c19 h
          refine ax_bk hK (ax_fc (ax_v_ld (ax_r_iload_n (i := 3) d_Z_read_40 rfl)) ax_fn) (y := (41, [(0, .inr (0, 38)), (1, .inr (0, 40)), (2, .inl (.int (x2))), (3, .inl (.int (x3))), (4, .inl (.int ((s.1 0 40 (x3).toNatClampNeg))))], [.inl (.int (x3))], ax_m (s) ρ)) rfl ⟨trivial, trivial⟩ ?_
          cases h
          exact ax_iret (RT _ _ rfl) d_Z_read_41
      clear h
      have h := hw20
      refine ax_if_le (tgt := 75) hK d_Z_read_20 (by decide) (fun c7 => ?_) (fun c7 => ?_)
      · replace h := ax_it c7 h
        cases h
        exact ax_Lsub [1, 2, 3, 4, 0] rfl (KTw20 rfl)
      · replace h := ax_if c7 h
        refine ax_bk hK (ax_fc (ax_v_ld (ax_r_iload d_Z_read_23)) ax_fn) (y := (25, [(4, .inl (.int ((s.1 0 40 (x3).toNatClampNeg)))), (0, .inr (0, 38)), (1, .inr (0, 40)), (2, .inl (.int (x2))), (3, .inl (.int (x3)))], [.inl (.int ((s.1 0 40 (x3).toNatClampNeg)))], ax_m (s) ρ)) rfl ⟨trivial, trivial⟩ ?_
        obtain ⟨r4, q5, h⟩ := ax_bd h
        refine ax_bS (rest := []) hB (t_Z_isDigit q5) cw_Z_153 sm_Z_isDigit d_Z_read_25 (by decide) (by decide) rfl rfl (Nat.le_of_ble_eq_true rfl) ?_
        change ax_R G 5 0 0 (28, [(4, .inl (.int ((s.1 0 40 (x3).toNatClampNeg)))), (0, .inr (0, 38)), (1, .inr (0, 40)), (2, .inl (.int (x2))), (3, .inl (.int (x3)))], [.inl (.int (r4))], ax_m (s) ρ)
        refine ax_if_eq (tgt := 75) hK d_Z_read_28 (by decide) (fun c6 => ?_) (fun c6 => ?_)
        · replace h := ax_it c6 h
          cases h
          exact ax_Lsub [1, 2, 3, 4, 0] rfl (KTw20 rfl)
        · replace h := ax_if c6 h
          cases h
          exact ax_Lsub [1, 2, 3, 4, 0] rfl (KFw20 rfl)
def f_Z_read_s (F : Nat) (a2 : Int32) (s : ax_σ) : Option (Int32 × ax_σ) :=
  Option.bind (f_Z_restart s) (fun s1 =>
    Option.bind (lp_Z_read_s_6 F a2 F (0 : Int32) s1) (fun w => match w with
      | .inl w => some w
      | .inr s22 =>
        Option.bind (
          if (s22.1 0 38 8) ≤ (0 : Int32) then
            some s22
          else
            Option.bind (f_Z_endNumber F s22) (fun s23 =>
              some s23)) (fun s26 =>
          if (s26.1 0 38 7) = (60 : Int32) then
            some (((-1 : Int32), s26))
          else
            some ((a2, s26)))))
set_option maxHeartbeats 4000000 in
set_option maxRecDepth 100000 in
theorem t_Z_read_s {l : Launch} {D : va_G} {cA : Nat → ClassId} {ad : Nat → Nat → Nat} {al : List (Nat × Nat)} {θ : ax_Θ} {ρ : ax_ρ} {F : Nat} (h0 : ax_M0 al) {a2 : Int32} {s : ax_σ} {r0 : Int32} {s0 : ax_σ} (h : f_Z_read_s F a2 s = some (r0, s0)) : ax_T l D cA ad al θ y_Z_read (.code y_Z_read prog_8_method_12_code 5 (some .int)) 5 [.inr (0, 38), .inr (0, 40), .inl (.int (a2))] (ax_m s ρ) (some (.inl (.int r0))) (ax_m s0 ρ) := by
  refine ax_T_of (own := "CipherNotationModel") (by decide) rfl (Nat.le_of_ble_eq_true rfl) [(0, .inr (0, 38)), (1, .inr (0, 40)), (2, .inl (.int (a2)))] rfl ?_
  intro G hA
  have hB := hA.B
  have hK := hB.K
  have hal := hB.la
  unfold f_Z_read_s at h
  refine ax_bk hK (ax_fc (ax_v_ld (ax_r_aload_n (i := 0) d_Z_read_0 rfl)) ax_fn) (y := (1, [(0, .inr (0, 38)), (1, .inr (0, 40)), (2, .inl (.int (a2)))], [.inr (0, 38)], ax_m (s) ρ)) rfl ⟨trivial, trivial⟩ ?_
  obtain ⟨s1, q2, h⟩ := ax_bd h
  refine ax_bV (rest := []) hB (t_Z_restart h0 q2) cw_Z_204 im_Z_restart se_Z_restart d_Z_read_1 (h0 38 rfl) rfl rfl (by decide) (by decide) rfl rfl (Nat.le_of_ble_eq_true rfl) ?_
  change ax_R G 5 0 0 (4, [(0, .inr (0, 38)), (1, .inr (0, 40)), (2, .inl (.int (a2)))], [], ax_m (s1) ρ)
  refine ax_bk hK (ax_fc (ax_v_pu (ax_r_iconst (v := 0) d_Z_read_4 (by decide))) (ax_fc (ax_v_so (ax_r_istore_n (i := 3) d_Z_read_5 rfl)) ax_fn)) (y := (6, [(3, .inl (.int ((0 : Int32)))), (0, .inr (0, 38)), (1, .inr (0, 40)), (2, .inl (.int (a2)))], [], ax_m (s1) ρ)) rfl ⟨trivial, trivial, trivial⟩ ?_
  obtain ⟨w28, hw28, h⟩ := ax_bd h
  have RTw28 : ∀ (r0 : Int32) (s0 : ax_σ), w28 = .inl (r0, s0) → ax_At D cA ad al θ l "CipherNotationModel" prog_8_method_12_code 5 5 (some .int) (some (.inl (.int r0))) (ax_m s0 ρ) G := by
    intro r0 s0 e9
    subst w28
    try dsimp only at h
    cases h
    exact hA
  refine ax_Lsub [1, 2, 3, 0] rfl (pl_Z_read_s_6 h0 hB F _ hw28 RTw28 ?_)
  intro s22 e9
  subst w28
  try dsimp only at h
  change ax_R G 5 0 0 (111, [(0, .inr (0, 38)), (2, .inl (.int (a2)))], [], ax_m (s22) ρ)
  refine ax_bk hK (ax_fc (ax_v_ld (ax_r_aload_n (i := 0) d_Z_read_111 rfl)) (ax_fc (ax_w_gf (e := none) hal d_Z_read_112 fd_Z_171) ax_fn)) (y := (115, [(0, .inr (0, 38)), (2, .inl (.int (a2)))], [.inl (.int ((s22.1 0 38 8)))], ax_m (s22) ρ)) rfl ⟨trivial, (h0 38 rfl), trivial⟩ ?_
  obtain ⟨w29, hw29, h⟩ := ax_bd h
  have KEw29 : ∀ (s26 : ax_σ), w29 = s26 → ax_R G 5 0 0 (122, [(0, .inr (0, 38)), (2, .inl (.int (a2)))], [], ax_m (s26) ρ) := by
    intro s26 e9
    subst w29
    try dsimp only at h
    refine ax_bk hK (ax_fc (ax_v_ld (ax_r_aload_n (i := 0) d_Z_read_122 rfl)) (ax_fc (ax_w_gf (e := none) hal d_Z_read_123 fd_Z_168) (ax_fc (ax_v_pu (ax_r_bipush (v := 60) d_Z_read_126 (by decide))) ax_fn))) (y := (128, [(0, .inr (0, 38)), (2, .inl (.int (a2)))], [.inl (.int ((60 : Int32))), .inl (.int ((s26.1 0 38 7)))], ax_m (s26) ρ)) rfl ⟨trivial, (h0 38 rfl), trivial, trivial⟩ ?_
    refine ax_ic_ne (tgt := 135) hK d_Z_read_128 (by decide) (fun c27 => ?_) (fun c27 => ?_)
    · replace h := ax_if c27 h
      refine ax_bk hK (ax_fc (ax_v_ld (ax_r_iload_n (i := 2) d_Z_read_135 rfl)) ax_fn) (y := (136, [(0, .inr (0, 38)), (2, .inl (.int (a2)))], [.inl (.int (a2))], ax_m (s26) ρ)) rfl ⟨trivial, trivial⟩ ?_
      cases h
      exact ax_iret hA d_Z_read_136
    · replace h := ax_it c27 h
      refine ax_bk hK (ax_fc (ax_v_pu (ax_r_iconst (v := -1) d_Z_read_131 (by decide))) (ax_fc (ax_v_go (tgt := 136) d_Z_read_132 (by decide)) ax_fn)) (y := (136, [(0, .inr (0, 38)), (2, .inl (.int (a2)))], [.inl (.int ((-1 : Int32)))], ax_m (s26) ρ)) rfl ⟨trivial, trivial, trivial⟩ ?_
      cases h
      exact ax_iret hA d_Z_read_136
  clear h
  have h := hw29
  refine ax_if_le (tgt := 122) hK d_Z_read_115 (by decide) (fun c25 => ?_) (fun c25 => ?_)
  · replace h := ax_it c25 h
    cases h
    exact ax_Lsub [0, 1] rfl (KEw29 _ rfl)
  · replace h := ax_if c25 h
    refine ax_bk hK (ax_fc (ax_v_ld (ax_r_aload_n (i := 0) d_Z_read_118 rfl)) ax_fn) (y := (119, [(0, .inr (0, 38)), (2, .inl (.int (a2)))], [.inr (0, 38)], ax_m (s22) ρ)) rfl ⟨trivial, trivial⟩ ?_
    obtain ⟨s23, q24, h⟩ := ax_bd h
    refine ax_bV (rest := []) hB (t_Z_endNumber h0 q24) cw_Z_213 im_Z_endNumber se_Z_endNumber d_Z_read_119 (h0 38 rfl) rfl rfl (by decide) (by decide) rfl rfl (Nat.le_of_ble_eq_true rfl) ?_
    change ax_R G 5 0 0 (122, [(0, .inr (0, 38)), (2, .inl (.int (a2)))], [], ax_m (s23) ρ)
    cases h
    exact ax_Lsub [0, 1] rfl (KEw29 _ rfl)
