/-! the decompiled methods: each f_ is what its bytecode does to a world; each s_ ties it to the machine. Written by program (wip/gen/gen.py). -/
def M_X3_doStatement : aM := (yX3_doStatement, cX3_doStatement, 4, (some .boolean), 5, 113)
theorem ok_X3_doStatement : a_okM M_X3_doStatement 2 := ⟨⟨by decide +kernel, by decide +kernel⟩, by decide +kernel, a_in 252 (by decide +kernel) rfl, a_in 76 (by decide +kernel) rfl⟩
theorem dX3_doStatement_0 : decode M_X3_doStatement.2.1 0 = .ok (.aload_n 1, 1) := by decide +kernel
theorem dX3_doStatement_1 : decode M_X3_doStatement.2.1 1 = .ok (.iload_n 2, 1) := by decide +kernel
theorem dX3_doStatement_2 : decode M_X3_doStatement.2.1 2 = .ok (.iconst 1, 1) := by decide +kernel
theorem dX3_doStatement_3 : decode M_X3_doStatement.2.1 3 = .ok (.iadd, 1) := by decide +kernel
theorem dX3_doStatement_4 : decode M_X3_doStatement.2.1 4 = .ok (.iconst 1, 1) := by decide +kernel
theorem dX3_doStatement_5 : decode M_X3_doStatement.2.1 5 = .ok (.invokevirtual 352, 3) := by decide +kernel
theorem dX3_doStatement_8 : decode M_X3_doStatement.2.1 8 = .ok (.istore_n 3, 1) := by decide +kernel
theorem dX3_doStatement_9 : decode M_X3_doStatement.2.1 9 = .ok (.aload_n 1, 1) := by decide +kernel
theorem dX3_doStatement_10 : decode M_X3_doStatement.2.1 10 = .ok (.iload_n 2, 1) := by decide +kernel
theorem dX3_doStatement_11 : decode M_X3_doStatement.2.1 11 = .ok (.invokevirtual 66, 3) := by decide +kernel
theorem dX3_doStatement_14 : decode M_X3_doStatement.2.1 14 = .ok (.tableswitch 265 98 117 #[94, 214, 246, 265, 265, 122, 265, 265, 265, 265, 265, 265, 265, 265, 142, 265, 265, 265, 265, 234], 94) := by decide +kernel
theorem dX3_doStatement_108 : decode M_X3_doStatement.2.1 108 = .ok (.aload_n 0, 1) := by decide +kernel
theorem dX3_doStatement_109 : decode M_X3_doStatement.2.1 109 = .ok (.getfield 16, 3) := by decide +kernel
theorem dX3_doStatement_112 : decode M_X3_doStatement.2.1 112 = .ok (.iload_n 3, 1) := by decide +kernel
theorem dX3_doStatement_113 : decode M_X3_doStatement.2.1 113 = .ok (.aload_n 1, 1) := by decide +kernel
theorem dX3_doStatement_114 : decode M_X3_doStatement.2.1 114 = .ok (.iload_n 2, 1) := by decide +kernel
theorem dX3_doStatement_115 : decode M_X3_doStatement.2.1 115 = .ok (.iconst 2, 1) := by decide +kernel
theorem dX3_doStatement_116 : decode M_X3_doStatement.2.1 116 = .ok (.iadd, 1) := by decide +kernel
theorem dX3_doStatement_117 : decode M_X3_doStatement.2.1 117 = .ok (.iconst 1, 1) := by decide +kernel
theorem dX3_doStatement_118 : decode M_X3_doStatement.2.1 118 = .ok (.invokevirtual 352, 3) := by decide +kernel
theorem dX3_doStatement_121 : decode M_X3_doStatement.2.1 121 = .ok (.aload_n 1, 1) := by decide +kernel
theorem dX3_doStatement_122 : decode M_X3_doStatement.2.1 122 = .ok (.iload_n 2, 1) := by decide +kernel
theorem dX3_doStatement_123 : decode M_X3_doStatement.2.1 123 = .ok (.iconst 3, 1) := by decide +kernel
theorem dX3_doStatement_124 : decode M_X3_doStatement.2.1 124 = .ok (.iadd, 1) := by decide +kernel
theorem dX3_doStatement_125 : decode M_X3_doStatement.2.1 125 = .ok (.iconst 2, 1) := by decide +kernel
theorem dX3_doStatement_126 : decode M_X3_doStatement.2.1 126 = .ok (.invokevirtual 352, 3) := by decide +kernel
theorem dX3_doStatement_129 : decode M_X3_doStatement.2.1 129 = .ok (.invokevirtual 113, 3) := by decide +kernel
theorem dX3_doStatement_132 : decode M_X3_doStatement.2.1 132 = .ok (.invokestatic 355, 3) := by decide +kernel
theorem dX3_doStatement_135 : decode M_X3_doStatement.2.1 135 = .ok (.ireturn, 1) := by decide +kernel
theorem dX3_doStatement_136 : decode M_X3_doStatement.2.1 136 = .ok (.aload_n 0, 1) := by decide +kernel
theorem dX3_doStatement_137 : decode M_X3_doStatement.2.1 137 = .ok (.getfield 16, 3) := by decide +kernel
theorem dX3_doStatement_140 : decode M_X3_doStatement.2.1 140 = .ok (.iload_n 3, 1) := by decide +kernel
theorem dX3_doStatement_141 : decode M_X3_doStatement.2.1 141 = .ok (.aload_n 1, 1) := by decide +kernel
theorem dX3_doStatement_142 : decode M_X3_doStatement.2.1 142 = .ok (.iload_n 2, 1) := by decide +kernel
theorem dX3_doStatement_143 : decode M_X3_doStatement.2.1 143 = .ok (.iconst 2, 1) := by decide +kernel
theorem dX3_doStatement_144 : decode M_X3_doStatement.2.1 144 = .ok (.iadd, 1) := by decide +kernel
theorem dX3_doStatement_145 : decode M_X3_doStatement.2.1 145 = .ok (.iconst 2, 1) := by decide +kernel
theorem dX3_doStatement_146 : decode M_X3_doStatement.2.1 146 = .ok (.invokevirtual 352, 3) := by decide +kernel
theorem dX3_doStatement_149 : decode M_X3_doStatement.2.1 149 = .ok (.invokevirtual 117, 3) := by decide +kernel
theorem dX3_doStatement_152 : decode M_X3_doStatement.2.1 152 = .ok (.invokestatic 355, 3) := by decide +kernel
theorem dX3_doStatement_155 : decode M_X3_doStatement.2.1 155 = .ok (.ireturn, 1) := by decide +kernel
theorem dX3_doStatement_156 : decode M_X3_doStatement.2.1 156 = .ok (.aload_n 0, 1) := by decide +kernel
theorem dX3_doStatement_157 : decode M_X3_doStatement.2.1 157 = .ok (.getfield 16, 3) := by decide +kernel
theorem dX3_doStatement_160 : decode M_X3_doStatement.2.1 160 = .ok (.iload_n 3, 1) := by decide +kernel
theorem dX3_doStatement_161 : decode M_X3_doStatement.2.1 161 = .ok (.aload_n 1, 1) := by decide +kernel
theorem dX3_doStatement_162 : decode M_X3_doStatement.2.1 162 = .ok (.iload_n 2, 1) := by decide +kernel
theorem dX3_doStatement_163 : decode M_X3_doStatement.2.1 163 = .ok (.iconst 2, 1) := by decide +kernel
theorem dX3_doStatement_164 : decode M_X3_doStatement.2.1 164 = .ok (.iadd, 1) := by decide +kernel
theorem dX3_doStatement_165 : decode M_X3_doStatement.2.1 165 = .ok (.iconst 1, 1) := by decide +kernel
theorem dX3_doStatement_166 : decode M_X3_doStatement.2.1 166 = .ok (.invokevirtual 352, 3) := by decide +kernel
theorem dX3_doStatement_169 : decode M_X3_doStatement.2.1 169 = .ok (.invokevirtual 129, 3) := by decide +kernel
theorem dX3_doStatement_172 : decode M_X3_doStatement.2.1 172 = .ok (.invokestatic 355, 3) := by decide +kernel
theorem dX3_doStatement_175 : decode M_X3_doStatement.2.1 175 = .ok (.ifCond .eq 51, 3) := by decide +kernel
theorem dX3_doStatement_178 : decode M_X3_doStatement.2.1 178 = .ok (.aload_n 0, 1) := by decide +kernel
theorem dX3_doStatement_179 : decode M_X3_doStatement.2.1 179 = .ok (.getfield 16, 3) := by decide +kernel
theorem dX3_doStatement_182 : decode M_X3_doStatement.2.1 182 = .ok (.iload_n 3, 1) := by decide +kernel
theorem dX3_doStatement_183 : decode M_X3_doStatement.2.1 183 = .ok (.aload_n 1, 1) := by decide +kernel
theorem dX3_doStatement_184 : decode M_X3_doStatement.2.1 184 = .ok (.iload_n 2, 1) := by decide +kernel
theorem dX3_doStatement_185 : decode M_X3_doStatement.2.1 185 = .ok (.iconst 3, 1) := by decide +kernel
theorem dX3_doStatement_186 : decode M_X3_doStatement.2.1 186 = .ok (.iadd, 1) := by decide +kernel
theorem dX3_doStatement_187 : decode M_X3_doStatement.2.1 187 = .ok (.iconst 2, 1) := by decide +kernel
theorem dX3_doStatement_188 : decode M_X3_doStatement.2.1 188 = .ok (.invokevirtual 352, 3) := by decide +kernel
theorem dX3_doStatement_191 : decode M_X3_doStatement.2.1 191 = .ok (.invokevirtual 120, 3) := by decide +kernel
theorem dX3_doStatement_194 : decode M_X3_doStatement.2.1 194 = .ok (.invokestatic 355, 3) := by decide +kernel
theorem dX3_doStatement_197 : decode M_X3_doStatement.2.1 197 = .ok (.ifCond .eq 29, 3) := by decide +kernel
theorem dX3_doStatement_200 : decode M_X3_doStatement.2.1 200 = .ok (.aload_n 0, 1) := by decide +kernel
theorem dX3_doStatement_201 : decode M_X3_doStatement.2.1 201 = .ok (.getfield 16, 3) := by decide +kernel
theorem dX3_doStatement_204 : decode M_X3_doStatement.2.1 204 = .ok (.iload_n 3, 1) := by decide +kernel
theorem dX3_doStatement_205 : decode M_X3_doStatement.2.1 205 = .ok (.aload_n 1, 1) := by decide +kernel
theorem dX3_doStatement_206 : decode M_X3_doStatement.2.1 206 = .ok (.iload_n 2, 1) := by decide +kernel
theorem dX3_doStatement_207 : decode M_X3_doStatement.2.1 207 = .ok (.iconst 5, 1) := by decide +kernel
theorem dX3_doStatement_208 : decode M_X3_doStatement.2.1 208 = .ok (.iadd, 1) := by decide +kernel
theorem dX3_doStatement_209 : decode M_X3_doStatement.2.1 209 = .ok (.iconst 3, 1) := by decide +kernel
theorem dX3_doStatement_210 : decode M_X3_doStatement.2.1 210 = .ok (.invokevirtual 352, 3) := by decide +kernel
theorem dX3_doStatement_213 : decode M_X3_doStatement.2.1 213 = .ok (.invokevirtual 132, 3) := by decide +kernel
theorem dX3_doStatement_216 : decode M_X3_doStatement.2.1 216 = .ok (.invokestatic 355, 3) := by decide +kernel
theorem dX3_doStatement_219 : decode M_X3_doStatement.2.1 219 = .ok (.ifCond .eq 7, 3) := by decide +kernel
theorem dX3_doStatement_222 : decode M_X3_doStatement.2.1 222 = .ok (.iconst 1, 1) := by decide +kernel
theorem dX3_doStatement_223 : decode M_X3_doStatement.2.1 223 = .ok (.goto 4, 3) := by decide +kernel
theorem dX3_doStatement_226 : decode M_X3_doStatement.2.1 226 = .ok (.iconst 0, 1) := by decide +kernel
theorem dX3_doStatement_227 : decode M_X3_doStatement.2.1 227 = .ok (.ireturn, 1) := by decide +kernel
theorem dX3_doStatement_228 : decode M_X3_doStatement.2.1 228 = .ok (.aload_n 0, 1) := by decide +kernel
theorem dX3_doStatement_229 : decode M_X3_doStatement.2.1 229 = .ok (.getfield 16, 3) := by decide +kernel
theorem dX3_doStatement_232 : decode M_X3_doStatement.2.1 232 = .ok (.iload_n 3, 1) := by decide +kernel
theorem dX3_doStatement_233 : decode M_X3_doStatement.2.1 233 = .ok (.aload_n 1, 1) := by decide +kernel
theorem dX3_doStatement_234 : decode M_X3_doStatement.2.1 234 = .ok (.iload_n 2, 1) := by decide +kernel
theorem dX3_doStatement_235 : decode M_X3_doStatement.2.1 235 = .ok (.iconst 2, 1) := by decide +kernel
theorem dX3_doStatement_236 : decode M_X3_doStatement.2.1 236 = .ok (.iadd, 1) := by decide +kernel
theorem dX3_doStatement_237 : decode M_X3_doStatement.2.1 237 = .ok (.iconst 1, 1) := by decide +kernel
theorem dX3_doStatement_238 : decode M_X3_doStatement.2.1 238 = .ok (.invokevirtual 352, 3) := by decide +kernel
theorem dX3_doStatement_241 : decode M_X3_doStatement.2.1 241 = .ok (.invokevirtual 123, 3) := by decide +kernel
theorem dX3_doStatement_244 : decode M_X3_doStatement.2.1 244 = .ok (.invokestatic 355, 3) := by decide +kernel
theorem dX3_doStatement_247 : decode M_X3_doStatement.2.1 247 = .ok (.ireturn, 1) := by decide +kernel
theorem dX3_doStatement_248 : decode M_X3_doStatement.2.1 248 = .ok (.aload_n 0, 1) := by decide +kernel
theorem dX3_doStatement_249 : decode M_X3_doStatement.2.1 249 = .ok (.getfield 16, 3) := by decide +kernel
theorem dX3_doStatement_252 : decode M_X3_doStatement.2.1 252 = .ok (.iload_n 3, 1) := by decide +kernel
theorem dX3_doStatement_253 : decode M_X3_doStatement.2.1 253 = .ok (.invokevirtual 126, 3) := by decide +kernel
theorem dX3_doStatement_256 : decode M_X3_doStatement.2.1 256 = .ok (.invokestatic 355, 3) := by decide +kernel
theorem dX3_doStatement_259 : decode M_X3_doStatement.2.1 259 = .ok (.ireturn, 1) := by decide +kernel
theorem dX3_doStatement_260 : decode M_X3_doStatement.2.1 260 = .ok (.aload_n 0, 1) := by decide +kernel
theorem dX3_doStatement_261 : decode M_X3_doStatement.2.1 261 = .ok (.getfield 16, 3) := by decide +kernel
theorem dX3_doStatement_264 : decode M_X3_doStatement.2.1 264 = .ok (.aload_n 1, 1) := by decide +kernel
theorem dX3_doStatement_265 : decode M_X3_doStatement.2.1 265 = .ok (.iload_n 2, 1) := by decide +kernel
theorem dX3_doStatement_266 : decode M_X3_doStatement.2.1 266 = .ok (.iconst 1, 1) := by decide +kernel
theorem dX3_doStatement_267 : decode M_X3_doStatement.2.1 267 = .ok (.iadd, 1) := by decide +kernel
theorem dX3_doStatement_268 : decode M_X3_doStatement.2.1 268 = .ok (.iconst 2, 1) := by decide +kernel
theorem dX3_doStatement_269 : decode M_X3_doStatement.2.1 269 = .ok (.invokevirtual 352, 3) := by decide +kernel
theorem dX3_doStatement_272 : decode M_X3_doStatement.2.1 272 = .ok (.invokevirtual 135, 3) := by decide +kernel
theorem dX3_doStatement_275 : decode M_X3_doStatement.2.1 275 = .ok (.invokestatic 355, 3) := by decide +kernel
theorem dX3_doStatement_278 : decode M_X3_doStatement.2.1 278 = .ok (.ireturn, 1) := by decide +kernel
theorem dX3_doStatement_279 : decode M_X3_doStatement.2.1 279 = .ok (.iconst 0, 1) := by decide +kernel
theorem dX3_doStatement_280 : decode M_X3_doStatement.2.1 280 = .ok (.ireturn, 1) := by decide +kernel
theorem hv_X3_352 : a_okV RX3 M_X1_number 352 := ⟨a_in 253 (by decide +kernel) rfl, a_in 254 (by decide +kernel) rfl, a_in 255 (by decide +kernel) rfl⟩
theorem hv_X3_113 : a_okV RX3 M_X0_addBeast 113 := ⟨a_in 258 (by decide +kernel) rfl, a_in 259 (by decide +kernel) rfl, a_in 260 (by decide +kernel) rfl⟩
theorem ht_X3_355 : a_okS RX3 M_X3_done 355 := ⟨a_in 271 (by decide +kernel) rfl, a_in 272 (by decide +kernel) rfl⟩
theorem hv_X3_123 : a_okV RX3 M_X0_callBeast 123 := ⟨a_in 302 (by decide +kernel) rfl, a_in 303 (by decide +kernel) rfl, a_in 304 (by decide +kernel) rfl⟩
theorem hv_X3_135 : a_okV RX3 M_X0_goDays 135 := ⟨a_in 310 (by decide +kernel) rfl, a_in 311 (by decide +kernel) rfl, a_in 312 (by decide +kernel) rfl⟩
theorem hv_X3_117 : a_okV RX3 M_X0_moveBeast 117 := ⟨a_in 274 (by decide +kernel) rfl, a_in 275 (by decide +kernel) rfl, a_in 276 (by decide +kernel) rfl⟩
theorem hv_X3_129 : a_okV RX3 M_X0_changeTongue 129 := ⟨a_in 287 (by decide +kernel) rfl, a_in 288 (by decide +kernel) rfl, a_in 289 (by decide +kernel) rfl⟩
theorem hv_X3_120 : a_okV RX3 M_X0_movePerson 120 := ⟨a_in 294 (by decide +kernel) rfl, a_in 295 (by decide +kernel) rfl, a_in 296 (by decide +kernel) rfl⟩
theorem hv_X3_132 : a_okV RX3 M_X0_changeMeans 132 := ⟨a_in 298 (by decide +kernel) rfl, a_in 299 (by decide +kernel) rfl, a_in 300 (by decide +kernel) rfl⟩
theorem hv_X3_126 : a_okV RX3 M_X0_freeBeast 126 := ⟨a_in 306 (by decide +kernel) rfl, a_in 307 (by decide +kernel) rfl, a_in 308 (by decide +kernel) rfl⟩
def f_X3_doStatement (a0 : Nat) (a1 : Nat) (a2 : Int32) (w : aW) : Option (Int32 × aW) :=
  cV 1 w a1 (bk (f_X1_number a1 (a2 + (1 : Int32)) (1 : Int32) w) fun x2 w1 =>
  cV 1 w1 a1 (bk (f_X1_at a1 a2 w1) fun x4 w3 =>
  if x4 = (98 : Int32) then
    (gR 2 w3 a0 1).bind fun r6 =>
    cV 1 w3 a1 (bk (f_X1_number a1 (a2 + (2 : Int32)) (1 : Int32) w3) fun x8 w7 =>
    cV 1 w7 a1 (bk (f_X1_number a1 (a2 + (3 : Int32)) (2 : Int32) w7) fun x10 w9 =>
    cV 0 w9 r6 (bk (f_X0_addBeast r6 x2 x8 x10 w9) fun x12 w11 =>
    bk (f_X3_done x12 w11) fun x14 w13 =>
    if ¬ (x14 = 0 ∨ x14 = 1) then none else some (x14, w13))))
  else
    if x4 = (99 : Int32) then
      (gR 2 w3 a0 1).bind fun r17 =>
      cV 1 w3 a1 (bk (f_X1_number a1 (a2 + (2 : Int32)) (1 : Int32) w3) fun x19 w18 =>
      cV 0 w18 r17 (bk (f_X0_callBeast r17 x2 x19 w18) fun x21 w20 =>
      bk (f_X3_done x21 w20) fun x23 w22 =>
      if ¬ (x23 = 0 ∨ x23 = 1) then none else some (x23, w22)))
    else
      if x4 = (100 : Int32) then
        (gR 2 w3 a0 1).bind fun r26 =>
        cV 1 w3 a1 (bk (f_X1_number a1 (a2 + (1 : Int32)) (2 : Int32) w3) fun x28 w27 =>
        cV 0 w27 r26 (bk (f_X0_goDays r26 x28 w27) fun x30 w29 =>
        bk (f_X3_done x30 w29) fun x32 w31 =>
        if ¬ (x32 = 0 ∨ x32 = 1) then none else some (x32, w31)))
      else
        if x4 = (101 : Int32) then
          some ((0 : Int32), w3)
        else
          if x4 = (102 : Int32) then
            some ((0 : Int32), w3)
          else
            if x4 = (103 : Int32) then
              (gR 2 w3 a0 1).bind fun r37 =>
              cV 1 w3 a1 (bk (f_X1_number a1 (a2 + (2 : Int32)) (2 : Int32) w3) fun x39 w38 =>
              cV 0 w38 r37 (bk (f_X0_moveBeast r37 x2 x39 w38) fun x41 w40 =>
              bk (f_X3_done x41 w40) fun x43 w42 =>
              if ¬ (x43 = 0 ∨ x43 = 1) then none else some (x43, w42)))
            else
              if x4 = (104 : Int32) then
                some ((0 : Int32), w3)
              else
                if x4 = (105 : Int32) then
                  some ((0 : Int32), w3)
                else
                  if x4 = (106 : Int32) then
                    some ((0 : Int32), w3)
                  else
                    if x4 = (107 : Int32) then
                      some ((0 : Int32), w3)
                    else
                      if x4 = (108 : Int32) then
                        some ((0 : Int32), w3)
                      else
                        if x4 = (109 : Int32) then
                          some ((0 : Int32), w3)
                        else
                          if x4 = (110 : Int32) then
                            some ((0 : Int32), w3)
                          else
                            if x4 = (111 : Int32) then
                              some ((0 : Int32), w3)
                            else
                              if x4 = (112 : Int32) then
                                (gR 2 w3 a0 1).bind fun r54 =>
                                cV 1 w3 a1 (bk (f_X1_number a1 (a2 + (2 : Int32)) (1 : Int32) w3) fun x56 w55 =>
                                cV 0 w55 r54 (bk (f_X0_changeTongue r54 x2 x56 w55) fun x58 w57 =>
                                bk (f_X3_done x58 w57) fun x60 w59 =>
                                if x60 = (0 : Int32) then
                                  some ((0 : Int32), w59)
                                else
                                  (gR 2 w59 a0 1).bind fun r61 =>
                                  cV 1 w59 a1 (bk (f_X1_number a1 (a2 + (3 : Int32)) (2 : Int32) w59) fun x63 w62 =>
                                  cV 0 w62 r61 (bk (f_X0_movePerson r61 x2 x63 w62) fun x65 w64 =>
                                  bk (f_X3_done x65 w64) fun x67 w66 =>
                                  if x67 = (0 : Int32) then
                                    some ((0 : Int32), w66)
                                  else
                                    (gR 2 w66 a0 1).bind fun r68 =>
                                    cV 1 w66 a1 (bk (f_X1_number a1 (a2 + (5 : Int32)) (3 : Int32) w66) fun x70 w69 =>
                                    cV 0 w69 r68 (bk (f_X0_changeMeans r68 x2 x70 w69) fun x72 w71 =>
                                    bk (f_X3_done x72 w71) fun x74 w73 =>
                                    if x74 = (0 : Int32) then
                                      some ((0 : Int32), w73)
                                    else
                                      some ((1 : Int32), w73)))))))
                              else
                                if x4 = (113 : Int32) then
                                  some ((0 : Int32), w3)
                                else
                                  if x4 = (114 : Int32) then
                                    some ((0 : Int32), w3)
                                  else
                                    if x4 = (115 : Int32) then
                                      some ((0 : Int32), w3)
                                    else
                                      if x4 = (116 : Int32) then
                                        some ((0 : Int32), w3)
                                      else
                                        if x4 = (117 : Int32) then
                                          (gR 2 w3 a0 1).bind fun r80 =>
                                          cV 0 w3 r80 (bk (f_X0_freeBeast r80 x2 w3) fun x82 w81 =>
                                          bk (f_X3_done x82 w81) fun x84 w83 =>
                                          if ¬ (x84 = 0 ∨ x84 = 1) then none else some (x84, w83))
                                        else
                                          some ((0 : Int32), w3)))
theorem s_X3_doStatement (a0 : Nat) (a1 : Nat) (a2 : Int32) (w : aW) : Sp rvI M_X3_doStatement [.ref a0, .ref a1, .int a2] w (f_X3_doStatement a0 a1 a2 w) := by
  refine e_entry [some (.ref a0), some (.ref a1), some (.int a2), none] (by decide +kernel) (Nat.le_of_ble_eq_true rfl) (fun _ => rfl) ?_
  unfold f_X3_doStatement
  refine e_aload_n (pc := 0) dX3_doStatement_0 rfl rfl ?_
  refine e_iload_n (pc := 1) dX3_doStatement_1 rfl rfl ?_
  refine e_iconst (pc := 2) dX3_doStatement_2 kc_1 ?_
  refine e_iadd (pc := 3) dX3_doStatement_3 ?_
  refine e_iconst (pc := 4) dX3_doStatement_4 kc_1 ?_
  refine e_callV (pc := 5) (av := [.int (a2 + (1 : Int32)), .int (1 : Int32)]) (S := []) (c0 := 1) rfl rfl ok_X1_number ⟨Nat.le_of_ble_eq_true rfl, Nat.le_of_ble_eq_true rfl⟩ hv_X3_352 dX3_doStatement_5 (s_X1_number a1 (a2 + (1 : Int32)) (1 : Int32) w) rfl rfl (Nat.le_of_ble_eq_true rfl) (fun x2 w1 => ?_)
  refine e_istore_n (L' := [some (.ref a0), some (.ref a1), some (.int a2), some (.int x2)]) (pc := 8) dX3_doStatement_8 rfl (by decide) rfl ?_
  refine e_aload_n (pc := 9) dX3_doStatement_9 rfl rfl ?_
  refine e_iload_n (pc := 10) dX3_doStatement_10 rfl rfl ?_
  refine e_callV (pc := 11) (av := [.int a2]) (S := []) (c0 := 1) rfl rfl ok_X1_at ⟨Nat.le_of_ble_eq_true rfl, Nat.le_of_ble_eq_true rfl⟩ hv_X3_66 dX3_doStatement_11 (s_X1_at a1 a2 w1) rfl rfl (Nat.le_of_ble_eq_true rfl) (fun x4 w3 => ?_)
  refine e_ite (fun h5 => ?_) (fun h5 => ?_)
  · refine e_tabIn (pc := 14) (v := 98) (j := 98) (tgt := 108) dX3_doStatement_14 h5 rfl (by decide) (by decide) rfl (by decide) ?_
    refine e_aload_n (pc := 108) dX3_doStatement_108 rfl rfl ?_
    refine e_getR (pc := 109) dX3_doStatement_109 hs_X3_16 (fun r6 => ?_)
    refine e_iload_n (pc := 112) dX3_doStatement_112 rfl rfl ?_
    refine e_aload_n (pc := 113) dX3_doStatement_113 rfl rfl ?_
    refine e_iload_n (pc := 114) dX3_doStatement_114 rfl rfl ?_
    refine e_iconst (pc := 115) dX3_doStatement_115 kc_2 ?_
    refine e_iadd (pc := 116) dX3_doStatement_116 ?_
    refine e_iconst (pc := 117) dX3_doStatement_117 kc_1 ?_
    refine e_callV (pc := 118) (av := [.int (a2 + (2 : Int32)), .int (1 : Int32)]) (S := [.int x2, .ref r6]) (c0 := 1) rfl rfl ok_X1_number ⟨Nat.le_of_ble_eq_true rfl, Nat.le_of_ble_eq_true rfl⟩ hv_X3_352 dX3_doStatement_118 (s_X1_number a1 (a2 + (2 : Int32)) (1 : Int32) w3) rfl rfl (Nat.le_of_ble_eq_true rfl) (fun x8 w7 => ?_)
    refine e_aload_n (pc := 121) dX3_doStatement_121 rfl rfl ?_
    refine e_iload_n (pc := 122) dX3_doStatement_122 rfl rfl ?_
    refine e_iconst (pc := 123) dX3_doStatement_123 kc_3 ?_
    refine e_iadd (pc := 124) dX3_doStatement_124 ?_
    refine e_iconst (pc := 125) dX3_doStatement_125 kc_2 ?_
    refine e_callV (pc := 126) (av := [.int (a2 + (3 : Int32)), .int (2 : Int32)]) (S := [.int x8, .int x2, .ref r6]) (c0 := 1) rfl rfl ok_X1_number ⟨Nat.le_of_ble_eq_true rfl, Nat.le_of_ble_eq_true rfl⟩ hv_X3_352 dX3_doStatement_126 (s_X1_number a1 (a2 + (3 : Int32)) (2 : Int32) w7) rfl rfl (Nat.le_of_ble_eq_true rfl) (fun x10 w9 => ?_)
    refine e_callV (pc := 129) (av := [.int x2, .int x8, .int x10]) (S := []) (c0 := 0) rfl rfl ok_X0_addBeast ⟨Nat.le_of_ble_eq_true rfl, Nat.le_of_ble_eq_true rfl⟩ hv_X3_113 dX3_doStatement_129 (s_X0_addBeast r6 x2 x8 x10 w9) rfl rfl (Nat.le_of_ble_eq_true rfl) (fun x12 w11 => ?_)
    refine e_callS (pc := 132) (av := [.int x12]) (S := []) ok_X3_done ⟨Nat.le_of_ble_eq_true rfl, Nat.le_of_ble_eq_true rfl⟩ ht_X3_355 dX3_doStatement_132 (s_X3_done x12 w11) rfl rfl (Nat.le_of_ble_eq_true rfl) (fun x14 w13 => ?_)
    refine e_chk (fun h15 => ?_)
    exact e_iret (pc := 135) dX3_doStatement_135 rfl (a_nb (Decidable.not_not.mp h15))
  · refine e_ite (fun h16 => ?_) (fun h16 => ?_)
    · refine e_tabIn (pc := 14) (v := 99) (j := 99) (tgt := 228) dX3_doStatement_14 h16 rfl (by decide) (by decide) rfl (by decide) ?_
      refine e_aload_n (pc := 228) dX3_doStatement_228 rfl rfl ?_
      refine e_getR (pc := 229) dX3_doStatement_229 hs_X3_16 (fun r17 => ?_)
      refine e_iload_n (pc := 232) dX3_doStatement_232 rfl rfl ?_
      refine e_aload_n (pc := 233) dX3_doStatement_233 rfl rfl ?_
      refine e_iload_n (pc := 234) dX3_doStatement_234 rfl rfl ?_
      refine e_iconst (pc := 235) dX3_doStatement_235 kc_2 ?_
      refine e_iadd (pc := 236) dX3_doStatement_236 ?_
      refine e_iconst (pc := 237) dX3_doStatement_237 kc_1 ?_
      refine e_callV (pc := 238) (av := [.int (a2 + (2 : Int32)), .int (1 : Int32)]) (S := [.int x2, .ref r17]) (c0 := 1) rfl rfl ok_X1_number ⟨Nat.le_of_ble_eq_true rfl, Nat.le_of_ble_eq_true rfl⟩ hv_X3_352 dX3_doStatement_238 (s_X1_number a1 (a2 + (2 : Int32)) (1 : Int32) w3) rfl rfl (Nat.le_of_ble_eq_true rfl) (fun x19 w18 => ?_)
      refine e_callV (pc := 241) (av := [.int x2, .int x19]) (S := []) (c0 := 0) rfl rfl ok_X0_callBeast ⟨Nat.le_of_ble_eq_true rfl, Nat.le_of_ble_eq_true rfl⟩ hv_X3_123 dX3_doStatement_241 (s_X0_callBeast r17 x2 x19 w18) rfl rfl (Nat.le_of_ble_eq_true rfl) (fun x21 w20 => ?_)
      refine e_callS (pc := 244) (av := [.int x21]) (S := []) ok_X3_done ⟨Nat.le_of_ble_eq_true rfl, Nat.le_of_ble_eq_true rfl⟩ ht_X3_355 dX3_doStatement_244 (s_X3_done x21 w20) rfl rfl (Nat.le_of_ble_eq_true rfl) (fun x23 w22 => ?_)
      refine e_chk (fun h24 => ?_)
      exact e_iret (pc := 247) dX3_doStatement_247 rfl (a_nb (Decidable.not_not.mp h24))
    · refine e_ite (fun h25 => ?_) (fun h25 => ?_)
      · refine e_tabIn (pc := 14) (v := 100) (j := 100) (tgt := 260) dX3_doStatement_14 h25 rfl (by decide) (by decide) rfl (by decide) ?_
        refine e_aload_n (pc := 260) dX3_doStatement_260 rfl rfl ?_
        refine e_getR (pc := 261) dX3_doStatement_261 hs_X3_16 (fun r26 => ?_)
        refine e_aload_n (pc := 264) dX3_doStatement_264 rfl rfl ?_
        refine e_iload_n (pc := 265) dX3_doStatement_265 rfl rfl ?_
        refine e_iconst (pc := 266) dX3_doStatement_266 kc_1 ?_
        refine e_iadd (pc := 267) dX3_doStatement_267 ?_
        refine e_iconst (pc := 268) dX3_doStatement_268 kc_2 ?_
        refine e_callV (pc := 269) (av := [.int (a2 + (1 : Int32)), .int (2 : Int32)]) (S := [.ref r26]) (c0 := 1) rfl rfl ok_X1_number ⟨Nat.le_of_ble_eq_true rfl, Nat.le_of_ble_eq_true rfl⟩ hv_X3_352 dX3_doStatement_269 (s_X1_number a1 (a2 + (1 : Int32)) (2 : Int32) w3) rfl rfl (Nat.le_of_ble_eq_true rfl) (fun x28 w27 => ?_)
        refine e_callV (pc := 272) (av := [.int x28]) (S := []) (c0 := 0) rfl rfl ok_X0_goDays ⟨Nat.le_of_ble_eq_true rfl, Nat.le_of_ble_eq_true rfl⟩ hv_X3_135 dX3_doStatement_272 (s_X0_goDays r26 x28 w27) rfl rfl (Nat.le_of_ble_eq_true rfl) (fun x30 w29 => ?_)
        refine e_callS (pc := 275) (av := [.int x30]) (S := []) ok_X3_done ⟨Nat.le_of_ble_eq_true rfl, Nat.le_of_ble_eq_true rfl⟩ ht_X3_355 dX3_doStatement_275 (s_X3_done x30 w29) rfl rfl (Nat.le_of_ble_eq_true rfl) (fun x32 w31 => ?_)
        refine e_chk (fun h33 => ?_)
        exact e_iret (pc := 278) dX3_doStatement_278 rfl (a_nb (Decidable.not_not.mp h33))
      · refine e_ite (fun h34 => ?_) (fun h34 => ?_)
        · refine e_tabIn (pc := 14) (v := 101) (j := 101) (tgt := 279) dX3_doStatement_14 h34 rfl (by decide) (by decide) rfl (by decide) ?_
          refine e_iconst (pc := 279) dX3_doStatement_279 kc_0 ?_
          exact e_iret (pc := 280) dX3_doStatement_280 rfl (a_nb (by decide))
        · refine e_ite (fun h35 => ?_) (fun h35 => ?_)
          · refine e_tabIn (pc := 14) (v := 102) (j := 102) (tgt := 279) dX3_doStatement_14 h35 rfl (by decide) (by decide) rfl (by decide) ?_
            refine e_iconst (pc := 279) dX3_doStatement_279 kc_0 ?_
            exact e_iret (pc := 280) dX3_doStatement_280 rfl (a_nb (by decide))
          · refine e_ite (fun h36 => ?_) (fun h36 => ?_)
            · refine e_tabIn (pc := 14) (v := 103) (j := 103) (tgt := 136) dX3_doStatement_14 h36 rfl (by decide) (by decide) rfl (by decide) ?_
              refine e_aload_n (pc := 136) dX3_doStatement_136 rfl rfl ?_
              refine e_getR (pc := 137) dX3_doStatement_137 hs_X3_16 (fun r37 => ?_)
              refine e_iload_n (pc := 140) dX3_doStatement_140 rfl rfl ?_
              refine e_aload_n (pc := 141) dX3_doStatement_141 rfl rfl ?_
              refine e_iload_n (pc := 142) dX3_doStatement_142 rfl rfl ?_
              refine e_iconst (pc := 143) dX3_doStatement_143 kc_2 ?_
              refine e_iadd (pc := 144) dX3_doStatement_144 ?_
              refine e_iconst (pc := 145) dX3_doStatement_145 kc_2 ?_
              refine e_callV (pc := 146) (av := [.int (a2 + (2 : Int32)), .int (2 : Int32)]) (S := [.int x2, .ref r37]) (c0 := 1) rfl rfl ok_X1_number ⟨Nat.le_of_ble_eq_true rfl, Nat.le_of_ble_eq_true rfl⟩ hv_X3_352 dX3_doStatement_146 (s_X1_number a1 (a2 + (2 : Int32)) (2 : Int32) w3) rfl rfl (Nat.le_of_ble_eq_true rfl) (fun x39 w38 => ?_)
              refine e_callV (pc := 149) (av := [.int x2, .int x39]) (S := []) (c0 := 0) rfl rfl ok_X0_moveBeast ⟨Nat.le_of_ble_eq_true rfl, Nat.le_of_ble_eq_true rfl⟩ hv_X3_117 dX3_doStatement_149 (s_X0_moveBeast r37 x2 x39 w38) rfl rfl (Nat.le_of_ble_eq_true rfl) (fun x41 w40 => ?_)
              refine e_callS (pc := 152) (av := [.int x41]) (S := []) ok_X3_done ⟨Nat.le_of_ble_eq_true rfl, Nat.le_of_ble_eq_true rfl⟩ ht_X3_355 dX3_doStatement_152 (s_X3_done x41 w40) rfl rfl (Nat.le_of_ble_eq_true rfl) (fun x43 w42 => ?_)
              refine e_chk (fun h44 => ?_)
              exact e_iret (pc := 155) dX3_doStatement_155 rfl (a_nb (Decidable.not_not.mp h44))
            · refine e_ite (fun h45 => ?_) (fun h45 => ?_)
              · refine e_tabIn (pc := 14) (v := 104) (j := 104) (tgt := 279) dX3_doStatement_14 h45 rfl (by decide) (by decide) rfl (by decide) ?_
                refine e_iconst (pc := 279) dX3_doStatement_279 kc_0 ?_
                exact e_iret (pc := 280) dX3_doStatement_280 rfl (a_nb (by decide))
              · refine e_ite (fun h46 => ?_) (fun h46 => ?_)
                · refine e_tabIn (pc := 14) (v := 105) (j := 105) (tgt := 279) dX3_doStatement_14 h46 rfl (by decide) (by decide) rfl (by decide) ?_
                  refine e_iconst (pc := 279) dX3_doStatement_279 kc_0 ?_
                  exact e_iret (pc := 280) dX3_doStatement_280 rfl (a_nb (by decide))
                · refine e_ite (fun h47 => ?_) (fun h47 => ?_)
                  · refine e_tabIn (pc := 14) (v := 106) (j := 106) (tgt := 279) dX3_doStatement_14 h47 rfl (by decide) (by decide) rfl (by decide) ?_
                    refine e_iconst (pc := 279) dX3_doStatement_279 kc_0 ?_
                    exact e_iret (pc := 280) dX3_doStatement_280 rfl (a_nb (by decide))
                  · refine e_ite (fun h48 => ?_) (fun h48 => ?_)
                    · refine e_tabIn (pc := 14) (v := 107) (j := 107) (tgt := 279) dX3_doStatement_14 h48 rfl (by decide) (by decide) rfl (by decide) ?_
                      refine e_iconst (pc := 279) dX3_doStatement_279 kc_0 ?_
                      exact e_iret (pc := 280) dX3_doStatement_280 rfl (a_nb (by decide))
                    · refine e_ite (fun h49 => ?_) (fun h49 => ?_)
                      · refine e_tabIn (pc := 14) (v := 108) (j := 108) (tgt := 279) dX3_doStatement_14 h49 rfl (by decide) (by decide) rfl (by decide) ?_
                        refine e_iconst (pc := 279) dX3_doStatement_279 kc_0 ?_
                        exact e_iret (pc := 280) dX3_doStatement_280 rfl (a_nb (by decide))
                      · refine e_ite (fun h50 => ?_) (fun h50 => ?_)
                        · refine e_tabIn (pc := 14) (v := 109) (j := 109) (tgt := 279) dX3_doStatement_14 h50 rfl (by decide) (by decide) rfl (by decide) ?_
                          refine e_iconst (pc := 279) dX3_doStatement_279 kc_0 ?_
                          exact e_iret (pc := 280) dX3_doStatement_280 rfl (a_nb (by decide))
                        · refine e_ite (fun h51 => ?_) (fun h51 => ?_)
                          · refine e_tabIn (pc := 14) (v := 110) (j := 110) (tgt := 279) dX3_doStatement_14 h51 rfl (by decide) (by decide) rfl (by decide) ?_
                            refine e_iconst (pc := 279) dX3_doStatement_279 kc_0 ?_
                            exact e_iret (pc := 280) dX3_doStatement_280 rfl (a_nb (by decide))
                          · refine e_ite (fun h52 => ?_) (fun h52 => ?_)
                            · refine e_tabIn (pc := 14) (v := 111) (j := 111) (tgt := 279) dX3_doStatement_14 h52 rfl (by decide) (by decide) rfl (by decide) ?_
                              refine e_iconst (pc := 279) dX3_doStatement_279 kc_0 ?_
                              exact e_iret (pc := 280) dX3_doStatement_280 rfl (a_nb (by decide))
                            · refine e_ite (fun h53 => ?_) (fun h53 => ?_)
                              · refine e_tabIn (pc := 14) (v := 112) (j := 112) (tgt := 156) dX3_doStatement_14 h53 rfl (by decide) (by decide) rfl (by decide) ?_
                                refine e_aload_n (pc := 156) dX3_doStatement_156 rfl rfl ?_
                                refine e_getR (pc := 157) dX3_doStatement_157 hs_X3_16 (fun r54 => ?_)
                                refine e_iload_n (pc := 160) dX3_doStatement_160 rfl rfl ?_
                                refine e_aload_n (pc := 161) dX3_doStatement_161 rfl rfl ?_
                                refine e_iload_n (pc := 162) dX3_doStatement_162 rfl rfl ?_
                                refine e_iconst (pc := 163) dX3_doStatement_163 kc_2 ?_
                                refine e_iadd (pc := 164) dX3_doStatement_164 ?_
                                refine e_iconst (pc := 165) dX3_doStatement_165 kc_1 ?_
                                refine e_callV (pc := 166) (av := [.int (a2 + (2 : Int32)), .int (1 : Int32)]) (S := [.int x2, .ref r54]) (c0 := 1) rfl rfl ok_X1_number ⟨Nat.le_of_ble_eq_true rfl, Nat.le_of_ble_eq_true rfl⟩ hv_X3_352 dX3_doStatement_166 (s_X1_number a1 (a2 + (2 : Int32)) (1 : Int32) w3) rfl rfl (Nat.le_of_ble_eq_true rfl) (fun x56 w55 => ?_)
                                refine e_callV (pc := 169) (av := [.int x2, .int x56]) (S := []) (c0 := 0) rfl rfl ok_X0_changeTongue ⟨Nat.le_of_ble_eq_true rfl, Nat.le_of_ble_eq_true rfl⟩ hv_X3_129 dX3_doStatement_169 (s_X0_changeTongue r54 x2 x56 w55) rfl rfl (Nat.le_of_ble_eq_true rfl) (fun x58 w57 => ?_)
                                refine e_callS (pc := 172) (av := [.int x58]) (S := []) ok_X3_done ⟨Nat.le_of_ble_eq_true rfl, Nat.le_of_ble_eq_true rfl⟩ ht_X3_355 dX3_doStatement_172 (s_X3_done x58 w57) rfl rfl (Nat.le_of_ble_eq_true rfl) (fun x60 w59 => ?_)
                                refine e_if_eq (pc := 175) (tgt := 226) dX3_doStatement_175 (by decide) (fun _ => ?_) (fun _ => ?_)
                                · refine e_iconst (pc := 226) dX3_doStatement_226 kc_0 ?_
                                  exact e_iret (pc := 227) dX3_doStatement_227 rfl (a_nb (by decide))
                                · refine e_aload_n (pc := 178) dX3_doStatement_178 rfl rfl ?_
                                  refine e_getR (pc := 179) dX3_doStatement_179 hs_X3_16 (fun r61 => ?_)
                                  refine e_iload_n (pc := 182) dX3_doStatement_182 rfl rfl ?_
                                  refine e_aload_n (pc := 183) dX3_doStatement_183 rfl rfl ?_
                                  refine e_iload_n (pc := 184) dX3_doStatement_184 rfl rfl ?_
                                  refine e_iconst (pc := 185) dX3_doStatement_185 kc_3 ?_
                                  refine e_iadd (pc := 186) dX3_doStatement_186 ?_
                                  refine e_iconst (pc := 187) dX3_doStatement_187 kc_2 ?_
                                  refine e_callV (pc := 188) (av := [.int (a2 + (3 : Int32)), .int (2 : Int32)]) (S := [.int x2, .ref r61]) (c0 := 1) rfl rfl ok_X1_number ⟨Nat.le_of_ble_eq_true rfl, Nat.le_of_ble_eq_true rfl⟩ hv_X3_352 dX3_doStatement_188 (s_X1_number a1 (a2 + (3 : Int32)) (2 : Int32) w59) rfl rfl (Nat.le_of_ble_eq_true rfl) (fun x63 w62 => ?_)
                                  refine e_callV (pc := 191) (av := [.int x2, .int x63]) (S := []) (c0 := 0) rfl rfl ok_X0_movePerson ⟨Nat.le_of_ble_eq_true rfl, Nat.le_of_ble_eq_true rfl⟩ hv_X3_120 dX3_doStatement_191 (s_X0_movePerson r61 x2 x63 w62) rfl rfl (Nat.le_of_ble_eq_true rfl) (fun x65 w64 => ?_)
                                  refine e_callS (pc := 194) (av := [.int x65]) (S := []) ok_X3_done ⟨Nat.le_of_ble_eq_true rfl, Nat.le_of_ble_eq_true rfl⟩ ht_X3_355 dX3_doStatement_194 (s_X3_done x65 w64) rfl rfl (Nat.le_of_ble_eq_true rfl) (fun x67 w66 => ?_)
                                  refine e_if_eq (pc := 197) (tgt := 226) dX3_doStatement_197 (by decide) (fun _ => ?_) (fun _ => ?_)
                                  · refine e_iconst (pc := 226) dX3_doStatement_226 kc_0 ?_
                                    exact e_iret (pc := 227) dX3_doStatement_227 rfl (a_nb (by decide))
                                  · refine e_aload_n (pc := 200) dX3_doStatement_200 rfl rfl ?_
                                    refine e_getR (pc := 201) dX3_doStatement_201 hs_X3_16 (fun r68 => ?_)
                                    refine e_iload_n (pc := 204) dX3_doStatement_204 rfl rfl ?_
                                    refine e_aload_n (pc := 205) dX3_doStatement_205 rfl rfl ?_
                                    refine e_iload_n (pc := 206) dX3_doStatement_206 rfl rfl ?_
                                    refine e_iconst (pc := 207) dX3_doStatement_207 kc_5 ?_
                                    refine e_iadd (pc := 208) dX3_doStatement_208 ?_
                                    refine e_iconst (pc := 209) dX3_doStatement_209 kc_3 ?_
                                    refine e_callV (pc := 210) (av := [.int (a2 + (5 : Int32)), .int (3 : Int32)]) (S := [.int x2, .ref r68]) (c0 := 1) rfl rfl ok_X1_number ⟨Nat.le_of_ble_eq_true rfl, Nat.le_of_ble_eq_true rfl⟩ hv_X3_352 dX3_doStatement_210 (s_X1_number a1 (a2 + (5 : Int32)) (3 : Int32) w66) rfl rfl (Nat.le_of_ble_eq_true rfl) (fun x70 w69 => ?_)
                                    refine e_callV (pc := 213) (av := [.int x2, .int x70]) (S := []) (c0 := 0) rfl rfl ok_X0_changeMeans ⟨Nat.le_of_ble_eq_true rfl, Nat.le_of_ble_eq_true rfl⟩ hv_X3_132 dX3_doStatement_213 (s_X0_changeMeans r68 x2 x70 w69) rfl rfl (Nat.le_of_ble_eq_true rfl) (fun x72 w71 => ?_)
                                    refine e_callS (pc := 216) (av := [.int x72]) (S := []) ok_X3_done ⟨Nat.le_of_ble_eq_true rfl, Nat.le_of_ble_eq_true rfl⟩ ht_X3_355 dX3_doStatement_216 (s_X3_done x72 w71) rfl rfl (Nat.le_of_ble_eq_true rfl) (fun x74 w73 => ?_)
                                    refine e_if_eq (pc := 219) (tgt := 226) dX3_doStatement_219 (by decide) (fun _ => ?_) (fun _ => ?_)
                                    · refine e_iconst (pc := 226) dX3_doStatement_226 kc_0 ?_
                                      exact e_iret (pc := 227) dX3_doStatement_227 rfl (a_nb (by decide))
                                    · refine e_iconst (pc := 222) dX3_doStatement_222 kc_1 ?_
                                      refine e_goto (pc := 223) (tgt := 227) dX3_doStatement_223 (by decide) ?_
                                      exact e_iret (pc := 227) dX3_doStatement_227 rfl (a_nb (by decide))
                              · refine e_ite (fun h75 => ?_) (fun h75 => ?_)
                                · refine e_tabIn (pc := 14) (v := 113) (j := 113) (tgt := 279) dX3_doStatement_14 h75 rfl (by decide) (by decide) rfl (by decide) ?_
                                  refine e_iconst (pc := 279) dX3_doStatement_279 kc_0 ?_
                                  exact e_iret (pc := 280) dX3_doStatement_280 rfl (a_nb (by decide))
                                · refine e_ite (fun h76 => ?_) (fun h76 => ?_)
                                  · refine e_tabIn (pc := 14) (v := 114) (j := 114) (tgt := 279) dX3_doStatement_14 h76 rfl (by decide) (by decide) rfl (by decide) ?_
                                    refine e_iconst (pc := 279) dX3_doStatement_279 kc_0 ?_
                                    exact e_iret (pc := 280) dX3_doStatement_280 rfl (a_nb (by decide))
                                  · refine e_ite (fun h77 => ?_) (fun h77 => ?_)
                                    · refine e_tabIn (pc := 14) (v := 115) (j := 115) (tgt := 279) dX3_doStatement_14 h77 rfl (by decide) (by decide) rfl (by decide) ?_
                                      refine e_iconst (pc := 279) dX3_doStatement_279 kc_0 ?_
                                      exact e_iret (pc := 280) dX3_doStatement_280 rfl (a_nb (by decide))
                                    · refine e_ite (fun h78 => ?_) (fun h78 => ?_)
                                      · refine e_tabIn (pc := 14) (v := 116) (j := 116) (tgt := 279) dX3_doStatement_14 h78 rfl (by decide) (by decide) rfl (by decide) ?_
                                        refine e_iconst (pc := 279) dX3_doStatement_279 kc_0 ?_
                                        exact e_iret (pc := 280) dX3_doStatement_280 rfl (a_nb (by decide))
                                      · refine e_ite (fun h79 => ?_) (fun h79 => ?_)
                                        · refine e_tabIn (pc := 14) (v := 117) (j := 117) (tgt := 248) dX3_doStatement_14 h79 rfl (by decide) (by decide) rfl (by decide) ?_
                                          refine e_aload_n (pc := 248) dX3_doStatement_248 rfl rfl ?_
                                          refine e_getR (pc := 249) dX3_doStatement_249 hs_X3_16 (fun r80 => ?_)
                                          refine e_iload_n (pc := 252) dX3_doStatement_252 rfl rfl ?_
                                          refine e_callV (pc := 253) (av := [.int x2]) (S := []) (c0 := 0) rfl rfl ok_X0_freeBeast ⟨Nat.le_of_ble_eq_true rfl, Nat.le_of_ble_eq_true rfl⟩ hv_X3_126 dX3_doStatement_253 (s_X0_freeBeast r80 x2 w3) rfl rfl (Nat.le_of_ble_eq_true rfl) (fun x82 w81 => ?_)
                                          refine e_callS (pc := 256) (av := [.int x82]) (S := []) ok_X3_done ⟨Nat.le_of_ble_eq_true rfl, Nat.le_of_ble_eq_true rfl⟩ ht_X3_355 dX3_doStatement_256 (s_X3_done x82 w81) rfl rfl (Nat.le_of_ble_eq_true rfl) (fun x84 w83 => ?_)
                                          refine e_chk (fun h85 => ?_)
                                          exact e_iret (pc := 259) dX3_doStatement_259 rfl (a_nb (Decidable.not_not.mp h85))
                                        · refine e_tabOut (pc := 14) (tgt := 279) dX3_doStatement_14 (by have z0 := lv_neT h5 (show (98 : Int32).toInt = 98 from rfl); have z1 := lv_neT h16 (show (99 : Int32).toInt = 99 from rfl); have z2 := lv_neT h25 (show (100 : Int32).toInt = 100 from rfl); have z3 := lv_neT h34 (show (101 : Int32).toInt = 101 from rfl); have z4 := lv_neT h35 (show (102 : Int32).toInt = 102 from rfl); have z5 := lv_neT h36 (show (103 : Int32).toInt = 103 from rfl); have z6 := lv_neT h45 (show (104 : Int32).toInt = 104 from rfl); have z7 := lv_neT h46 (show (105 : Int32).toInt = 105 from rfl); have z8 := lv_neT h47 (show (106 : Int32).toInt = 106 from rfl); have z9 := lv_neT h48 (show (107 : Int32).toInt = 107 from rfl); have z10 := lv_neT h49 (show (108 : Int32).toInt = 108 from rfl); have z11 := lv_neT h50 (show (109 : Int32).toInt = 109 from rfl); have z12 := lv_neT h51 (show (110 : Int32).toInt = 110 from rfl); have z13 := lv_neT h52 (show (111 : Int32).toInt = 111 from rfl); have z14 := lv_neT h53 (show (112 : Int32).toInt = 112 from rfl); have z15 := lv_neT h75 (show (113 : Int32).toInt = 113 from rfl); have z16 := lv_neT h76 (show (114 : Int32).toInt = 114 from rfl); have z17 := lv_neT h77 (show (115 : Int32).toInt = 115 from rfl); have z18 := lv_neT h78 (show (116 : Int32).toInt = 116 from rfl); have z19 := lv_neT h79 (show (117 : Int32).toInt = 117 from rfl); omega) (by decide) ?_
                                          refine e_iconst (pc := 279) dX3_doStatement_279 kc_0 ?_
                                          exact e_iret (pc := 280) dX3_doStatement_280 rfl (a_nb (by decide))
def M_X3_mountain : aM := (yX3_mountain, cX3_mountain, 6, (some .int), 6, 136)
theorem ok_X3_mountain : a_okM M_X3_mountain 1 := ⟨⟨by decide +kernel, by decide +kernel⟩, by decide +kernel, a_in 215 (by decide +kernel) rfl, a_in 76 (by decide +kernel) rfl⟩
theorem dX3_mountain_0 : decode M_X3_mountain.2.1 0 = .ok (.aload_n 0, 1) := by decide +kernel
theorem dX3_mountain_1 : decode M_X3_mountain.2.1 1 = .ok (.iload_n 1, 1) := by decide +kernel
theorem dX3_mountain_2 : decode M_X3_mountain.2.1 2 = .ok (.invokevirtual 40, 3) := by decide +kernel
theorem dX3_mountain_5 : decode M_X3_mountain.2.1 5 = .ok (.astore_n 2, 1) := by decide +kernel
theorem dX3_mountain_6 : decode M_X3_mountain.2.1 6 = .ok (.aload_n 2, 1) := by decide +kernel
theorem dX3_mountain_7 : decode M_X3_mountain.2.1 7 = .ok (.ifnonnull 5, 3) := by decide +kernel
theorem dX3_mountain_10 : decode M_X3_mountain.2.1 10 = .ok (.iconst (-1), 1) := by decide +kernel
theorem dX3_mountain_11 : decode M_X3_mountain.2.1 11 = .ok (.ireturn, 1) := by decide +kernel
theorem dX3_mountain_12 : decode M_X3_mountain.2.1 12 = .ok (.aload_n 2, 1) := by decide +kernel
theorem dX3_mountain_13 : decode M_X3_mountain.2.1 13 = .ok (.getfield 44, 3) := by decide +kernel
theorem dX3_mountain_16 : decode M_X3_mountain.2.1 16 = .ok (.ifCond .ne 6, 3) := by decide +kernel
theorem dX3_mountain_19 : decode M_X3_mountain.2.1 19 = .ok (.bipush (-11), 2) := by decide +kernel
theorem dX3_mountain_21 : decode M_X3_mountain.2.1 21 = .ok (.ireturn, 1) := by decide +kernel
theorem dX3_mountain_22 : decode M_X3_mountain.2.1 22 = .ok (.aload_n 2, 1) := by decide +kernel
theorem dX3_mountain_23 : decode M_X3_mountain.2.1 23 = .ok (.invokevirtual 48, 3) := by decide +kernel
theorem dX3_mountain_26 : decode M_X3_mountain.2.1 26 = .ok (.ifCond .ne 6, 3) := by decide +kernel
theorem dX3_mountain_29 : decode M_X3_mountain.2.1 29 = .ok (.bipush (-12), 2) := by decide +kernel
theorem dX3_mountain_31 : decode M_X3_mountain.2.1 31 = .ok (.ireturn, 1) := by decide +kernel
theorem dX3_mountain_32 : decode M_X3_mountain.2.1 32 = .ok (.aload_n 2, 1) := by decide +kernel
theorem dX3_mountain_33 : decode M_X3_mountain.2.1 33 = .ok (.invokestatic 52, 3) := by decide +kernel
theorem dX3_mountain_36 : decode M_X3_mountain.2.1 36 = .ok (.istore_n 3, 1) := by decide +kernel
theorem dX3_mountain_37 : decode M_X3_mountain.2.1 37 = .ok (.iload_n 3, 1) := by decide +kernel
theorem dX3_mountain_38 : decode M_X3_mountain.2.1 38 = .ok (.bipush (-4), 2) := by decide +kernel
theorem dX3_mountain_40 : decode M_X3_mountain.2.1 40 = .ok (.if_icmp .eq 9, 3) := by decide +kernel
theorem dX3_mountain_43 : decode M_X3_mountain.2.1 43 = .ok (.sipush (-1000), 3) := by decide +kernel
theorem dX3_mountain_46 : decode M_X3_mountain.2.1 46 = .ok (.iload_n 3, 1) := by decide +kernel
theorem dX3_mountain_47 : decode M_X3_mountain.2.1 47 = .ok (.isub, 1) := by decide +kernel
theorem dX3_mountain_48 : decode M_X3_mountain.2.1 48 = .ok (.ireturn, 1) := by decide +kernel
theorem dX3_mountain_49 : decode M_X3_mountain.2.1 49 = .ok (.aload_n 0, 1) := by decide +kernel
theorem dX3_mountain_50 : decode M_X3_mountain.2.1 50 = .ok (.invokevirtual 56, 3) := by decide +kernel
theorem dX3_mountain_53 : decode M_X3_mountain.2.1 53 = .ok (.iconst 0, 1) := by decide +kernel
theorem dX3_mountain_54 : decode M_X3_mountain.2.1 54 = .ok (.istore 4, 2) := by decide +kernel
theorem dX3_mountain_56 : decode M_X3_mountain.2.1 56 = .ok (.iconst 0, 1) := by decide +kernel
theorem dX3_mountain_57 : decode M_X3_mountain.2.1 57 = .ok (.istore 5, 2) := by decide +kernel
theorem dX3_mountain_59 : decode M_X3_mountain.2.1 59 = .ok (.iload 5, 2) := by decide +kernel
theorem dX3_mountain_61 : decode M_X3_mountain.2.1 61 = .ok (.aload_n 2, 1) := by decide +kernel
theorem dX3_mountain_62 : decode M_X3_mountain.2.1 62 = .ok (.getfield 59, 3) := by decide +kernel
theorem dX3_mountain_65 : decode M_X3_mountain.2.1 65 = .ok (.if_icmp .ge 46, 3) := by decide +kernel
theorem dX3_mountain_68 : decode M_X3_mountain.2.1 68 = .ok (.aload_n 0, 1) := by decide +kernel
theorem dX3_mountain_69 : decode M_X3_mountain.2.1 69 = .ok (.aload_n 2, 1) := by decide +kernel
theorem dX3_mountain_70 : decode M_X3_mountain.2.1 70 = .ok (.iload 5, 2) := by decide +kernel
theorem dX3_mountain_72 : decode M_X3_mountain.2.1 72 = .ok (.invokevirtual 62, 3) := by decide +kernel
theorem dX3_mountain_75 : decode M_X3_mountain.2.1 75 = .ok (.ifCond .ne 10, 3) := by decide +kernel
theorem dX3_mountain_78 : decode M_X3_mountain.2.1 78 = .ok (.sipush (-2000), 3) := by decide +kernel
theorem dX3_mountain_81 : decode M_X3_mountain.2.1 81 = .ok (.iload 5, 2) := by decide +kernel
theorem dX3_mountain_83 : decode M_X3_mountain.2.1 83 = .ok (.isub, 1) := by decide +kernel
theorem dX3_mountain_84 : decode M_X3_mountain.2.1 84 = .ok (.ireturn, 1) := by decide +kernel
theorem dX3_mountain_85 : decode M_X3_mountain.2.1 85 = .ok (.iinc 4 1, 3) := by decide +kernel
theorem dX3_mountain_88 : decode M_X3_mountain.2.1 88 = .ok (.iload 5, 2) := by decide +kernel
theorem dX3_mountain_90 : decode M_X3_mountain.2.1 90 = .ok (.iconst 2, 1) := by decide +kernel
theorem dX3_mountain_91 : decode M_X3_mountain.2.1 91 = .ok (.iconst 0, 1) := by decide +kernel
theorem dX3_mountain_92 : decode M_X3_mountain.2.1 92 = .ok (.aload_n 2, 1) := by decide +kernel
theorem dX3_mountain_93 : decode M_X3_mountain.2.1 93 = .ok (.iload 5, 2) := by decide +kernel
theorem dX3_mountain_95 : decode M_X3_mountain.2.1 95 = .ok (.invokevirtual 66, 3) := by decide +kernel
theorem dX3_mountain_98 : decode M_X3_mountain.2.1 98 = .ok (.invokestatic 70, 3) := by decide +kernel
theorem dX3_mountain_101 : decode M_X3_mountain.2.1 101 = .ok (.invokestatic 73, 3) := by decide +kernel
theorem dX3_mountain_104 : decode M_X3_mountain.2.1 104 = .ok (.iadd, 1) := by decide +kernel
theorem dX3_mountain_105 : decode M_X3_mountain.2.1 105 = .ok (.iadd, 1) := by decide +kernel
theorem dX3_mountain_106 : decode M_X3_mountain.2.1 106 = .ok (.istore 5, 2) := by decide +kernel
theorem dX3_mountain_108 : decode M_X3_mountain.2.1 108 = .ok (.goto (-49), 3) := by decide +kernel
theorem dX3_mountain_111 : decode M_X3_mountain.2.1 111 = .ok (.aload_n 0, 1) := by decide +kernel
theorem dX3_mountain_112 : decode M_X3_mountain.2.1 112 = .ok (.getfield 10, 3) := by decide +kernel
theorem dX3_mountain_115 : decode M_X3_mountain.2.1 115 = .ok (.aload_n 0, 1) := by decide +kernel
theorem dX3_mountain_116 : decode M_X3_mountain.2.1 116 = .ok (.getfield 16, 3) := by decide +kernel
theorem dX3_mountain_119 : decode M_X3_mountain.2.1 119 = .ok (.invokevirtual 79, 3) := by decide +kernel
theorem dX3_mountain_122 : decode M_X3_mountain.2.1 122 = .ok (.iload 4, 2) := by decide +kernel
theorem dX3_mountain_124 : decode M_X3_mountain.2.1 124 = .ok (.ireturn, 1) := by decide +kernel
theorem hv_X3_40 : a_okV RX3 M_X3_shelfAt 40 := ⟨a_in 216 (by decide +kernel) rfl, a_in 218 (by decide +kernel) rfl, a_in 0 (by decide +kernel) rfl⟩
theorem hs_X3_44 : a_fs RX3 44 1 0 := ⟨RX1, TX1, 6, rfl, tin_X1, by decide, a_in 166 (by decide +kernel) rfl⟩
theorem hv_X3_48 : a_okV RX3 M_X1_holdsBytes 48 := ⟨a_in 223 (by decide +kernel) rfl, a_in 224 (by decide +kernel) rfl, a_in 225 (by decide +kernel) rfl⟩
theorem ht_X3_52 : a_okS RX3 M_X3_firstBadByte 52 := ⟨a_in 227 (by decide +kernel) rfl, a_in 228 (by decide +kernel) rfl⟩
theorem hv_X3_56 : a_okV RX3 M_X3_think 56 := ⟨a_in 238 (by decide +kernel) rfl, a_in 240 (by decide +kernel) rfl, a_in 1 (by decide +kernel) rfl⟩
theorem hv_X3_62 : a_okV RX3 M_X3_doStatement 62 := ⟨a_in 249 (by decide +kernel) rfl, a_in 251 (by decide +kernel) rfl, a_in 2 (by decide +kernel) rfl⟩
theorem hm_X3_73 : Cond.methodLink RX3 73 Lib.Math.max.name ∈ a_T ∧ Cond.static Lib.Math.max.name ∈ a_T ∧ Cond.initialized "java/lang/Math" ∈ a_T ∧ Cond.code Lib.Math.max.name Lib.Math.max.code 2 (some .int) ∈ a_T := ⟨a_in 386 (by decide +kernel) rfl, a_in 387 (by decide +kernel) rfl, a_in 81 (by decide +kernel) rfl, a_in 388 (by decide +kernel) rfl⟩
def c_X3_mountain_59 (a0 : Nat) (a1 : Int32) (k59 : Nat → Int32 → Int32 → aW → Option (Int32 × aW)) (b2 : Nat) (b4 : Int32) (b5 : Int32) (w : aW) : Option (Int32 × aW) :=
  (gI 1 w b2 4).bind fun x10 =>
  if x10 ≤ b5 then
    (gR 2 w a0 0).bind fun r11 =>
    (gR 2 w a0 1).bind fun r12 =>
    cV 0 w r11 (bk (f_X0_becomeAs r11 r12 w) fun _ w13 =>
    some (b4, w13))
  else
    cV 2 w a0 (bk (f_X3_doStatement a0 b2 b5 w) fun x15 w14 =>
    if ¬ x15 = (0 : Int32) then
      cV 1 w14 b2 (bk (f_X1_at b2 b5 w14) fun x17 w16 =>
      bk (f_X3_digitsBehind x17 w16) fun x19 w18 =>
      k59 b2 (b4 + 1) (b5 + ((2 : Int32) + (if (0 : Int32) < x19 then x19 else (0 : Int32)))) w18)
    else
      some (((-2000 : Int32) - b5), w14))
theorem t_X3_mountain_59 (a0 : Nat) (a1 : Int32) (k59 : Nat → Int32 → Int32 → aW → Option (Int32 × aW)) (hk59 : ∀ (b2 : Nat) (b4 : Int32) (b5 : Int32) (w : aW), Ev rvI M_X3_mountain 59 [some (.ref a0), none, some (.ref b2), none, some (.int b4), some (.int b5)] [] w (k59 b2 b4 b5 w)) (b2 : Nat) (b4 : Int32) (b5 : Int32) (w : aW) : Ev rvI M_X3_mountain 59 [some (.ref a0), none, some (.ref b2), none, some (.int b4), some (.int b5)] [] w (c_X3_mountain_59 a0 a1 k59 b2 b4 b5 w) := by
  unfold c_X3_mountain_59
  refine e_iload (pc := 59) dX3_mountain_59 rfl ?_
  refine e_aload_n (pc := 61) dX3_mountain_61 rfl rfl ?_
  refine e_getI (pc := 62) dX3_mountain_62 hs_X3_59 (fun x10 => ?_)
  refine e_icmp_ge (pc := 65) (tgt := 111) dX3_mountain_65 (by decide) (fun _ => ?_) (fun _ => ?_)
  · refine e_aload_n (pc := 111) dX3_mountain_111 rfl rfl ?_
    refine e_getR (pc := 112) dX3_mountain_112 hs_X3_10 (fun r11 => ?_)
    refine e_aload_n (pc := 115) dX3_mountain_115 rfl rfl ?_
    refine e_getR (pc := 116) dX3_mountain_116 hs_X3_16 (fun r12 => ?_)
    refine e_callV (pc := 119) (av := [.ref r12]) (S := []) (c0 := 0) rfl rfl ok_X0_becomeAs ⟨Nat.le_of_ble_eq_true rfl, Nat.le_of_ble_eq_true rfl⟩ hv_X3_79 dX3_mountain_119 (s_X0_becomeAs r11 r12 w) rfl rfl (Nat.le_of_ble_eq_true rfl) (fun _ w13 => ?_)
    refine e_iload (pc := 122) dX3_mountain_122 rfl ?_
    exact e_iret (pc := 124) dX3_mountain_124 rfl rfl
  · refine e_aload_n (pc := 68) dX3_mountain_68 rfl rfl ?_
    refine e_aload_n (pc := 69) dX3_mountain_69 rfl rfl ?_
    refine e_iload (pc := 70) dX3_mountain_70 rfl ?_
    refine e_callV (pc := 72) (av := [.ref b2, .int b5]) (S := []) (c0 := 2) rfl rfl ok_X3_doStatement ⟨Nat.le_of_ble_eq_true rfl, Nat.le_of_ble_eq_true rfl⟩ hv_X3_62 dX3_mountain_72 (s_X3_doStatement a0 b2 b5 w) rfl rfl (Nat.le_of_ble_eq_true rfl) (fun x15 w14 => ?_)
    refine e_if_ne (pc := 75) (tgt := 85) dX3_mountain_75 (by decide) (fun _ => ?_) (fun _ => ?_)
    · refine e_iinc (L' := [some (.ref a0), none, some (.ref b2), none, some (.int (b4 + 1)), some (.int b5)]) (pc := 85) (v := 1) dX3_mountain_85 (by decide) rfl kc_1 rfl ?_
      refine e_iload (pc := 88) dX3_mountain_88 rfl ?_
      refine e_iconst (pc := 90) dX3_mountain_90 kc_2 ?_
      refine e_iconst (pc := 91) dX3_mountain_91 kc_0 ?_
      refine e_aload_n (pc := 92) dX3_mountain_92 rfl rfl ?_
      refine e_iload (pc := 93) dX3_mountain_93 rfl ?_
      refine e_callV (pc := 95) (av := [.int b5]) (S := [.int (0 : Int32), .int (2 : Int32), .int b5]) (c0 := 1) rfl rfl ok_X1_at ⟨Nat.le_of_ble_eq_true rfl, Nat.le_of_ble_eq_true rfl⟩ hv_X3_66 dX3_mountain_95 (s_X1_at b2 b5 w14) rfl rfl (Nat.le_of_ble_eq_true rfl) (fun x17 w16 => ?_)
      refine e_callS (pc := 98) (av := [.int x17]) (S := [.int (0 : Int32), .int (2 : Int32), .int b5]) ok_X3_digitsBehind ⟨Nat.le_of_ble_eq_true rfl, Nat.le_of_ble_eq_true rfl⟩ ht_X3_70 dX3_mountain_98 (s_X3_digitsBehind x17 w16) rfl rfl (Nat.le_of_ble_eq_true rfl) (fun x19 w18 => ?_)
      refine e_mmax (pc := 101) (Nat.le_of_ble_eq_true rfl) (Nat.le_of_ble_eq_true rfl) hm_X3_73 dX3_mountain_101 ?_
      refine e_iadd (pc := 104) dX3_mountain_104 ?_
      refine e_iadd (pc := 105) dX3_mountain_105 ?_
      refine e_istore (L' := [some (.ref a0), none, some (.ref b2), none, some (.int (b4 + 1)), some (.int (b5 + ((2 : Int32) + (if (0 : Int32) < x19 then x19 else (0 : Int32)))))]) (pc := 106) dX3_mountain_106 (by decide) rfl ?_
      refine e_goto (pc := 108) (tgt := 59) dX3_mountain_108 (by decide) ?_
      exact hk59 b2 (b4 + 1) (b5 + ((2 : Int32) + (if (0 : Int32) < x19 then x19 else (0 : Int32)))) w18
    · refine e_sipush (pc := 78) dX3_mountain_78 ks_m2000 ?_
      refine e_iload (pc := 81) dX3_mountain_81 rfl ?_
      refine e_isub (pc := 83) dX3_mountain_83 ?_
      exact e_iret (pc := 84) dX3_mountain_84 rfl rfl
def f_X3_mountain (a0 : Nat) (a1 : Int32) (w : aW) : Option (Int32 × aW) :=
  cV 2 w a0 (bk (f_X3_shelfAt a0 a1 w) fun o2 w1 =>
  oc o2 (
    some ((-1 : Int32), w1)) fun r3 =>
  (gI 1 w1 r3 0).bind fun x4 =>
  if ¬ x4 = (0 : Int32) then
    cV 1 w1 r3 (bk (f_X1_holdsBytes r3 w1) fun x6 w5 =>
    if ¬ x6 = (0 : Int32) then
      bk (f_X3_firstBadByte r3 w5) fun x8 w7 =>
      if x8 = (-4 : Int32) then
        cV 2 w7 a0 (bk (f_X3_think a0 w7) fun _ w9 =>
        loop4 (c_X3_mountain_59 a0 a1) a_fuel r3 (0 : Int32) (0 : Int32) w9)
      else
        some (((-1000 : Int32) - x8), w7)
    else
      some ((-12 : Int32), w5))
  else
    some ((-11 : Int32), w1))
theorem s_X3_mountain (a0 : Nat) (a1 : Int32) (w : aW) : Sp rvI M_X3_mountain [.ref a0, .int a1] w (f_X3_mountain a0 a1 w) := by
  refine e_entry [some (.ref a0), some (.int a1), none, none, none, none] (by decide +kernel) (Nat.le_of_ble_eq_true rfl) (fun _ => rfl) ?_
  unfold f_X3_mountain
  refine e_aload_n (pc := 0) dX3_mountain_0 rfl rfl ?_
  refine e_iload_n (pc := 1) dX3_mountain_1 rfl rfl ?_
  refine e_callV (pc := 2) (av := [.int a1]) (S := []) (c0 := 2) rfl rfl ok_X3_shelfAt ⟨Nat.le_of_ble_eq_true rfl, Nat.le_of_ble_eq_true rfl⟩ hv_X3_40 dX3_mountain_2 (s_X3_shelfAt a0 a1 w) rfl rfl (Nat.le_of_ble_eq_true rfl) (fun o2 w1 => ?_)
  refine e_oc (fun _ => ?_) (fun r3 _ => ?_)
  · refine e_astore_nN (L' := [some (.ref a0), some (.int a1), some (.null), none, none, none]) (pc := 5) dX3_mountain_5 rfl (by decide) rfl ?_
    refine e_aload_nN (pc := 6) dX3_mountain_6 rfl rfl ?_
    refine e_ifnonnullN (pc := 7) dX3_mountain_7 ?_
    refine e_iconst (pc := 10) dX3_mountain_10 kc_m1 ?_
    exact e_iret (pc := 11) dX3_mountain_11 rfl rfl
  · refine e_astore_n (L' := [some (.ref a0), some (.int a1), some (.ref r3), none, none, none]) (pc := 5) dX3_mountain_5 rfl (by decide) rfl ?_
    refine e_aload_n (pc := 6) dX3_mountain_6 rfl rfl ?_
    refine e_ifnonnull (pc := 7) (tgt := 12) dX3_mountain_7 (by decide) ?_
    refine e_aload_n (pc := 12) dX3_mountain_12 rfl rfl ?_
    refine e_getI (pc := 13) dX3_mountain_13 hs_X3_44 (fun x4 => ?_)
    refine e_if_ne (pc := 16) (tgt := 22) dX3_mountain_16 (by decide) (fun _ => ?_) (fun _ => ?_)
    · refine e_aload_n (pc := 22) dX3_mountain_22 rfl rfl ?_
      refine e_callV (pc := 23) (av := []) (S := []) (c0 := 1) rfl rfl ok_X1_holdsBytes ⟨Nat.le_of_ble_eq_true rfl, Nat.le_of_ble_eq_true rfl⟩ hv_X3_48 dX3_mountain_23 (s_X1_holdsBytes r3 w1) rfl rfl (Nat.le_of_ble_eq_true rfl) (fun x6 w5 => ?_)
      refine e_if_ne (pc := 26) (tgt := 32) dX3_mountain_26 (by decide) (fun _ => ?_) (fun _ => ?_)
      · refine e_aload_n (pc := 32) dX3_mountain_32 rfl rfl ?_
        refine e_callS (pc := 33) (av := [.ref r3]) (S := []) ok_X3_firstBadByte ⟨Nat.le_of_ble_eq_true rfl, Nat.le_of_ble_eq_true rfl⟩ ht_X3_52 dX3_mountain_33 (s_X3_firstBadByte r3 w5) rfl rfl (Nat.le_of_ble_eq_true rfl) (fun x8 w7 => ?_)
        refine e_istore_n (L' := [some (.ref a0), some (.int a1), some (.ref r3), some (.int x8), none, none]) (pc := 36) dX3_mountain_36 rfl (by decide) rfl ?_
        refine e_iload_n (pc := 37) dX3_mountain_37 rfl rfl ?_
        refine e_bipush (pc := 38) dX3_mountain_38 kb_m4 ?_
        refine e_icmp_eq (pc := 40) (tgt := 49) dX3_mountain_40 (by decide) (fun _ => ?_) (fun _ => ?_)
        · refine e_aload_n (pc := 49) dX3_mountain_49 rfl rfl ?_
          refine e_callV (pc := 50) (av := []) (S := []) (c0 := 2) rfl rfl ok_X3_think ⟨Nat.le_of_ble_eq_true rfl, Nat.le_of_ble_eq_true rfl⟩ hv_X3_56 dX3_mountain_50 (s_X3_think a0 w7) rfl rfl (Nat.le_of_ble_eq_true rfl) (fun _ w9 => ?_)
          refine e_iconst (pc := 53) dX3_mountain_53 kc_0 ?_
          refine e_istore (L' := [some (.ref a0), some (.int a1), some (.ref r3), some (.int x8), some (.int (0 : Int32)), none]) (pc := 54) dX3_mountain_54 (by decide) rfl ?_
          refine e_iconst (pc := 56) dX3_mountain_56 kc_0 ?_
          refine e_istore (L' := [some (.ref a0), some (.int a1), some (.ref r3), some (.int x8), some (.int (0 : Int32)), some (.int (0 : Int32))]) (pc := 57) dX3_mountain_57 (by decide) rfl ?_
          refine e_forget (L2 := [some (.ref a0), none, some (.ref r3), none, some (.int (0 : Int32)), some (.int (0 : Int32))]) (And.intro rfl (And.intro rfl (And.intro rfl (And.intro rfl trivial)))) ?_
          exact e_loop4 (L := fun b2 b4 b5 => [some (.ref a0), none, some (.ref b2), none, some (.int b4), some (.int b5)]) (S := fun b2 b4 b5 => []) (fun kf hkf => t_X3_mountain_59 a0 a1  kf hkf) _ r3 (0 : Int32) (0 : Int32) w9
        · refine e_sipush (pc := 43) dX3_mountain_43 ks_m1000 ?_
          refine e_iload_n (pc := 46) dX3_mountain_46 rfl rfl ?_
          refine e_isub (pc := 47) dX3_mountain_47 ?_
          exact e_iret (pc := 48) dX3_mountain_48 rfl rfl
      · refine e_bipush (pc := 29) dX3_mountain_29 kb_m12 ?_
        exact e_iret (pc := 31) dX3_mountain_31 rfl rfl
    · refine e_bipush (pc := 19) dX3_mountain_19 kb_m11 ?_
      exact e_iret (pc := 21) dX3_mountain_21 rfl rfl
def M_X3_beast : aM := (yX3_beast, cX3_beast, 3, (some .int), 4, 91)
theorem ok_X3_beast : a_okM M_X3_beast 2 := ⟨⟨by decide +kernel, by decide +kernel⟩, by decide +kernel, a_in 392 (by decide +kernel) rfl, a_in 76 (by decide +kernel) rfl⟩
theorem dX3_beast_0 : decode M_X3_beast.2.1 0 = .ok (.aload_n 0, 1) := by decide +kernel
theorem dX3_beast_1 : decode M_X3_beast.2.1 1 = .ok (.getfield 10, 3) := by decide +kernel
theorem dX3_beast_4 : decode M_X3_beast.2.1 4 = .ok (.iload_n 1, 1) := by decide +kernel
theorem dX3_beast_5 : decode M_X3_beast.2.1 5 = .ok (.invokevirtual 83, 3) := by decide +kernel
theorem dX3_beast_8 : decode M_X3_beast.2.1 8 = .ok (.ifCond .eq 13, 3) := by decide +kernel
theorem dX3_beast_11 : decode M_X3_beast.2.1 11 = .ok (.iload_n 2, 1) := by decide +kernel
theorem dX3_beast_12 : decode M_X3_beast.2.1 12 = .ok (.iconst 0, 1) := by decide +kernel
theorem dX3_beast_13 : decode M_X3_beast.2.1 13 = .ok (.bipush 8, 2) := by decide +kernel
theorem dX3_beast_15 : decode M_X3_beast.2.1 15 = .ok (.invokestatic 87, 3) := by decide +kernel
theorem dX3_beast_18 : decode M_X3_beast.2.1 18 = .ok (.ifCond .ne 5, 3) := by decide +kernel
theorem dX3_beast_21 : decode M_X3_beast.2.1 21 = .ok (.iconst (-1), 1) := by decide +kernel
theorem dX3_beast_22 : decode M_X3_beast.2.1 22 = .ok (.ireturn, 1) := by decide +kernel
theorem dX3_beast_23 : decode M_X3_beast.2.1 23 = .ok (.aload_n 0, 1) := by decide +kernel
theorem dX3_beast_24 : decode M_X3_beast.2.1 24 = .ok (.getfield 10, 3) := by decide +kernel
theorem dX3_beast_27 : decode M_X3_beast.2.1 27 = .ok (.iload_n 1, 1) := by decide +kernel
theorem dX3_beast_28 : decode M_X3_beast.2.1 28 = .ok (.iload_n 2, 1) := by decide +kernel
theorem dX3_beast_29 : decode M_X3_beast.2.1 29 = .ok (.invokevirtual 91, 3) := by decide +kernel
theorem dX3_beast_32 : decode M_X3_beast.2.1 32 = .ok (.ireturn, 1) := by decide +kernel
theorem hv_X3_83 : a_okV RX3 M_X0_hasBeast 83 := ⟨a_in 393 (by decide +kernel) rfl, a_in 279 (by decide +kernel) rfl, a_in 280 (by decide +kernel) rfl⟩
theorem hv_X3_91 : a_okV RX3 M_X0_toldOfBeast 91 := ⟨a_in 394 (by decide +kernel) rfl, a_in 395 (by decide +kernel) rfl, a_in 396 (by decide +kernel) rfl⟩
def f_X3_beast (a0 : Nat) (a1 : Int32) (a2 : Int32) (w : aW) : Option (Int32 × aW) :=
  (gR 2 w a0 0).bind fun r1 =>
  cV 0 w r1 (bk (f_X0_hasBeast r1 a1 w) fun x3 w2 =>
  if x3 = (0 : Int32) then
    some ((-1 : Int32), w2)
  else
    bk (f_X3_within a2 (0 : Int32) (8 : Int32) w2) fun x5 w4 =>
    if ¬ x5 = (0 : Int32) then
      (gR 2 w4 a0 0).bind fun r6 =>
      cV 0 w4 r6 (bk (f_X0_toldOfBeast r6 a1 a2 w4) fun x8 w7 =>
      some (x8, w7))
    else
      some ((-1 : Int32), w4))
theorem s_X3_beast (a0 : Nat) (a1 : Int32) (a2 : Int32) (w : aW) : Sp rvI M_X3_beast [.ref a0, .int a1, .int a2] w (f_X3_beast a0 a1 a2 w) := by
  refine e_entry [some (.ref a0), some (.int a1), some (.int a2)] (by decide +kernel) (Nat.le_of_ble_eq_true rfl) (fun _ => rfl) ?_
  unfold f_X3_beast
  refine e_aload_n (pc := 0) dX3_beast_0 rfl rfl ?_
  refine e_getR (pc := 1) dX3_beast_1 hs_X3_10 (fun r1 => ?_)
  refine e_iload_n (pc := 4) dX3_beast_4 rfl rfl ?_
  refine e_callV (pc := 5) (av := [.int a1]) (S := []) (c0 := 0) rfl rfl ok_X0_hasBeast ⟨Nat.le_of_ble_eq_true rfl, Nat.le_of_ble_eq_true rfl⟩ hv_X3_83 dX3_beast_5 (s_X0_hasBeast r1 a1 w) rfl rfl (Nat.le_of_ble_eq_true rfl) (fun x3 w2 => ?_)
  refine e_if_eq (pc := 8) (tgt := 21) dX3_beast_8 (by decide) (fun _ => ?_) (fun _ => ?_)
  · refine e_iconst (pc := 21) dX3_beast_21 kc_m1 ?_
    exact e_iret (pc := 22) dX3_beast_22 rfl rfl
  · refine e_iload_n (pc := 11) dX3_beast_11 rfl rfl ?_
    refine e_iconst (pc := 12) dX3_beast_12 kc_0 ?_
    refine e_bipush (pc := 13) dX3_beast_13 kb_8 ?_
    refine e_callS (pc := 15) (av := [.int a2, .int (0 : Int32), .int (8 : Int32)]) (S := []) ok_X3_within ⟨Nat.le_of_ble_eq_true rfl, Nat.le_of_ble_eq_true rfl⟩ ht_X3_87 dX3_beast_15 (s_X3_within a2 (0 : Int32) (8 : Int32) w2) rfl rfl (Nat.le_of_ble_eq_true rfl) (fun x5 w4 => ?_)
    refine e_if_ne (pc := 18) (tgt := 23) dX3_beast_18 (by decide) (fun _ => ?_) (fun _ => ?_)
    · refine e_aload_n (pc := 23) dX3_beast_23 rfl rfl ?_
      refine e_getR (pc := 24) dX3_beast_24 hs_X3_10 (fun r6 => ?_)
      refine e_iload_n (pc := 27) dX3_beast_27 rfl rfl ?_
      refine e_iload_n (pc := 28) dX3_beast_28 rfl rfl ?_
      refine e_callV (pc := 29) (av := [.int a1, .int a2]) (S := []) (c0 := 0) rfl rfl ok_X0_toldOfBeast ⟨Nat.le_of_ble_eq_true rfl, Nat.le_of_ble_eq_true rfl⟩ hv_X3_91 dX3_beast_29 (s_X0_toldOfBeast r6 a1 a2 w4) rfl rfl (Nat.le_of_ble_eq_true rfl) (fun x8 w7 => ?_)
      exact e_iret (pc := 32) dX3_beast_32 rfl rfl
    · refine e_iconst (pc := 21) dX3_beast_21 kc_m1 ?_
      exact e_iret (pc := 22) dX3_beast_22 rfl rfl
def M_X3_person : aM := (yX3_person, cX3_person, 3, (some .int), 3, 71)
theorem ok_X3_person : a_okM M_X3_person 2 := ⟨⟨by decide +kernel, by decide +kernel⟩, by decide +kernel, a_in 401 (by decide +kernel) rfl, a_in 76 (by decide +kernel) rfl⟩
theorem dX3_person_0 : decode M_X3_person.2.1 0 = .ok (.iload_n 1, 1) := by decide +kernel
theorem dX3_person_1 : decode M_X3_person.2.1 1 = .ok (.invokestatic 94, 3) := by decide +kernel
theorem dX3_person_4 : decode M_X3_person.2.1 4 = .ok (.ifCond .eq 13, 3) := by decide +kernel
theorem dX3_person_7 : decode M_X3_person.2.1 7 = .ok (.iload_n 2, 1) := by decide +kernel
theorem dX3_person_8 : decode M_X3_person.2.1 8 = .ok (.iconst 0, 1) := by decide +kernel
theorem dX3_person_9 : decode M_X3_person.2.1 9 = .ok (.bipush 6, 2) := by decide +kernel
theorem dX3_person_11 : decode M_X3_person.2.1 11 = .ok (.invokestatic 87, 3) := by decide +kernel
theorem dX3_person_14 : decode M_X3_person.2.1 14 = .ok (.ifCond .ne 5, 3) := by decide +kernel
theorem dX3_person_17 : decode M_X3_person.2.1 17 = .ok (.iconst (-1), 1) := by decide +kernel
theorem dX3_person_18 : decode M_X3_person.2.1 18 = .ok (.ireturn, 1) := by decide +kernel
theorem dX3_person_19 : decode M_X3_person.2.1 19 = .ok (.aload_n 0, 1) := by decide +kernel
theorem dX3_person_20 : decode M_X3_person.2.1 20 = .ok (.getfield 10, 3) := by decide +kernel
theorem dX3_person_23 : decode M_X3_person.2.1 23 = .ok (.iload_n 1, 1) := by decide +kernel
theorem dX3_person_24 : decode M_X3_person.2.1 24 = .ok (.iload_n 2, 1) := by decide +kernel
theorem dX3_person_25 : decode M_X3_person.2.1 25 = .ok (.invokevirtual 97, 3) := by decide +kernel
theorem dX3_person_28 : decode M_X3_person.2.1 28 = .ok (.ireturn, 1) := by decide +kernel
theorem ht_X3_94 : a_okS RX3 M_X3_isPerson 94 := ⟨a_in 402 (by decide +kernel) rfl, a_in 292 (by decide +kernel) rfl⟩
theorem hv_X3_97 : a_okV RX3 M_X0_toldOfPerson 97 := ⟨a_in 403 (by decide +kernel) rfl, a_in 404 (by decide +kernel) rfl, a_in 405 (by decide +kernel) rfl⟩
def f_X3_person (a0 : Nat) (a1 : Int32) (a2 : Int32) (w : aW) : Option (Int32 × aW) :=
  bk (f_X3_isPerson a1 w) fun x2 w1 =>
  if x2 = (0 : Int32) then
    some ((-1 : Int32), w1)
  else
    bk (f_X3_within a2 (0 : Int32) (6 : Int32) w1) fun x4 w3 =>
    if ¬ x4 = (0 : Int32) then
      (gR 2 w3 a0 0).bind fun r5 =>
      cV 0 w3 r5 (bk (f_X0_toldOfPerson r5 a1 a2 w3) fun x7 w6 =>
      some (x7, w6))
    else
      some ((-1 : Int32), w3)
theorem s_X3_person (a0 : Nat) (a1 : Int32) (a2 : Int32) (w : aW) : Sp rvI M_X3_person [.ref a0, .int a1, .int a2] w (f_X3_person a0 a1 a2 w) := by
  refine e_entry [some (.ref a0), some (.int a1), some (.int a2)] (by decide +kernel) (Nat.le_of_ble_eq_true rfl) (fun _ => rfl) ?_
  unfold f_X3_person
  refine e_iload_n (pc := 0) dX3_person_0 rfl rfl ?_
  refine e_callS (pc := 1) (av := [.int a1]) (S := []) ok_X3_isPerson ⟨Nat.le_of_ble_eq_true rfl, Nat.le_of_ble_eq_true rfl⟩ ht_X3_94 dX3_person_1 (s_X3_isPerson a1 w) rfl rfl (Nat.le_of_ble_eq_true rfl) (fun x2 w1 => ?_)
  refine e_if_eq (pc := 4) (tgt := 17) dX3_person_4 (by decide) (fun _ => ?_) (fun _ => ?_)
  · refine e_iconst (pc := 17) dX3_person_17 kc_m1 ?_
    exact e_iret (pc := 18) dX3_person_18 rfl rfl
  · refine e_iload_n (pc := 7) dX3_person_7 rfl rfl ?_
    refine e_iconst (pc := 8) dX3_person_8 kc_0 ?_
    refine e_bipush (pc := 9) dX3_person_9 kb_6 ?_
    refine e_callS (pc := 11) (av := [.int a2, .int (0 : Int32), .int (6 : Int32)]) (S := []) ok_X3_within ⟨Nat.le_of_ble_eq_true rfl, Nat.le_of_ble_eq_true rfl⟩ ht_X3_87 dX3_person_11 (s_X3_within a2 (0 : Int32) (6 : Int32) w1) rfl rfl (Nat.le_of_ble_eq_true rfl) (fun x4 w3 => ?_)
    refine e_if_ne (pc := 14) (tgt := 19) dX3_person_14 (by decide) (fun _ => ?_) (fun _ => ?_)
    · refine e_aload_n (pc := 19) dX3_person_19 rfl rfl ?_
      refine e_getR (pc := 20) dX3_person_20 hs_X3_10 (fun r5 => ?_)
      refine e_iload_n (pc := 23) dX3_person_23 rfl rfl ?_
      refine e_iload_n (pc := 24) dX3_person_24 rfl rfl ?_
      refine e_callV (pc := 25) (av := [.int a1, .int a2]) (S := []) (c0 := 0) rfl rfl ok_X0_toldOfPerson ⟨Nat.le_of_ble_eq_true rfl, Nat.le_of_ble_eq_true rfl⟩ hv_X3_97 dX3_person_25 (s_X0_toldOfPerson r5 a1 a2 w3) rfl rfl (Nat.le_of_ble_eq_true rfl) (fun x7 w6 => ?_)
      exact e_iret (pc := 28) dX3_person_28 rfl rfl
    · refine e_iconst (pc := 17) dX3_person_17 kc_m1 ?_
      exact e_iret (pc := 18) dX3_person_18 rfl rfl
def M_X3_comes : aM := (yX3_comes, cX3_comes, 5, (some .int), 3, 66)
theorem ok_X3_comes : a_okM M_X3_comes 2 := ⟨⟨by decide +kernel, by decide +kernel⟩, by decide +kernel, a_in 422 (by decide +kernel) rfl, a_in 76 (by decide +kernel) rfl⟩
theorem dX3_comes_0 : decode M_X3_comes.2.1 0 = .ok (.aload_n 0, 1) := by decide +kernel
theorem dX3_comes_1 : decode M_X3_comes.2.1 1 = .ok (.iload_n 1, 1) := by decide +kernel
theorem dX3_comes_2 : decode M_X3_comes.2.1 2 = .ok (.invokevirtual 40, 3) := by decide +kernel
theorem dX3_comes_5 : decode M_X3_comes.2.1 5 = .ok (.astore_n 3, 1) := by decide +kernel
theorem dX3_comes_6 : decode M_X3_comes.2.1 6 = .ok (.aload_n 3, 1) := by decide +kernel
theorem dX3_comes_7 : decode M_X3_comes.2.1 7 = .ok (.ifnull 10, 3) := by decide +kernel
theorem dX3_comes_10 : decode M_X3_comes.2.1 10 = .ok (.iload_n 2, 1) := by decide +kernel
theorem dX3_comes_11 : decode M_X3_comes.2.1 11 = .ok (.invokestatic 100, 3) := by decide +kernel
theorem dX3_comes_14 : decode M_X3_comes.2.1 14 = .ok (.ifCond .ne 5, 3) := by decide +kernel
theorem dX3_comes_17 : decode M_X3_comes.2.1 17 = .ok (.iconst (-1), 1) := by decide +kernel
theorem dX3_comes_18 : decode M_X3_comes.2.1 18 = .ok (.ireturn, 1) := by decide +kernel
theorem dX3_comes_19 : decode M_X3_comes.2.1 19 = .ok (.aload_n 3, 1) := by decide +kernel
theorem dX3_comes_20 : decode M_X3_comes.2.1 20 = .ok (.invokevirtual 103, 3) := by decide +kernel
theorem dX3_comes_23 : decode M_X3_comes.2.1 23 = .ok (.istore 4, 2) := by decide +kernel
theorem dX3_comes_25 : decode M_X3_comes.2.1 25 = .ok (.iload 4, 2) := by decide +kernel
theorem dX3_comes_27 : decode M_X3_comes.2.1 27 = .ok (.ifCond .eq 8, 3) := by decide +kernel
theorem dX3_comes_30 : decode M_X3_comes.2.1 30 = .ok (.iload 4, 2) := by decide +kernel
theorem dX3_comes_32 : decode M_X3_comes.2.1 32 = .ok (.goto 19, 3) := by decide +kernel
theorem dX3_comes_35 : decode M_X3_comes.2.1 35 = .ok (.aload_n 0, 1) := by decide +kernel
theorem dX3_comes_36 : decode M_X3_comes.2.1 36 = .ok (.getfield 10, 3) := by decide +kernel
theorem dX3_comes_39 : decode M_X3_comes.2.1 39 = .ok (.aload_n 3, 1) := by decide +kernel
theorem dX3_comes_40 : decode M_X3_comes.2.1 40 = .ok (.getfield 107, 3) := by decide +kernel
theorem dX3_comes_43 : decode M_X3_comes.2.1 43 = .ok (.aload_n 3, 1) := by decide +kernel
theorem dX3_comes_44 : decode M_X3_comes.2.1 44 = .ok (.getfield 110, 3) := by decide +kernel
theorem dX3_comes_47 : decode M_X3_comes.2.1 47 = .ok (.iload_n 2, 1) := by decide +kernel
theorem dX3_comes_48 : decode M_X3_comes.2.1 48 = .ok (.invokevirtual 113, 3) := by decide +kernel
theorem dX3_comes_51 : decode M_X3_comes.2.1 51 = .ok (.ireturn, 1) := by decide +kernel
theorem ht_X3_100 : a_okS RX3 M_X3_isPlace 100 := ⟨a_in 423 (by decide +kernel) rfl, a_in 269 (by decide +kernel) rfl⟩
theorem hv_X3_103 : a_okV RX3 M_X1_beastRefusal 103 := ⟨a_in 424 (by decide +kernel) rfl, a_in 425 (by decide +kernel) rfl, a_in 426 (by decide +kernel) rfl⟩
theorem hs_X3_107 : a_fs RX3 107 1 1 := ⟨RX1, TX1, 6, rfl, tin_X1, by decide, a_in 168 (by decide +kernel) rfl⟩
theorem hs_X3_110 : a_fs RX3 110 1 2 := ⟨RX1, TX1, 6, rfl, tin_X1, by decide, a_in 170 (by decide +kernel) rfl⟩
def f_X3_comes (a0 : Nat) (a1 : Int32) (a2 : Int32) (w : aW) : Option (Int32 × aW) :=
  cV 2 w a0 (bk (f_X3_shelfAt a0 a1 w) fun o2 w1 =>
  oc o2 (
    some ((-1 : Int32), w1)) fun r3 =>
  bk (f_X3_isPlace a2 w1) fun x5 w4 =>
  if ¬ x5 = (0 : Int32) then
    cV 1 w4 r3 (bk (f_X1_beastRefusal r3 w4) fun x7 w6 =>
    if x7 = (0 : Int32) then
      (gR 2 w6 a0 0).bind fun r8 =>
      (gI 1 w6 r3 1).bind fun x9 =>
      (gI 1 w6 r3 2).bind fun x10 =>
      cV 0 w6 r8 (bk (f_X0_addBeast r8 x9 x10 a2 w6) fun x12 w11 =>
      some (x12, w11))
    else
      some (x7, w6))
  else
    some ((-1 : Int32), w4))
theorem s_X3_comes (a0 : Nat) (a1 : Int32) (a2 : Int32) (w : aW) : Sp rvI M_X3_comes [.ref a0, .int a1, .int a2] w (f_X3_comes a0 a1 a2 w) := by
  refine e_entry [some (.ref a0), some (.int a1), some (.int a2), none, none] (by decide +kernel) (Nat.le_of_ble_eq_true rfl) (fun _ => rfl) ?_
  unfold f_X3_comes
  refine e_aload_n (pc := 0) dX3_comes_0 rfl rfl ?_
  refine e_iload_n (pc := 1) dX3_comes_1 rfl rfl ?_
  refine e_callV (pc := 2) (av := [.int a1]) (S := []) (c0 := 2) rfl rfl ok_X3_shelfAt ⟨Nat.le_of_ble_eq_true rfl, Nat.le_of_ble_eq_true rfl⟩ hv_X3_40 dX3_comes_2 (s_X3_shelfAt a0 a1 w) rfl rfl (Nat.le_of_ble_eq_true rfl) (fun o2 w1 => ?_)
  refine e_oc (fun _ => ?_) (fun r3 _ => ?_)
  · refine e_astore_nN (L' := [some (.ref a0), some (.int a1), some (.int a2), some (.null), none]) (pc := 5) dX3_comes_5 rfl (by decide) rfl ?_
    refine e_aload_nN (pc := 6) dX3_comes_6 rfl rfl ?_
    refine e_ifnullN (pc := 7) (tgt := 17) dX3_comes_7 (by decide) ?_
    refine e_iconst (pc := 17) dX3_comes_17 kc_m1 ?_
    exact e_iret (pc := 18) dX3_comes_18 rfl rfl
  · refine e_astore_n (L' := [some (.ref a0), some (.int a1), some (.int a2), some (.ref r3), none]) (pc := 5) dX3_comes_5 rfl (by decide) rfl ?_
    refine e_aload_n (pc := 6) dX3_comes_6 rfl rfl ?_
    refine e_ifnull (pc := 7) dX3_comes_7 ?_
    refine e_iload_n (pc := 10) dX3_comes_10 rfl rfl ?_
    refine e_callS (pc := 11) (av := [.int a2]) (S := []) ok_X3_isPlace ⟨Nat.le_of_ble_eq_true rfl, Nat.le_of_ble_eq_true rfl⟩ ht_X3_100 dX3_comes_11 (s_X3_isPlace a2 w1) rfl rfl (Nat.le_of_ble_eq_true rfl) (fun x5 w4 => ?_)
    refine e_if_ne (pc := 14) (tgt := 19) dX3_comes_14 (by decide) (fun _ => ?_) (fun _ => ?_)
    · refine e_aload_n (pc := 19) dX3_comes_19 rfl rfl ?_
      refine e_callV (pc := 20) (av := []) (S := []) (c0 := 1) rfl rfl ok_X1_beastRefusal ⟨Nat.le_of_ble_eq_true rfl, Nat.le_of_ble_eq_true rfl⟩ hv_X3_103 dX3_comes_20 (s_X1_beastRefusal r3 w4) rfl rfl (Nat.le_of_ble_eq_true rfl) (fun x7 w6 => ?_)
      refine e_istore (L' := [some (.ref a0), some (.int a1), some (.int a2), some (.ref r3), some (.int x7)]) (pc := 23) dX3_comes_23 (by decide) rfl ?_
      refine e_iload (pc := 25) dX3_comes_25 rfl ?_
      refine e_if_eq (pc := 27) (tgt := 35) dX3_comes_27 (by decide) (fun _ => ?_) (fun _ => ?_)
      · refine e_aload_n (pc := 35) dX3_comes_35 rfl rfl ?_
        refine e_getR (pc := 36) dX3_comes_36 hs_X3_10 (fun r8 => ?_)
        refine e_aload_n (pc := 39) dX3_comes_39 rfl rfl ?_
        refine e_getI (pc := 40) dX3_comes_40 hs_X3_107 (fun x9 => ?_)
        refine e_aload_n (pc := 43) dX3_comes_43 rfl rfl ?_
        refine e_getI (pc := 44) dX3_comes_44 hs_X3_110 (fun x10 => ?_)
        refine e_iload_n (pc := 47) dX3_comes_47 rfl rfl ?_
        refine e_callV (pc := 48) (av := [.int x9, .int x10, .int a2]) (S := []) (c0 := 0) rfl rfl ok_X0_addBeast ⟨Nat.le_of_ble_eq_true rfl, Nat.le_of_ble_eq_true rfl⟩ hv_X3_113 dX3_comes_48 (s_X0_addBeast r8 x9 x10 a2 w6) rfl rfl (Nat.le_of_ble_eq_true rfl) (fun x12 w11 => ?_)
        exact e_iret (pc := 51) dX3_comes_51 rfl rfl
      · refine e_iload (pc := 30) dX3_comes_30 rfl ?_
        refine e_goto (pc := 32) (tgt := 51) dX3_comes_32 (by decide) ?_
        exact e_iret (pc := 51) dX3_comes_51 rfl rfl
    · refine e_iconst (pc := 17) dX3_comes_17 kc_m1 ?_
      exact e_iret (pc := 18) dX3_comes_18 rfl rfl
def M_X3_stands : aM := (yX3_stands, cX3_stands, 3, (some .int), 3, 66)
theorem ok_X3_stands : a_okM M_X3_stands 2 := ⟨⟨by decide +kernel, by decide +kernel⟩, by decide +kernel, a_in 431 (by decide +kernel) rfl, a_in 76 (by decide +kernel) rfl⟩
theorem dX3_stands_0 : decode M_X3_stands.2.1 0 = .ok (.aload_n 0, 1) := by decide +kernel
theorem dX3_stands_1 : decode M_X3_stands.2.1 1 = .ok (.getfield 10, 3) := by decide +kernel
theorem dX3_stands_4 : decode M_X3_stands.2.1 4 = .ok (.iload_n 1, 1) := by decide +kernel
theorem dX3_stands_5 : decode M_X3_stands.2.1 5 = .ok (.iload_n 2, 1) := by decide +kernel
theorem dX3_stands_6 : decode M_X3_stands.2.1 6 = .ok (.invokevirtual 117, 3) := by decide +kernel
theorem dX3_stands_9 : decode M_X3_stands.2.1 9 = .ok (.ireturn, 1) := by decide +kernel
def f_X3_stands (a0 : Nat) (a1 : Int32) (a2 : Int32) (w : aW) : Option (Int32 × aW) :=
  (gR 2 w a0 0).bind fun r1 =>
  cV 0 w r1 (bk (f_X0_moveBeast r1 a1 a2 w) fun x3 w2 =>
  some (x3, w2))
theorem s_X3_stands (a0 : Nat) (a1 : Int32) (a2 : Int32) (w : aW) : Sp rvI M_X3_stands [.ref a0, .int a1, .int a2] w (f_X3_stands a0 a1 a2 w) := by
  refine e_entry [some (.ref a0), some (.int a1), some (.int a2)] (by decide +kernel) (Nat.le_of_ble_eq_true rfl) (fun _ => rfl) ?_
  unfold f_X3_stands
  refine e_aload_n (pc := 0) dX3_stands_0 rfl rfl ?_
  refine e_getR (pc := 1) dX3_stands_1 hs_X3_10 (fun r1 => ?_)
  refine e_iload_n (pc := 4) dX3_stands_4 rfl rfl ?_
  refine e_iload_n (pc := 5) dX3_stands_5 rfl rfl ?_
  refine e_callV (pc := 6) (av := [.int a1, .int a2]) (S := []) (c0 := 0) rfl rfl ok_X0_moveBeast ⟨Nat.le_of_ble_eq_true rfl, Nat.le_of_ble_eq_true rfl⟩ hv_X3_117 dX3_stands_6 (s_X0_moveBeast r1 a1 a2 w) rfl rfl (Nat.le_of_ble_eq_true rfl) (fun x3 w2 => ?_)
  exact e_iret (pc := 9) dX3_stands_9 rfl rfl
def M_X3_walks : aM := (yX3_walks, cX3_walks, 3, (some .int), 3, 65)
theorem ok_X3_walks : a_okM M_X3_walks 2 := ⟨⟨by decide +kernel, by decide +kernel⟩, by decide +kernel, a_in 435 (by decide +kernel) rfl, a_in 76 (by decide +kernel) rfl⟩
theorem dX3_walks_0 : decode M_X3_walks.2.1 0 = .ok (.aload_n 0, 1) := by decide +kernel
theorem dX3_walks_1 : decode M_X3_walks.2.1 1 = .ok (.getfield 10, 3) := by decide +kernel
theorem dX3_walks_4 : decode M_X3_walks.2.1 4 = .ok (.iload_n 1, 1) := by decide +kernel
theorem dX3_walks_5 : decode M_X3_walks.2.1 5 = .ok (.iload_n 2, 1) := by decide +kernel
theorem dX3_walks_6 : decode M_X3_walks.2.1 6 = .ok (.invokevirtual 120, 3) := by decide +kernel
theorem dX3_walks_9 : decode M_X3_walks.2.1 9 = .ok (.ireturn, 1) := by decide +kernel
def f_X3_walks (a0 : Nat) (a1 : Int32) (a2 : Int32) (w : aW) : Option (Int32 × aW) :=
  (gR 2 w a0 0).bind fun r1 =>
  cV 0 w r1 (bk (f_X0_movePerson r1 a1 a2 w) fun x3 w2 =>
  some (x3, w2))
theorem s_X3_walks (a0 : Nat) (a1 : Int32) (a2 : Int32) (w : aW) : Sp rvI M_X3_walks [.ref a0, .int a1, .int a2] w (f_X3_walks a0 a1 a2 w) := by
  refine e_entry [some (.ref a0), some (.int a1), some (.int a2)] (by decide +kernel) (Nat.le_of_ble_eq_true rfl) (fun _ => rfl) ?_
  unfold f_X3_walks
  refine e_aload_n (pc := 0) dX3_walks_0 rfl rfl ?_
  refine e_getR (pc := 1) dX3_walks_1 hs_X3_10 (fun r1 => ?_)
  refine e_iload_n (pc := 4) dX3_walks_4 rfl rfl ?_
  refine e_iload_n (pc := 5) dX3_walks_5 rfl rfl ?_
  refine e_callV (pc := 6) (av := [.int a1, .int a2]) (S := []) (c0 := 0) rfl rfl ok_X0_movePerson ⟨Nat.le_of_ble_eq_true rfl, Nat.le_of_ble_eq_true rfl⟩ hv_X3_120 dX3_walks_6 (s_X0_movePerson r1 a1 a2 w) rfl rfl (Nat.le_of_ble_eq_true rfl) (fun x3 w2 => ?_)
  exact e_iret (pc := 9) dX3_walks_9 rfl rfl
def M_X3_calls : aM := (yX3_calls, cX3_calls, 3, (some .int), 3, 66)
theorem ok_X3_calls : a_okM M_X3_calls 2 := ⟨⟨by decide +kernel, by decide +kernel⟩, by decide +kernel, a_in 439 (by decide +kernel) rfl, a_in 76 (by decide +kernel) rfl⟩
theorem dX3_calls_0 : decode M_X3_calls.2.1 0 = .ok (.aload_n 0, 1) := by decide +kernel
theorem dX3_calls_1 : decode M_X3_calls.2.1 1 = .ok (.getfield 10, 3) := by decide +kernel
theorem dX3_calls_4 : decode M_X3_calls.2.1 4 = .ok (.iload_n 1, 1) := by decide +kernel
theorem dX3_calls_5 : decode M_X3_calls.2.1 5 = .ok (.iload_n 2, 1) := by decide +kernel
theorem dX3_calls_6 : decode M_X3_calls.2.1 6 = .ok (.invokevirtual 123, 3) := by decide +kernel
theorem dX3_calls_9 : decode M_X3_calls.2.1 9 = .ok (.ireturn, 1) := by decide +kernel
def f_X3_calls (a0 : Nat) (a1 : Int32) (a2 : Int32) (w : aW) : Option (Int32 × aW) :=
  (gR 2 w a0 0).bind fun r1 =>
  cV 0 w r1 (bk (f_X0_callBeast r1 a1 a2 w) fun x3 w2 =>
  some (x3, w2))
theorem s_X3_calls (a0 : Nat) (a1 : Int32) (a2 : Int32) (w : aW) : Sp rvI M_X3_calls [.ref a0, .int a1, .int a2] w (f_X3_calls a0 a1 a2 w) := by
  refine e_entry [some (.ref a0), some (.int a1), some (.int a2)] (by decide +kernel) (Nat.le_of_ble_eq_true rfl) (fun _ => rfl) ?_
  unfold f_X3_calls
  refine e_aload_n (pc := 0) dX3_calls_0 rfl rfl ?_
  refine e_getR (pc := 1) dX3_calls_1 hs_X3_10 (fun r1 => ?_)
  refine e_iload_n (pc := 4) dX3_calls_4 rfl rfl ?_
  refine e_iload_n (pc := 5) dX3_calls_5 rfl rfl ?_
  refine e_callV (pc := 6) (av := [.int a1, .int a2]) (S := []) (c0 := 0) rfl rfl ok_X0_callBeast ⟨Nat.le_of_ble_eq_true rfl, Nat.le_of_ble_eq_true rfl⟩ hv_X3_123 dX3_calls_6 (s_X0_callBeast r1 a1 a2 w) rfl rfl (Nat.le_of_ble_eq_true rfl) (fun x3 w2 => ?_)
  exact e_iret (pc := 9) dX3_calls_9 rfl rfl
def M_X3_answers : aM := (yX3_answers, cX3_answers, 2, (some .int), 3, 65)
theorem ok_X3_answers : a_okM M_X3_answers 1 := ⟨⟨by decide +kernel, by decide +kernel⟩, by decide +kernel, a_in 443 (by decide +kernel) rfl, a_in 76 (by decide +kernel) rfl⟩
theorem dX3_answers_0 : decode M_X3_answers.2.1 0 = .ok (.aload_n 0, 1) := by decide +kernel
theorem dX3_answers_1 : decode M_X3_answers.2.1 1 = .ok (.getfield 10, 3) := by decide +kernel
theorem dX3_answers_4 : decode M_X3_answers.2.1 4 = .ok (.iload_n 1, 1) := by decide +kernel
theorem dX3_answers_5 : decode M_X3_answers.2.1 5 = .ok (.invokevirtual 126, 3) := by decide +kernel
theorem dX3_answers_8 : decode M_X3_answers.2.1 8 = .ok (.ireturn, 1) := by decide +kernel
def f_X3_answers (a0 : Nat) (a1 : Int32) (w : aW) : Option (Int32 × aW) :=
  (gR 2 w a0 0).bind fun r1 =>
  cV 0 w r1 (bk (f_X0_freeBeast r1 a1 w) fun x3 w2 =>
  some (x3, w2))
theorem s_X3_answers (a0 : Nat) (a1 : Int32) (w : aW) : Sp rvI M_X3_answers [.ref a0, .int a1] w (f_X3_answers a0 a1 w) := by
  refine e_entry [some (.ref a0), some (.int a1)] (by decide +kernel) (Nat.le_of_ble_eq_true rfl) (fun _ => rfl) ?_
  unfold f_X3_answers
  refine e_aload_n (pc := 0) dX3_answers_0 rfl rfl ?_
  refine e_getR (pc := 1) dX3_answers_1 hs_X3_10 (fun r1 => ?_)
  refine e_iload_n (pc := 4) dX3_answers_4 rfl rfl ?_
  refine e_callV (pc := 5) (av := [.int a1]) (S := []) (c0 := 0) rfl rfl ok_X0_freeBeast ⟨Nat.le_of_ble_eq_true rfl, Nat.le_of_ble_eq_true rfl⟩ hv_X3_126 dX3_answers_5 (s_X0_freeBeast r1 a1 w) rfl rfl (Nat.le_of_ble_eq_true rfl) (fun x3 w2 => ?_)
  exact e_iret (pc := 8) dX3_answers_8 rfl rfl
def M_X3_tongue : aM := (yX3_tongue, cX3_tongue, 3, (some .int), 3, 65)
theorem ok_X3_tongue : a_okM M_X3_tongue 2 := ⟨⟨by decide +kernel, by decide +kernel⟩, by decide +kernel, a_in 447 (by decide +kernel) rfl, a_in 76 (by decide +kernel) rfl⟩
theorem dX3_tongue_0 : decode M_X3_tongue.2.1 0 = .ok (.aload_n 0, 1) := by decide +kernel
theorem dX3_tongue_1 : decode M_X3_tongue.2.1 1 = .ok (.getfield 10, 3) := by decide +kernel
theorem dX3_tongue_4 : decode M_X3_tongue.2.1 4 = .ok (.iload_n 1, 1) := by decide +kernel
theorem dX3_tongue_5 : decode M_X3_tongue.2.1 5 = .ok (.iload_n 2, 1) := by decide +kernel
theorem dX3_tongue_6 : decode M_X3_tongue.2.1 6 = .ok (.invokevirtual 129, 3) := by decide +kernel
theorem dX3_tongue_9 : decode M_X3_tongue.2.1 9 = .ok (.ireturn, 1) := by decide +kernel
def f_X3_tongue (a0 : Nat) (a1 : Int32) (a2 : Int32) (w : aW) : Option (Int32 × aW) :=
  (gR 2 w a0 0).bind fun r1 =>
  cV 0 w r1 (bk (f_X0_changeTongue r1 a1 a2 w) fun x3 w2 =>
  some (x3, w2))
theorem s_X3_tongue (a0 : Nat) (a1 : Int32) (a2 : Int32) (w : aW) : Sp rvI M_X3_tongue [.ref a0, .int a1, .int a2] w (f_X3_tongue a0 a1 a2 w) := by
  refine e_entry [some (.ref a0), some (.int a1), some (.int a2)] (by decide +kernel) (Nat.le_of_ble_eq_true rfl) (fun _ => rfl) ?_
  unfold f_X3_tongue
  refine e_aload_n (pc := 0) dX3_tongue_0 rfl rfl ?_
  refine e_getR (pc := 1) dX3_tongue_1 hs_X3_10 (fun r1 => ?_)
  refine e_iload_n (pc := 4) dX3_tongue_4 rfl rfl ?_
  refine e_iload_n (pc := 5) dX3_tongue_5 rfl rfl ?_
  refine e_callV (pc := 6) (av := [.int a1, .int a2]) (S := []) (c0 := 0) rfl rfl ok_X0_changeTongue ⟨Nat.le_of_ble_eq_true rfl, Nat.le_of_ble_eq_true rfl⟩ hv_X3_129 dX3_tongue_6 (s_X0_changeTongue r1 a1 a2 w) rfl rfl (Nat.le_of_ble_eq_true rfl) (fun x3 w2 => ?_)
  exact e_iret (pc := 9) dX3_tongue_9 rfl rfl
def M_X3_means : aM := (yX3_means, cX3_means, 3, (some .int), 3, 65)
theorem ok_X3_means : a_okM M_X3_means 2 := ⟨⟨by decide +kernel, by decide +kernel⟩, by decide +kernel, a_in 451 (by decide +kernel) rfl, a_in 76 (by decide +kernel) rfl⟩
theorem dX3_means_0 : decode M_X3_means.2.1 0 = .ok (.aload_n 0, 1) := by decide +kernel
theorem dX3_means_1 : decode M_X3_means.2.1 1 = .ok (.getfield 10, 3) := by decide +kernel
theorem dX3_means_4 : decode M_X3_means.2.1 4 = .ok (.iload_n 1, 1) := by decide +kernel
theorem dX3_means_5 : decode M_X3_means.2.1 5 = .ok (.iload_n 2, 1) := by decide +kernel
theorem dX3_means_6 : decode M_X3_means.2.1 6 = .ok (.invokevirtual 132, 3) := by decide +kernel
theorem dX3_means_9 : decode M_X3_means.2.1 9 = .ok (.ireturn, 1) := by decide +kernel
def f_X3_means (a0 : Nat) (a1 : Int32) (a2 : Int32) (w : aW) : Option (Int32 × aW) :=
  (gR 2 w a0 0).bind fun r1 =>
  cV 0 w r1 (bk (f_X0_changeMeans r1 a1 a2 w) fun x3 w2 =>
  some (x3, w2))
theorem s_X3_means (a0 : Nat) (a1 : Int32) (a2 : Int32) (w : aW) : Sp rvI M_X3_means [.ref a0, .int a1, .int a2] w (f_X3_means a0 a1 a2 w) := by
  refine e_entry [some (.ref a0), some (.int a1), some (.int a2)] (by decide +kernel) (Nat.le_of_ble_eq_true rfl) (fun _ => rfl) ?_
  unfold f_X3_means
  refine e_aload_n (pc := 0) dX3_means_0 rfl rfl ?_
  refine e_getR (pc := 1) dX3_means_1 hs_X3_10 (fun r1 => ?_)
  refine e_iload_n (pc := 4) dX3_means_4 rfl rfl ?_
  refine e_iload_n (pc := 5) dX3_means_5 rfl rfl ?_
  refine e_callV (pc := 6) (av := [.int a1, .int a2]) (S := []) (c0 := 0) rfl rfl ok_X0_changeMeans ⟨Nat.le_of_ble_eq_true rfl, Nat.le_of_ble_eq_true rfl⟩ hv_X3_132 dX3_means_6 (s_X0_changeMeans r1 a1 a2 w) rfl rfl (Nat.le_of_ble_eq_true rfl) (fun x3 w2 => ?_)
  exact e_iret (pc := 9) dX3_means_9 rfl rfl
def M_X3_days : aM := (yX3_days, cX3_days, 2, (some .int), 5, 113)
theorem ok_X3_days : a_okM M_X3_days 1 := ⟨⟨by decide +kernel, by decide +kernel⟩, by decide +kernel, a_in 455 (by decide +kernel) rfl, a_in 76 (by decide +kernel) rfl⟩
theorem dX3_days_0 : decode M_X3_days.2.1 0 = .ok (.aload_n 0, 1) := by decide +kernel
theorem dX3_days_1 : decode M_X3_days.2.1 1 = .ok (.getfield 10, 3) := by decide +kernel
theorem dX3_days_4 : decode M_X3_days.2.1 4 = .ok (.iload_n 1, 1) := by decide +kernel
theorem dX3_days_5 : decode M_X3_days.2.1 5 = .ok (.invokevirtual 135, 3) := by decide +kernel
theorem dX3_days_8 : decode M_X3_days.2.1 8 = .ok (.ireturn, 1) := by decide +kernel
def f_X3_days (a0 : Nat) (a1 : Int32) (w : aW) : Option (Int32 × aW) :=
  (gR 2 w a0 0).bind fun r1 =>
  cV 0 w r1 (bk (f_X0_goDays r1 a1 w) fun x3 w2 =>
  some (x3, w2))
theorem s_X3_days (a0 : Nat) (a1 : Int32) (w : aW) : Sp rvI M_X3_days [.ref a0, .int a1] w (f_X3_days a0 a1 w) := by
  refine e_entry [some (.ref a0), some (.int a1)] (by decide +kernel) (Nat.le_of_ble_eq_true rfl) (fun _ => rfl) ?_
  unfold f_X3_days
  refine e_aload_n (pc := 0) dX3_days_0 rfl rfl ?_
  refine e_getR (pc := 1) dX3_days_1 hs_X3_10 (fun r1 => ?_)
  refine e_iload_n (pc := 4) dX3_days_4 rfl rfl ?_
  refine e_callV (pc := 5) (av := [.int a1]) (S := []) (c0 := 0) rfl rfl ok_X0_goDays ⟨Nat.le_of_ble_eq_true rfl, Nat.le_of_ble_eq_true rfl⟩ hv_X3_135 dX3_days_5 (s_X0_goDays r1 a1 w) rfl rfl (Nat.le_of_ble_eq_true rfl) (fun x3 w2 => ?_)
  exact e_iret (pc := 8) dX3_days_8 rfl rfl
def M_X3_beastThen : aM := (yX3_beastThen, cX3_beastThen, 4, (some .int), 5, 113)
theorem ok_X3_beastThen : a_okM M_X3_beastThen 3 := ⟨⟨by decide +kernel, by decide +kernel⟩, by decide +kernel, a_in 459 (by decide +kernel) rfl, a_in 76 (by decide +kernel) rfl⟩
theorem dX3_beastThen_0 : decode M_X3_beastThen.2.1 0 = .ok (.aload_n 0, 1) := by decide +kernel
theorem dX3_beastThen_1 : decode M_X3_beastThen.2.1 1 = .ok (.getfield 10, 3) := by decide +kernel
theorem dX3_beastThen_4 : decode M_X3_beastThen.2.1 4 = .ok (.iload_n 1, 1) := by decide +kernel
theorem dX3_beastThen_5 : decode M_X3_beastThen.2.1 5 = .ok (.invokevirtual 83, 3) := by decide +kernel
theorem dX3_beastThen_8 : decode M_X3_beastThen.2.1 8 = .ok (.ifCond .eq 22, 3) := by decide +kernel
theorem dX3_beastThen_11 : decode M_X3_beastThen.2.1 11 = .ok (.iload_n 2, 1) := by decide +kernel
theorem dX3_beastThen_12 : decode M_X3_beastThen.2.1 12 = .ok (.iconst 0, 1) := by decide +kernel
theorem dX3_beastThen_13 : decode M_X3_beastThen.2.1 13 = .ok (.bipush 60, 2) := by decide +kernel
theorem dX3_beastThen_15 : decode M_X3_beastThen.2.1 15 = .ok (.invokestatic 87, 3) := by decide +kernel
theorem dX3_beastThen_18 : decode M_X3_beastThen.2.1 18 = .ok (.ifCond .eq 12, 3) := by decide +kernel
theorem dX3_beastThen_21 : decode M_X3_beastThen.2.1 21 = .ok (.iload_n 3, 1) := by decide +kernel
theorem dX3_beastThen_22 : decode M_X3_beastThen.2.1 22 = .ok (.iconst 0, 1) := by decide +kernel
theorem dX3_beastThen_23 : decode M_X3_beastThen.2.1 23 = .ok (.iconst 2, 1) := by decide +kernel
theorem dX3_beastThen_24 : decode M_X3_beastThen.2.1 24 = .ok (.invokestatic 87, 3) := by decide +kernel
theorem dX3_beastThen_27 : decode M_X3_beastThen.2.1 27 = .ok (.ifCond .ne 5, 3) := by decide +kernel
theorem dX3_beastThen_30 : decode M_X3_beastThen.2.1 30 = .ok (.iconst (-1), 1) := by decide +kernel
theorem dX3_beastThen_31 : decode M_X3_beastThen.2.1 31 = .ok (.ireturn, 1) := by decide +kernel
theorem dX3_beastThen_32 : decode M_X3_beastThen.2.1 32 = .ok (.aload_n 0, 1) := by decide +kernel
theorem dX3_beastThen_33 : decode M_X3_beastThen.2.1 33 = .ok (.invokevirtual 56, 3) := by decide +kernel
theorem dX3_beastThen_36 : decode M_X3_beastThen.2.1 36 = .ok (.aload_n 0, 1) := by decide +kernel
theorem dX3_beastThen_37 : decode M_X3_beastThen.2.1 37 = .ok (.getfield 16, 3) := by decide +kernel
theorem dX3_beastThen_40 : decode M_X3_beastThen.2.1 40 = .ok (.iload_n 2, 1) := by decide +kernel
theorem dX3_beastThen_41 : decode M_X3_beastThen.2.1 41 = .ok (.invokevirtual 138, 3) := by decide +kernel
theorem dX3_beastThen_44 : decode M_X3_beastThen.2.1 44 = .ok (.aload_n 0, 1) := by decide +kernel
theorem dX3_beastThen_45 : decode M_X3_beastThen.2.1 45 = .ok (.getfield 16, 3) := by decide +kernel
theorem dX3_beastThen_48 : decode M_X3_beastThen.2.1 48 = .ok (.iload_n 1, 1) := by decide +kernel
theorem dX3_beastThen_49 : decode M_X3_beastThen.2.1 49 = .ok (.iload_n 3, 1) := by decide +kernel
theorem dX3_beastThen_50 : decode M_X3_beastThen.2.1 50 = .ok (.iconst 2, 1) := by decide +kernel
theorem dX3_beastThen_51 : decode M_X3_beastThen.2.1 51 = .ok (.iadd, 1) := by decide +kernel
theorem dX3_beastThen_52 : decode M_X3_beastThen.2.1 52 = .ok (.invokevirtual 91, 3) := by decide +kernel
theorem dX3_beastThen_55 : decode M_X3_beastThen.2.1 55 = .ok (.ireturn, 1) := by decide +kernel
theorem hv_X3_138 : a_okV RX3 M_X0_passDays 138 := ⟨a_in 460 (by decide +kernel) rfl, a_in 461 (by decide +kernel) rfl, a_in 462 (by decide +kernel) rfl⟩
def f_X3_beastThen (a0 : Nat) (a1 : Int32) (a2 : Int32) (a3 : Int32) (w : aW) : Option (Int32 × aW) :=
  (gR 2 w a0 0).bind fun r1 =>
  cV 0 w r1 (bk (f_X0_hasBeast r1 a1 w) fun x3 w2 =>
  if x3 = (0 : Int32) then
    some ((-1 : Int32), w2)
  else
    bk (f_X3_within a2 (0 : Int32) (60 : Int32) w2) fun x5 w4 =>
    if x5 = (0 : Int32) then
      some ((-1 : Int32), w4)
    else
      bk (f_X3_within a3 (0 : Int32) (2 : Int32) w4) fun x7 w6 =>
      if ¬ x7 = (0 : Int32) then
        cV 2 w6 a0 (bk (f_X3_think a0 w6) fun _ w8 =>
        (gR 2 w8 a0 1).bind fun r9 =>
        cV 0 w8 r9 (bk (f_X0_passDays r9 a2 w8) fun _ w10 =>
        (gR 2 w10 a0 1).bind fun r11 =>
        cV 0 w10 r11 (bk (f_X0_toldOfBeast r11 a1 (a3 + (2 : Int32)) w10) fun x13 w12 =>
        some (x13, w12))))
      else
        some ((-1 : Int32), w6))
theorem s_X3_beastThen (a0 : Nat) (a1 : Int32) (a2 : Int32) (a3 : Int32) (w : aW) : Sp rvI M_X3_beastThen [.ref a0, .int a1, .int a2, .int a3] w (f_X3_beastThen a0 a1 a2 a3 w) := by
  refine e_entry [some (.ref a0), some (.int a1), some (.int a2), some (.int a3)] (by decide +kernel) (Nat.le_of_ble_eq_true rfl) (fun _ => rfl) ?_
  unfold f_X3_beastThen
  refine e_aload_n (pc := 0) dX3_beastThen_0 rfl rfl ?_
  refine e_getR (pc := 1) dX3_beastThen_1 hs_X3_10 (fun r1 => ?_)
  refine e_iload_n (pc := 4) dX3_beastThen_4 rfl rfl ?_
  refine e_callV (pc := 5) (av := [.int a1]) (S := []) (c0 := 0) rfl rfl ok_X0_hasBeast ⟨Nat.le_of_ble_eq_true rfl, Nat.le_of_ble_eq_true rfl⟩ hv_X3_83 dX3_beastThen_5 (s_X0_hasBeast r1 a1 w) rfl rfl (Nat.le_of_ble_eq_true rfl) (fun x3 w2 => ?_)
  refine e_if_eq (pc := 8) (tgt := 30) dX3_beastThen_8 (by decide) (fun _ => ?_) (fun _ => ?_)
  · refine e_iconst (pc := 30) dX3_beastThen_30 kc_m1 ?_
    exact e_iret (pc := 31) dX3_beastThen_31 rfl rfl
  · refine e_iload_n (pc := 11) dX3_beastThen_11 rfl rfl ?_
    refine e_iconst (pc := 12) dX3_beastThen_12 kc_0 ?_
    refine e_bipush (pc := 13) dX3_beastThen_13 kb_60 ?_
    refine e_callS (pc := 15) (av := [.int a2, .int (0 : Int32), .int (60 : Int32)]) (S := []) ok_X3_within ⟨Nat.le_of_ble_eq_true rfl, Nat.le_of_ble_eq_true rfl⟩ ht_X3_87 dX3_beastThen_15 (s_X3_within a2 (0 : Int32) (60 : Int32) w2) rfl rfl (Nat.le_of_ble_eq_true rfl) (fun x5 w4 => ?_)
    refine e_if_eq (pc := 18) (tgt := 30) dX3_beastThen_18 (by decide) (fun _ => ?_) (fun _ => ?_)
    · refine e_iconst (pc := 30) dX3_beastThen_30 kc_m1 ?_
      exact e_iret (pc := 31) dX3_beastThen_31 rfl rfl
    · refine e_iload_n (pc := 21) dX3_beastThen_21 rfl rfl ?_
      refine e_iconst (pc := 22) dX3_beastThen_22 kc_0 ?_
      refine e_iconst (pc := 23) dX3_beastThen_23 kc_2 ?_
      refine e_callS (pc := 24) (av := [.int a3, .int (0 : Int32), .int (2 : Int32)]) (S := []) ok_X3_within ⟨Nat.le_of_ble_eq_true rfl, Nat.le_of_ble_eq_true rfl⟩ ht_X3_87 dX3_beastThen_24 (s_X3_within a3 (0 : Int32) (2 : Int32) w4) rfl rfl (Nat.le_of_ble_eq_true rfl) (fun x7 w6 => ?_)
      refine e_if_ne (pc := 27) (tgt := 32) dX3_beastThen_27 (by decide) (fun _ => ?_) (fun _ => ?_)
      · refine e_aload_n (pc := 32) dX3_beastThen_32 rfl rfl ?_
        refine e_callV (pc := 33) (av := []) (S := []) (c0 := 2) rfl rfl ok_X3_think ⟨Nat.le_of_ble_eq_true rfl, Nat.le_of_ble_eq_true rfl⟩ hv_X3_56 dX3_beastThen_33 (s_X3_think a0 w6) rfl rfl (Nat.le_of_ble_eq_true rfl) (fun _ w8 => ?_)
        refine e_aload_n (pc := 36) dX3_beastThen_36 rfl rfl ?_
        refine e_getR (pc := 37) dX3_beastThen_37 hs_X3_16 (fun r9 => ?_)
        refine e_iload_n (pc := 40) dX3_beastThen_40 rfl rfl ?_
        refine e_callV (pc := 41) (av := [.int a2]) (S := []) (c0 := 0) rfl rfl ok_X0_passDays ⟨Nat.le_of_ble_eq_true rfl, Nat.le_of_ble_eq_true rfl⟩ hv_X3_138 dX3_beastThen_41 (s_X0_passDays r9 a2 w8) rfl rfl (Nat.le_of_ble_eq_true rfl) (fun _ w10 => ?_)
        refine e_aload_n (pc := 44) dX3_beastThen_44 rfl rfl ?_
        refine e_getR (pc := 45) dX3_beastThen_45 hs_X3_16 (fun r11 => ?_)
        refine e_iload_n (pc := 48) dX3_beastThen_48 rfl rfl ?_
        refine e_iload_n (pc := 49) dX3_beastThen_49 rfl rfl ?_
        refine e_iconst (pc := 50) dX3_beastThen_50 kc_2 ?_
        refine e_iadd (pc := 51) dX3_beastThen_51 ?_
        refine e_callV (pc := 52) (av := [.int a1, .int (a3 + (2 : Int32))]) (S := []) (c0 := 0) rfl rfl ok_X0_toldOfBeast ⟨Nat.le_of_ble_eq_true rfl, Nat.le_of_ble_eq_true rfl⟩ hv_X3_91 dX3_beastThen_52 (s_X0_toldOfBeast r11 a1 (a3 + (2 : Int32)) w10) rfl rfl (Nat.le_of_ble_eq_true rfl) (fun x13 w12 => ?_)
        exact e_iret (pc := 55) dX3_beastThen_55 rfl rfl
      · refine e_iconst (pc := 30) dX3_beastThen_30 kc_m1 ?_
        exact e_iret (pc := 31) dX3_beastThen_31 rfl rfl
def M_X3_personThen : aM := (yX3_personThen, cX3_personThen, 4, (some .int), 5, 113)
theorem ok_X3_personThen : a_okM M_X3_personThen 3 := ⟨⟨by decide +kernel, by decide +kernel⟩, by decide +kernel, a_in 467 (by decide +kernel) rfl, a_in 76 (by decide +kernel) rfl⟩
theorem dX3_personThen_0 : decode M_X3_personThen.2.1 0 = .ok (.iload_n 1, 1) := by decide +kernel
theorem dX3_personThen_1 : decode M_X3_personThen.2.1 1 = .ok (.invokestatic 94, 3) := by decide +kernel
theorem dX3_personThen_4 : decode M_X3_personThen.2.1 4 = .ok (.ifCond .eq 22, 3) := by decide +kernel
theorem dX3_personThen_7 : decode M_X3_personThen.2.1 7 = .ok (.iload_n 2, 1) := by decide +kernel
theorem dX3_personThen_8 : decode M_X3_personThen.2.1 8 = .ok (.iconst 0, 1) := by decide +kernel
theorem dX3_personThen_9 : decode M_X3_personThen.2.1 9 = .ok (.bipush 60, 2) := by decide +kernel
theorem dX3_personThen_11 : decode M_X3_personThen.2.1 11 = .ok (.invokestatic 87, 3) := by decide +kernel
theorem dX3_personThen_14 : decode M_X3_personThen.2.1 14 = .ok (.ifCond .eq 12, 3) := by decide +kernel
theorem dX3_personThen_17 : decode M_X3_personThen.2.1 17 = .ok (.iload_n 3, 1) := by decide +kernel
theorem dX3_personThen_18 : decode M_X3_personThen.2.1 18 = .ok (.iconst 0, 1) := by decide +kernel
theorem dX3_personThen_19 : decode M_X3_personThen.2.1 19 = .ok (.iconst 2, 1) := by decide +kernel
theorem dX3_personThen_20 : decode M_X3_personThen.2.1 20 = .ok (.invokestatic 87, 3) := by decide +kernel
theorem dX3_personThen_23 : decode M_X3_personThen.2.1 23 = .ok (.ifCond .ne 5, 3) := by decide +kernel
theorem dX3_personThen_26 : decode M_X3_personThen.2.1 26 = .ok (.iconst (-1), 1) := by decide +kernel
theorem dX3_personThen_27 : decode M_X3_personThen.2.1 27 = .ok (.ireturn, 1) := by decide +kernel
theorem dX3_personThen_28 : decode M_X3_personThen.2.1 28 = .ok (.aload_n 0, 1) := by decide +kernel
theorem dX3_personThen_29 : decode M_X3_personThen.2.1 29 = .ok (.invokevirtual 56, 3) := by decide +kernel
theorem dX3_personThen_32 : decode M_X3_personThen.2.1 32 = .ok (.aload_n 0, 1) := by decide +kernel
theorem dX3_personThen_33 : decode M_X3_personThen.2.1 33 = .ok (.getfield 16, 3) := by decide +kernel
theorem dX3_personThen_36 : decode M_X3_personThen.2.1 36 = .ok (.iload_n 2, 1) := by decide +kernel
theorem dX3_personThen_37 : decode M_X3_personThen.2.1 37 = .ok (.invokevirtual 138, 3) := by decide +kernel
theorem dX3_personThen_40 : decode M_X3_personThen.2.1 40 = .ok (.iload_n 3, 1) := by decide +kernel
theorem dX3_personThen_41 : decode M_X3_personThen.2.1 41 = .ok (.ifCond .ne 13, 3) := by decide +kernel
theorem dX3_personThen_44 : decode M_X3_personThen.2.1 44 = .ok (.aload_n 0, 1) := by decide +kernel
theorem dX3_personThen_45 : decode M_X3_personThen.2.1 45 = .ok (.getfield 16, 3) := by decide +kernel
theorem dX3_personThen_48 : decode M_X3_personThen.2.1 48 = .ok (.getfield 142, 3) := by decide +kernel
theorem dX3_personThen_51 : decode M_X3_personThen.2.1 51 = .ok (.iload_n 1, 1) := by decide +kernel
theorem dX3_personThen_52 : decode M_X3_personThen.2.1 52 = .ok (.iaload, 1) := by decide +kernel
theorem dX3_personThen_53 : decode M_X3_personThen.2.1 53 = .ok (.ireturn, 1) := by decide +kernel
theorem dX3_personThen_54 : decode M_X3_personThen.2.1 54 = .ok (.iload_n 3, 1) := by decide +kernel
theorem dX3_personThen_55 : decode M_X3_personThen.2.1 55 = .ok (.iconst 1, 1) := by decide +kernel
theorem dX3_personThen_56 : decode M_X3_personThen.2.1 56 = .ok (.if_icmp .ne 15, 3) := by decide +kernel
theorem dX3_personThen_59 : decode M_X3_personThen.2.1 59 = .ok (.aload_n 0, 1) := by decide +kernel
theorem dX3_personThen_60 : decode M_X3_personThen.2.1 60 = .ok (.getfield 16, 3) := by decide +kernel
theorem dX3_personThen_63 : decode M_X3_personThen.2.1 63 = .ok (.getfield 145, 3) := by decide +kernel
theorem dX3_personThen_66 : decode M_X3_personThen.2.1 66 = .ok (.iload_n 1, 1) := by decide +kernel
theorem dX3_personThen_67 : decode M_X3_personThen.2.1 67 = .ok (.iaload, 1) := by decide +kernel
theorem dX3_personThen_68 : decode M_X3_personThen.2.1 68 = .ok (.goto 11, 3) := by decide +kernel
theorem dX3_personThen_71 : decode M_X3_personThen.2.1 71 = .ok (.aload_n 0, 1) := by decide +kernel
theorem dX3_personThen_72 : decode M_X3_personThen.2.1 72 = .ok (.getfield 16, 3) := by decide +kernel
theorem dX3_personThen_75 : decode M_X3_personThen.2.1 75 = .ok (.iload_n 1, 1) := by decide +kernel
theorem dX3_personThen_76 : decode M_X3_personThen.2.1 76 = .ok (.invokevirtual 148, 3) := by decide +kernel
theorem dX3_personThen_79 : decode M_X3_personThen.2.1 79 = .ok (.ireturn, 1) := by decide +kernel
theorem hv_X3_148 : a_okV RX3 M_X0_calledBy 148 := ⟨a_in 468 (by decide +kernel) rfl, a_in 408 (by decide +kernel) rfl, a_in 409 (by decide +kernel) rfl⟩
theorem hs_X3_145 : a_fs RX3 145 0 12 := ⟨RX0, TX0, 13, rfl, tin_X0, by decide, a_in 129 (by decide +kernel) rfl⟩
theorem hs_X3_142 : a_fs RX3 142 0 9 := ⟨RX0, TX0, 13, rfl, tin_X0, by decide, a_in 123 (by decide +kernel) rfl⟩
def f_X3_personThen (a0 : Nat) (a1 : Int32) (a2 : Int32) (a3 : Int32) (w : aW) : Option (Int32 × aW) :=
  bk (f_X3_isPerson a1 w) fun x2 w1 =>
  if x2 = (0 : Int32) then
    some ((-1 : Int32), w1)
  else
    bk (f_X3_within a2 (0 : Int32) (60 : Int32) w1) fun x4 w3 =>
    if x4 = (0 : Int32) then
      some ((-1 : Int32), w3)
    else
      bk (f_X3_within a3 (0 : Int32) (2 : Int32) w3) fun x6 w5 =>
      if ¬ x6 = (0 : Int32) then
        cV 2 w5 a0 (bk (f_X3_think a0 w5) fun _ w7 =>
        (gR 2 w7 a0 1).bind fun r8 =>
        cV 0 w7 r8 (bk (f_X0_passDays r8 a2 w7) fun _ w9 =>
        if ¬ a3 = (0 : Int32) then
          if ¬ a3 = (1 : Int32) then
            (gR 2 w9 a0 1).bind fun r10 =>
            cV 0 w9 r10 (bk (f_X0_calledBy r10 a1 w9) fun x12 w11 =>
            some (x12, w11))
          else
            (gR 2 w9 a0 1).bind fun r13 =>
            (gR 0 w9 r13 12).bind fun r14 =>
            (gA w9 r14 a1).bind fun x15 =>
            some (x15, w9)
        else
          (gR 2 w9 a0 1).bind fun r16 =>
          (gR 0 w9 r16 9).bind fun r17 =>
          (gA w9 r17 a1).bind fun x18 =>
          some (x18, w9)))
      else
        some ((-1 : Int32), w5)
theorem s_X3_personThen (a0 : Nat) (a1 : Int32) (a2 : Int32) (a3 : Int32) (w : aW) : Sp rvI M_X3_personThen [.ref a0, .int a1, .int a2, .int a3] w (f_X3_personThen a0 a1 a2 a3 w) := by
  refine e_entry [some (.ref a0), some (.int a1), some (.int a2), some (.int a3)] (by decide +kernel) (Nat.le_of_ble_eq_true rfl) (fun _ => rfl) ?_
  unfold f_X3_personThen
  refine e_iload_n (pc := 0) dX3_personThen_0 rfl rfl ?_
  refine e_callS (pc := 1) (av := [.int a1]) (S := []) ok_X3_isPerson ⟨Nat.le_of_ble_eq_true rfl, Nat.le_of_ble_eq_true rfl⟩ ht_X3_94 dX3_personThen_1 (s_X3_isPerson a1 w) rfl rfl (Nat.le_of_ble_eq_true rfl) (fun x2 w1 => ?_)
  refine e_if_eq (pc := 4) (tgt := 26) dX3_personThen_4 (by decide) (fun _ => ?_) (fun _ => ?_)
  · refine e_iconst (pc := 26) dX3_personThen_26 kc_m1 ?_
    exact e_iret (pc := 27) dX3_personThen_27 rfl rfl
  · refine e_iload_n (pc := 7) dX3_personThen_7 rfl rfl ?_
    refine e_iconst (pc := 8) dX3_personThen_8 kc_0 ?_
    refine e_bipush (pc := 9) dX3_personThen_9 kb_60 ?_
    refine e_callS (pc := 11) (av := [.int a2, .int (0 : Int32), .int (60 : Int32)]) (S := []) ok_X3_within ⟨Nat.le_of_ble_eq_true rfl, Nat.le_of_ble_eq_true rfl⟩ ht_X3_87 dX3_personThen_11 (s_X3_within a2 (0 : Int32) (60 : Int32) w1) rfl rfl (Nat.le_of_ble_eq_true rfl) (fun x4 w3 => ?_)
    refine e_if_eq (pc := 14) (tgt := 26) dX3_personThen_14 (by decide) (fun _ => ?_) (fun _ => ?_)
    · refine e_iconst (pc := 26) dX3_personThen_26 kc_m1 ?_
      exact e_iret (pc := 27) dX3_personThen_27 rfl rfl
    · refine e_iload_n (pc := 17) dX3_personThen_17 rfl rfl ?_
      refine e_iconst (pc := 18) dX3_personThen_18 kc_0 ?_
      refine e_iconst (pc := 19) dX3_personThen_19 kc_2 ?_
      refine e_callS (pc := 20) (av := [.int a3, .int (0 : Int32), .int (2 : Int32)]) (S := []) ok_X3_within ⟨Nat.le_of_ble_eq_true rfl, Nat.le_of_ble_eq_true rfl⟩ ht_X3_87 dX3_personThen_20 (s_X3_within a3 (0 : Int32) (2 : Int32) w3) rfl rfl (Nat.le_of_ble_eq_true rfl) (fun x6 w5 => ?_)
      refine e_if_ne (pc := 23) (tgt := 28) dX3_personThen_23 (by decide) (fun _ => ?_) (fun _ => ?_)
      · refine e_aload_n (pc := 28) dX3_personThen_28 rfl rfl ?_
        refine e_callV (pc := 29) (av := []) (S := []) (c0 := 2) rfl rfl ok_X3_think ⟨Nat.le_of_ble_eq_true rfl, Nat.le_of_ble_eq_true rfl⟩ hv_X3_56 dX3_personThen_29 (s_X3_think a0 w5) rfl rfl (Nat.le_of_ble_eq_true rfl) (fun _ w7 => ?_)
        refine e_aload_n (pc := 32) dX3_personThen_32 rfl rfl ?_
        refine e_getR (pc := 33) dX3_personThen_33 hs_X3_16 (fun r8 => ?_)
        refine e_iload_n (pc := 36) dX3_personThen_36 rfl rfl ?_
        refine e_callV (pc := 37) (av := [.int a2]) (S := []) (c0 := 0) rfl rfl ok_X0_passDays ⟨Nat.le_of_ble_eq_true rfl, Nat.le_of_ble_eq_true rfl⟩ hv_X3_138 dX3_personThen_37 (s_X0_passDays r8 a2 w7) rfl rfl (Nat.le_of_ble_eq_true rfl) (fun _ w9 => ?_)
        refine e_iload_n (pc := 40) dX3_personThen_40 rfl rfl ?_
        refine e_if_ne (pc := 41) (tgt := 54) dX3_personThen_41 (by decide) (fun _ => ?_) (fun _ => ?_)
        · refine e_iload_n (pc := 54) dX3_personThen_54 rfl rfl ?_
          refine e_iconst (pc := 55) dX3_personThen_55 kc_1 ?_
          refine e_icmp_ne (pc := 56) (tgt := 71) dX3_personThen_56 (by decide) (fun _ => ?_) (fun _ => ?_)
          · refine e_aload_n (pc := 71) dX3_personThen_71 rfl rfl ?_
            refine e_getR (pc := 72) dX3_personThen_72 hs_X3_16 (fun r10 => ?_)
            refine e_iload_n (pc := 75) dX3_personThen_75 rfl rfl ?_
            refine e_callV (pc := 76) (av := [.int a1]) (S := []) (c0 := 0) rfl rfl ok_X0_calledBy ⟨Nat.le_of_ble_eq_true rfl, Nat.le_of_ble_eq_true rfl⟩ hv_X3_148 dX3_personThen_76 (s_X0_calledBy r10 a1 w9) rfl rfl (Nat.le_of_ble_eq_true rfl) (fun x12 w11 => ?_)
            exact e_iret (pc := 79) dX3_personThen_79 rfl rfl
          · refine e_aload_n (pc := 59) dX3_personThen_59 rfl rfl ?_
            refine e_getR (pc := 60) dX3_personThen_60 hs_X3_16 (fun r13 => ?_)
            refine e_getR (pc := 63) dX3_personThen_63 hs_X3_145 (fun r14 => ?_)
            refine e_iload_n (pc := 66) dX3_personThen_66 rfl rfl ?_
            refine e_iald (pc := 67) dX3_personThen_67 (fun x15 => ?_)
            refine e_goto (pc := 68) (tgt := 79) dX3_personThen_68 (by decide) ?_
            exact e_iret (pc := 79) dX3_personThen_79 rfl rfl
        · refine e_aload_n (pc := 44) dX3_personThen_44 rfl rfl ?_
          refine e_getR (pc := 45) dX3_personThen_45 hs_X3_16 (fun r16 => ?_)
          refine e_getR (pc := 48) dX3_personThen_48 hs_X3_142 (fun r17 => ?_)
          refine e_iload_n (pc := 51) dX3_personThen_51 rfl rfl ?_
          refine e_iald (pc := 52) dX3_personThen_52 (fun x18 => ?_)
          exact e_iret (pc := 53) dX3_personThen_53 rfl rfl
      · refine e_iconst (pc := 26) dX3_personThen_26 kc_m1 ?_
        exact e_iret (pc := 27) dX3_personThen_27 rfl rfl
def M_X3_named : aM := (yX3_named, cX3_named, 4, (some .int), 4, 101)
theorem ok_X3_named : a_okM M_X3_named 2 := ⟨⟨by decide +kernel, by decide +kernel⟩, by decide +kernel, a_in 472 (by decide +kernel) rfl, a_in 76 (by decide +kernel) rfl⟩
theorem dX3_named_0 : decode M_X3_named.2.1 0 = .ok (.aload_n 0, 1) := by decide +kernel
theorem dX3_named_1 : decode M_X3_named.2.1 1 = .ok (.getfield 10, 3) := by decide +kernel
theorem dX3_named_4 : decode M_X3_named.2.1 4 = .ok (.iload_n 1, 1) := by decide +kernel
theorem dX3_named_5 : decode M_X3_named.2.1 5 = .ok (.invokevirtual 83, 3) := by decide +kernel
theorem dX3_named_8 : decode M_X3_named.2.1 8 = .ok (.ifCond .eq 12, 3) := by decide +kernel
theorem dX3_named_11 : decode M_X3_named.2.1 11 = .ok (.iload_n 2, 1) := by decide +kernel
theorem dX3_named_12 : decode M_X3_named.2.1 12 = .ok (.iconst 0, 1) := by decide +kernel
theorem dX3_named_13 : decode M_X3_named.2.1 13 = .ok (.iconst 1, 1) := by decide +kernel
theorem dX3_named_14 : decode M_X3_named.2.1 14 = .ok (.invokestatic 87, 3) := by decide +kernel
theorem dX3_named_17 : decode M_X3_named.2.1 17 = .ok (.ifCond .ne 5, 3) := by decide +kernel
theorem dX3_named_20 : decode M_X3_named.2.1 20 = .ok (.iconst (-1), 1) := by decide +kernel
theorem dX3_named_21 : decode M_X3_named.2.1 21 = .ok (.ireturn, 1) := by decide +kernel
theorem dX3_named_22 : decode M_X3_named.2.1 22 = .ok (.aload_n 0, 1) := by decide +kernel
theorem dX3_named_23 : decode M_X3_named.2.1 23 = .ok (.invokevirtual 56, 3) := by decide +kernel
theorem dX3_named_26 : decode M_X3_named.2.1 26 = .ok (.iconst 0, 1) := by decide +kernel
theorem dX3_named_27 : decode M_X3_named.2.1 27 = .ok (.istore_n 3, 1) := by decide +kernel
theorem dX3_named_28 : decode M_X3_named.2.1 28 = .ok (.iload_n 3, 1) := by decide +kernel
theorem dX3_named_29 : decode M_X3_named.2.1 29 = .ok (.bipush 60, 2) := by decide +kernel
theorem dX3_named_31 : decode M_X3_named.2.1 31 = .ok (.if_icmp .gt 49, 3) := by decide +kernel
theorem dX3_named_34 : decode M_X3_named.2.1 34 = .ok (.aload_n 0, 1) := by decide +kernel
theorem dX3_named_35 : decode M_X3_named.2.1 35 = .ok (.getfield 16, 3) := by decide +kernel
theorem dX3_named_38 : decode M_X3_named.2.1 38 = .ok (.getfield 151, 3) := by decide +kernel
theorem dX3_named_41 : decode M_X3_named.2.1 41 = .ok (.iload_n 1, 1) := by decide +kernel
theorem dX3_named_42 : decode M_X3_named.2.1 42 = .ok (.iaload, 1) := by decide +kernel
theorem dX3_named_43 : decode M_X3_named.2.1 43 = .ok (.bipush (-4), 2) := by decide +kernel
theorem dX3_named_45 : decode M_X3_named.2.1 45 = .ok (.if_icmp .eq 21, 3) := by decide +kernel
theorem dX3_named_48 : decode M_X3_named.2.1 48 = .ok (.iload_n 2, 1) := by decide +kernel
theorem dX3_named_49 : decode M_X3_named.2.1 49 = .ok (.ifCond .ne 7, 3) := by decide +kernel
theorem dX3_named_52 : decode M_X3_named.2.1 52 = .ok (.iload_n 3, 1) := by decide +kernel
theorem dX3_named_53 : decode M_X3_named.2.1 53 = .ok (.goto 12, 3) := by decide +kernel
theorem dX3_named_56 : decode M_X3_named.2.1 56 = .ok (.aload_n 0, 1) := by decide +kernel
theorem dX3_named_57 : decode M_X3_named.2.1 57 = .ok (.getfield 16, 3) := by decide +kernel
theorem dX3_named_60 : decode M_X3_named.2.1 60 = .ok (.getfield 151, 3) := by decide +kernel
theorem dX3_named_63 : decode M_X3_named.2.1 63 = .ok (.iload_n 1, 1) := by decide +kernel
theorem dX3_named_64 : decode M_X3_named.2.1 64 = .ok (.iaload, 1) := by decide +kernel
theorem dX3_named_65 : decode M_X3_named.2.1 65 = .ok (.ireturn, 1) := by decide +kernel
theorem dX3_named_66 : decode M_X3_named.2.1 66 = .ok (.aload_n 0, 1) := by decide +kernel
theorem dX3_named_67 : decode M_X3_named.2.1 67 = .ok (.getfield 16, 3) := by decide +kernel
theorem dX3_named_70 : decode M_X3_named.2.1 70 = .ok (.iconst 0, 1) := by decide +kernel
theorem dX3_named_71 : decode M_X3_named.2.1 71 = .ok (.invokevirtual 154, 3) := by decide +kernel
theorem dX3_named_74 : decode M_X3_named.2.1 74 = .ok (.iinc 3 1, 3) := by decide +kernel
theorem dX3_named_77 : decode M_X3_named.2.1 77 = .ok (.goto (-49), 3) := by decide +kernel
theorem dX3_named_80 : decode M_X3_named.2.1 80 = .ok (.bipush (-4), 2) := by decide +kernel
theorem dX3_named_82 : decode M_X3_named.2.1 82 = .ok (.ireturn, 1) := by decide +kernel
theorem hs_X3_151 : a_fs RX3 151 0 8 := ⟨RX0, TX0, 13, rfl, tin_X0, by decide, a_in 121 (by decide +kernel) rfl⟩
theorem hv_X3_154 : a_okV RX3 M_X0_passDay 154 := ⟨a_in 473 (by decide +kernel) rfl, a_in 315 (by decide +kernel) rfl, a_in 316 (by decide +kernel) rfl⟩
def c_X3_named_28 (a0 : Nat) (a1 : Int32) (a2 : Int32) (k28 : Int32 → aW → Option (Int32 × aW)) (b3 : Int32) (w : aW) : Option (Int32 × aW) :=
  if (60 : Int32) < b3 then
    some ((-4 : Int32), w)
  else
    (gR 2 w a0 1).bind fun r7 =>
    (gR 0 w r7 8).bind fun r8 =>
    (gA w r8 a1).bind fun x9 =>
    if x9 = (-4 : Int32) then
      (gR 2 w a0 1).bind fun r10 =>
      cV 0 w r10 (bk (f_X0_passDay r10 (0 : Int32) w) fun _ w11 =>
      k28 (b3 + 1) w11)
    else
      if ¬ a2 = (0 : Int32) then
        (gR 2 w a0 1).bind fun r12 =>
        (gR 0 w r12 8).bind fun r13 =>
        (gA w r13 a1).bind fun x14 =>
        some (x14, w)
      else
        some (b3, w)
theorem t_X3_named_28 (a0 : Nat) (a1 : Int32) (a2 : Int32) (k28 : Int32 → aW → Option (Int32 × aW)) (hk28 : ∀ (b3 : Int32) (w : aW), Ev rvI M_X3_named 28 [some (.ref a0), some (.int a1), some (.int a2), some (.int b3)] [] w (k28 b3 w)) (b3 : Int32) (w : aW) : Ev rvI M_X3_named 28 [some (.ref a0), some (.int a1), some (.int a2), some (.int b3)] [] w (c_X3_named_28 a0 a1 a2 k28 b3 w) := by
  unfold c_X3_named_28
  refine e_iload_n (pc := 28) dX3_named_28 rfl rfl ?_
  refine e_bipush (pc := 29) dX3_named_29 kb_60 ?_
  refine e_icmp_gt (pc := 31) (tgt := 80) dX3_named_31 (by decide) (fun _ => ?_) (fun _ => ?_)
  · refine e_bipush (pc := 80) dX3_named_80 kb_m4 ?_
    exact e_iret (pc := 82) dX3_named_82 rfl rfl
  · refine e_aload_n (pc := 34) dX3_named_34 rfl rfl ?_
    refine e_getR (pc := 35) dX3_named_35 hs_X3_16 (fun r7 => ?_)
    refine e_getR (pc := 38) dX3_named_38 hs_X3_151 (fun r8 => ?_)
    refine e_iload_n (pc := 41) dX3_named_41 rfl rfl ?_
    refine e_iald (pc := 42) dX3_named_42 (fun x9 => ?_)
    refine e_bipush (pc := 43) dX3_named_43 kb_m4 ?_
    refine e_icmp_eq (pc := 45) (tgt := 66) dX3_named_45 (by decide) (fun _ => ?_) (fun _ => ?_)
    · refine e_aload_n (pc := 66) dX3_named_66 rfl rfl ?_
      refine e_getR (pc := 67) dX3_named_67 hs_X3_16 (fun r10 => ?_)
      refine e_iconst (pc := 70) dX3_named_70 kc_0 ?_
      refine e_callV (pc := 71) (av := [.int (0 : Int32)]) (S := []) (c0 := 0) rfl rfl ok_X0_passDay ⟨Nat.le_of_ble_eq_true rfl, Nat.le_of_ble_eq_true rfl⟩ hv_X3_154 dX3_named_71 (s_X0_passDay r10 (0 : Int32) w) rfl rfl (Nat.le_of_ble_eq_true rfl) (fun _ w11 => ?_)
      refine e_iinc (L' := [some (.ref a0), some (.int a1), some (.int a2), some (.int (b3 + 1))]) (pc := 74) (v := 1) dX3_named_74 (by decide) rfl kc_1 rfl ?_
      refine e_goto (pc := 77) (tgt := 28) dX3_named_77 (by decide) ?_
      exact hk28 (b3 + 1) w11
    · refine e_iload_n (pc := 48) dX3_named_48 rfl rfl ?_
      refine e_if_ne (pc := 49) (tgt := 56) dX3_named_49 (by decide) (fun _ => ?_) (fun _ => ?_)
      · refine e_aload_n (pc := 56) dX3_named_56 rfl rfl ?_
        refine e_getR (pc := 57) dX3_named_57 hs_X3_16 (fun r12 => ?_)
        refine e_getR (pc := 60) dX3_named_60 hs_X3_151 (fun r13 => ?_)
        refine e_iload_n (pc := 63) dX3_named_63 rfl rfl ?_
        refine e_iald (pc := 64) dX3_named_64 (fun x14 => ?_)
        exact e_iret (pc := 65) dX3_named_65 rfl rfl
      · refine e_iload_n (pc := 52) dX3_named_52 rfl rfl ?_
        refine e_goto (pc := 53) (tgt := 65) dX3_named_53 (by decide) ?_
        exact e_iret (pc := 65) dX3_named_65 rfl rfl
def f_X3_named (a0 : Nat) (a1 : Int32) (a2 : Int32) (w : aW) : Option (Int32 × aW) :=
  (gR 2 w a0 0).bind fun r1 =>
  cV 0 w r1 (bk (f_X0_hasBeast r1 a1 w) fun x3 w2 =>
  if x3 = (0 : Int32) then
    some ((-1 : Int32), w2)
  else
    bk (f_X3_within a2 (0 : Int32) (1 : Int32) w2) fun x5 w4 =>
    if ¬ x5 = (0 : Int32) then
      cV 2 w4 a0 (bk (f_X3_think a0 w4) fun _ w6 =>
      loop2 (c_X3_named_28 a0 a1 a2) a_fuel (0 : Int32) w6)
    else
      some ((-1 : Int32), w4))
theorem s_X3_named (a0 : Nat) (a1 : Int32) (a2 : Int32) (w : aW) : Sp rvI M_X3_named [.ref a0, .int a1, .int a2] w (f_X3_named a0 a1 a2 w) := by
  refine e_entry [some (.ref a0), some (.int a1), some (.int a2), none] (by decide +kernel) (Nat.le_of_ble_eq_true rfl) (fun _ => rfl) ?_
  unfold f_X3_named
  refine e_aload_n (pc := 0) dX3_named_0 rfl rfl ?_
  refine e_getR (pc := 1) dX3_named_1 hs_X3_10 (fun r1 => ?_)
  refine e_iload_n (pc := 4) dX3_named_4 rfl rfl ?_
  refine e_callV (pc := 5) (av := [.int a1]) (S := []) (c0 := 0) rfl rfl ok_X0_hasBeast ⟨Nat.le_of_ble_eq_true rfl, Nat.le_of_ble_eq_true rfl⟩ hv_X3_83 dX3_named_5 (s_X0_hasBeast r1 a1 w) rfl rfl (Nat.le_of_ble_eq_true rfl) (fun x3 w2 => ?_)
  refine e_if_eq (pc := 8) (tgt := 20) dX3_named_8 (by decide) (fun _ => ?_) (fun _ => ?_)
  · refine e_iconst (pc := 20) dX3_named_20 kc_m1 ?_
    exact e_iret (pc := 21) dX3_named_21 rfl rfl
  · refine e_iload_n (pc := 11) dX3_named_11 rfl rfl ?_
    refine e_iconst (pc := 12) dX3_named_12 kc_0 ?_
    refine e_iconst (pc := 13) dX3_named_13 kc_1 ?_
    refine e_callS (pc := 14) (av := [.int a2, .int (0 : Int32), .int (1 : Int32)]) (S := []) ok_X3_within ⟨Nat.le_of_ble_eq_true rfl, Nat.le_of_ble_eq_true rfl⟩ ht_X3_87 dX3_named_14 (s_X3_within a2 (0 : Int32) (1 : Int32) w2) rfl rfl (Nat.le_of_ble_eq_true rfl) (fun x5 w4 => ?_)
    refine e_if_ne (pc := 17) (tgt := 22) dX3_named_17 (by decide) (fun _ => ?_) (fun _ => ?_)
    · refine e_aload_n (pc := 22) dX3_named_22 rfl rfl ?_
      refine e_callV (pc := 23) (av := []) (S := []) (c0 := 2) rfl rfl ok_X3_think ⟨Nat.le_of_ble_eq_true rfl, Nat.le_of_ble_eq_true rfl⟩ hv_X3_56 dX3_named_23 (s_X3_think a0 w4) rfl rfl (Nat.le_of_ble_eq_true rfl) (fun _ w6 => ?_)
      refine e_iconst (pc := 26) dX3_named_26 kc_0 ?_
      refine e_istore_n (L' := [some (.ref a0), some (.int a1), some (.int a2), some (.int (0 : Int32))]) (pc := 27) dX3_named_27 rfl (by decide) rfl ?_
      exact e_loop2 (L := fun b3 => [some (.ref a0), some (.int a1), some (.int a2), some (.int b3)]) (S := fun b3 => []) (fun kf hkf => t_X3_named_28 a0 a1 a2  kf hkf) _ (0 : Int32) w6
    · refine e_iconst (pc := 20) dX3_named_20 kc_m1 ?_
      exact e_iret (pc := 21) dX3_named_21 rfl rfl
def M_X3_firstToDie : aM := (yX3_firstToDie, cX3_firstToDie, 4, (some .int), 4, 101)
theorem ok_X3_firstToDie : a_okM M_X3_firstToDie 0 := ⟨⟨by decide +kernel, by decide +kernel⟩, by decide +kernel, a_in 481 (by decide +kernel) rfl, a_in 76 (by decide +kernel) rfl⟩
theorem dX3_firstToDie_0 : decode M_X3_firstToDie.2.1 0 = .ok (.aload_n 0, 1) := by decide +kernel
theorem dX3_firstToDie_1 : decode M_X3_firstToDie.2.1 1 = .ok (.invokevirtual 56, 3) := by decide +kernel
theorem dX3_firstToDie_4 : decode M_X3_firstToDie.2.1 4 = .ok (.iconst 0, 1) := by decide +kernel
theorem dX3_firstToDie_5 : decode M_X3_firstToDie.2.1 5 = .ok (.istore_n 1, 1) := by decide +kernel
theorem dX3_firstToDie_6 : decode M_X3_firstToDie.2.1 6 = .ok (.iload_n 1, 1) := by decide +kernel
theorem dX3_firstToDie_7 : decode M_X3_firstToDie.2.1 7 = .ok (.bipush 60, 2) := by decide +kernel
theorem dX3_firstToDie_9 : decode M_X3_firstToDie.2.1 9 = .ok (.if_icmp .ge 59, 3) := by decide +kernel
theorem dX3_firstToDie_12 : decode M_X3_firstToDie.2.1 12 = .ok (.aload_n 0, 1) := by decide +kernel
theorem dX3_firstToDie_13 : decode M_X3_firstToDie.2.1 13 = .ok (.getfield 16, 3) := by decide +kernel
theorem dX3_firstToDie_16 : decode M_X3_firstToDie.2.1 16 = .ok (.iconst 0, 1) := by decide +kernel
theorem dX3_firstToDie_17 : decode M_X3_firstToDie.2.1 17 = .ok (.invokevirtual 154, 3) := by decide +kernel
theorem dX3_firstToDie_20 : decode M_X3_firstToDie.2.1 20 = .ok (.aload_n 0, 1) := by decide +kernel
theorem dX3_firstToDie_21 : decode M_X3_firstToDie.2.1 21 = .ok (.getfield 10, 3) := by decide +kernel
theorem dX3_firstToDie_24 : decode M_X3_firstToDie.2.1 24 = .ok (.getfield 172, 3) := by decide +kernel
theorem dX3_firstToDie_27 : decode M_X3_firstToDie.2.1 27 = .ok (.aload_n 0, 1) := by decide +kernel
theorem dX3_firstToDie_28 : decode M_X3_firstToDie.2.1 28 = .ok (.getfield 16, 3) := by decide +kernel
theorem dX3_firstToDie_31 : decode M_X3_firstToDie.2.1 31 = .ok (.getfield 172, 3) := by decide +kernel
theorem dX3_firstToDie_34 : decode M_X3_firstToDie.2.1 34 = .ok (.iconst (-1), 1) := by decide +kernel
theorem dX3_firstToDie_35 : decode M_X3_firstToDie.2.1 35 = .ok (.ixor, 1) := by decide +kernel
theorem dX3_firstToDie_36 : decode M_X3_firstToDie.2.1 36 = .ok (.iand, 1) := by decide +kernel
theorem dX3_firstToDie_37 : decode M_X3_firstToDie.2.1 37 = .ok (.istore_n 2, 1) := by decide +kernel
theorem dX3_firstToDie_38 : decode M_X3_firstToDie.2.1 38 = .ok (.iconst 0, 1) := by decide +kernel
theorem dX3_firstToDie_39 : decode M_X3_firstToDie.2.1 39 = .ok (.istore_n 3, 1) := by decide +kernel
theorem dX3_firstToDie_40 : decode M_X3_firstToDie.2.1 40 = .ok (.iload_n 3, 1) := by decide +kernel
theorem dX3_firstToDie_41 : decode M_X3_firstToDie.2.1 41 = .ok (.bipush 9, 2) := by decide +kernel
theorem dX3_firstToDie_43 : decode M_X3_firstToDie.2.1 43 = .ok (.if_icmp .ge 19, 3) := by decide +kernel
theorem dX3_firstToDie_46 : decode M_X3_firstToDie.2.1 46 = .ok (.iload_n 2, 1) := by decide +kernel
theorem dX3_firstToDie_47 : decode M_X3_firstToDie.2.1 47 = .ok (.iload_n 3, 1) := by decide +kernel
theorem dX3_firstToDie_48 : decode M_X3_firstToDie.2.1 48 = .ok (.invokestatic 181, 3) := by decide +kernel
theorem dX3_firstToDie_51 : decode M_X3_firstToDie.2.1 51 = .ok (.ifCond .eq 5, 3) := by decide +kernel
theorem dX3_firstToDie_54 : decode M_X3_firstToDie.2.1 54 = .ok (.iload_n 3, 1) := by decide +kernel
theorem dX3_firstToDie_55 : decode M_X3_firstToDie.2.1 55 = .ok (.ireturn, 1) := by decide +kernel
theorem dX3_firstToDie_56 : decode M_X3_firstToDie.2.1 56 = .ok (.iinc 3 1, 3) := by decide +kernel
theorem dX3_firstToDie_59 : decode M_X3_firstToDie.2.1 59 = .ok (.goto (-19), 3) := by decide +kernel
theorem dX3_firstToDie_62 : decode M_X3_firstToDie.2.1 62 = .ok (.iinc 1 1, 3) := by decide +kernel
theorem dX3_firstToDie_65 : decode M_X3_firstToDie.2.1 65 = .ok (.goto (-59), 3) := by decide +kernel
theorem dX3_firstToDie_68 : decode M_X3_firstToDie.2.1 68 = .ok (.bipush (-4), 2) := by decide +kernel
theorem dX3_firstToDie_70 : decode M_X3_firstToDie.2.1 70 = .ok (.ireturn, 1) := by decide +kernel
theorem hs_X3_172 : a_fs RX3 172 0 2 := ⟨RX0, TX0, 13, rfl, tin_X0, by decide, a_in 110 (by decide +kernel) rfl⟩
theorem ht_X3_181 : a_okS RX3 M_X3_has 181 := ⟨a_in 482 (by decide +kernel) rfl, a_in 353 (by decide +kernel) rfl⟩
def c_X3_firstToDie_40 (a0 : Nat) (k6 : Int32 → aW → Option (Int32 × aW)) (k40 : Int32 → Int32 → Int32 → aW → Option (Int32 × aW)) (b1 : Int32) (b2 : Int32) (b3 : Int32) (w : aW) : Option (Int32 × aW) :=
  if (9 : Int32) ≤ b3 then
    k6 (b1 + 1) w
  else
    bk (f_X3_has b2 b3 w) fun x9 w8 =>
    if x9 = (0 : Int32) then
      k40 b1 b2 (b3 + 1) w8
    else
      some (b3, w8)
theorem t_X3_firstToDie_40 (a0 : Nat) (k6 : Int32 → aW → Option (Int32 × aW)) (hk6 : ∀ (b1 : Int32) (w : aW), Ev rvI M_X3_firstToDie 6 [some (.ref a0), some (.int b1), none, none] [] w (k6 b1 w)) (k40 : Int32 → Int32 → Int32 → aW → Option (Int32 × aW)) (hk40 : ∀ (b1 : Int32) (b2 : Int32) (b3 : Int32) (w : aW), Ev rvI M_X3_firstToDie 40 [some (.ref a0), some (.int b1), some (.int b2), some (.int b3)] [] w (k40 b1 b2 b3 w)) (b1 : Int32) (b2 : Int32) (b3 : Int32) (w : aW) : Ev rvI M_X3_firstToDie 40 [some (.ref a0), some (.int b1), some (.int b2), some (.int b3)] [] w (c_X3_firstToDie_40 a0 k6 k40 b1 b2 b3 w) := by
  unfold c_X3_firstToDie_40
  refine e_iload_n (pc := 40) dX3_firstToDie_40 rfl rfl ?_
  refine e_bipush (pc := 41) dX3_firstToDie_41 kb_9 ?_
  refine e_icmp_ge (pc := 43) (tgt := 62) dX3_firstToDie_43 (by decide) (fun _ => ?_) (fun _ => ?_)
  · refine e_iinc (L' := [some (.ref a0), some (.int (b1 + 1)), some (.int b2), some (.int b3)]) (pc := 62) (v := 1) dX3_firstToDie_62 (by decide) rfl kc_1 rfl ?_
    refine e_goto (pc := 65) (tgt := 6) dX3_firstToDie_65 (by decide) ?_
    refine e_forget (L2 := [some (.ref a0), some (.int (b1 + 1)), none, none]) (And.intro rfl (And.intro rfl trivial)) ?_
    exact hk6 (b1 + 1) w
  · refine e_iload_n (pc := 46) dX3_firstToDie_46 rfl rfl ?_
    refine e_iload_n (pc := 47) dX3_firstToDie_47 rfl rfl ?_
    refine e_callS (pc := 48) (av := [.int b2, .int b3]) (S := []) ok_X3_has ⟨Nat.le_of_ble_eq_true rfl, Nat.le_of_ble_eq_true rfl⟩ ht_X3_181 dX3_firstToDie_48 (s_X3_has b2 b3 w) rfl rfl (Nat.le_of_ble_eq_true rfl) (fun x9 w8 => ?_)
    refine e_if_eq (pc := 51) (tgt := 56) dX3_firstToDie_51 (by decide) (fun _ => ?_) (fun _ => ?_)
    · refine e_iinc (L' := [some (.ref a0), some (.int b1), some (.int b2), some (.int (b3 + 1))]) (pc := 56) (v := 1) dX3_firstToDie_56 (by decide) rfl kc_1 rfl ?_
      refine e_goto (pc := 59) (tgt := 40) dX3_firstToDie_59 (by decide) ?_
      exact hk40 b1 b2 (b3 + 1) w8
    · refine e_iload_n (pc := 54) dX3_firstToDie_54 rfl rfl ?_
      exact e_iret (pc := 55) dX3_firstToDie_55 rfl rfl
def c_X3_firstToDie_6 (a0 : Nat) (k6 : Int32 → aW → Option (Int32 × aW)) (b1 : Int32) (w : aW) : Option (Int32 × aW) :=
  if (60 : Int32) ≤ b1 then
    some ((-4 : Int32), w)
  else
    (gR 2 w a0 1).bind fun r2 =>
    cV 0 w r2 (bk (f_X0_passDay r2 (0 : Int32) w) fun _ w3 =>
    (gR 2 w3 a0 0).bind fun r4 =>
    (gI 0 w3 r4 2).bind fun x5 =>
    (gR 2 w3 a0 1).bind fun r6 =>
    (gI 0 w3 r6 2).bind fun x7 =>
    loop4 (c_X3_firstToDie_40 a0 k6) a_fuel b1 (x5 &&& (x7 ^^^ (-1 : Int32))) (0 : Int32) w3)
theorem t_X3_firstToDie_6 (a0 : Nat) (k6 : Int32 → aW → Option (Int32 × aW)) (hk6 : ∀ (b1 : Int32) (w : aW), Ev rvI M_X3_firstToDie 6 [some (.ref a0), some (.int b1), none, none] [] w (k6 b1 w)) (b1 : Int32) (w : aW) : Ev rvI M_X3_firstToDie 6 [some (.ref a0), some (.int b1), none, none] [] w (c_X3_firstToDie_6 a0 k6 b1 w) := by
  unfold c_X3_firstToDie_6
  refine e_iload_n (pc := 6) dX3_firstToDie_6 rfl rfl ?_
  refine e_bipush (pc := 7) dX3_firstToDie_7 kb_60 ?_
  refine e_icmp_ge (pc := 9) (tgt := 68) dX3_firstToDie_9 (by decide) (fun _ => ?_) (fun _ => ?_)
  · refine e_bipush (pc := 68) dX3_firstToDie_68 kb_m4 ?_
    exact e_iret (pc := 70) dX3_firstToDie_70 rfl rfl
  · refine e_aload_n (pc := 12) dX3_firstToDie_12 rfl rfl ?_
    refine e_getR (pc := 13) dX3_firstToDie_13 hs_X3_16 (fun r2 => ?_)
    refine e_iconst (pc := 16) dX3_firstToDie_16 kc_0 ?_
    refine e_callV (pc := 17) (av := [.int (0 : Int32)]) (S := []) (c0 := 0) rfl rfl ok_X0_passDay ⟨Nat.le_of_ble_eq_true rfl, Nat.le_of_ble_eq_true rfl⟩ hv_X3_154 dX3_firstToDie_17 (s_X0_passDay r2 (0 : Int32) w) rfl rfl (Nat.le_of_ble_eq_true rfl) (fun _ w3 => ?_)
    refine e_aload_n (pc := 20) dX3_firstToDie_20 rfl rfl ?_
    refine e_getR (pc := 21) dX3_firstToDie_21 hs_X3_10 (fun r4 => ?_)
    refine e_getI (pc := 24) dX3_firstToDie_24 hs_X3_172 (fun x5 => ?_)
    refine e_aload_n (pc := 27) dX3_firstToDie_27 rfl rfl ?_
    refine e_getR (pc := 28) dX3_firstToDie_28 hs_X3_16 (fun r6 => ?_)
    refine e_getI (pc := 31) dX3_firstToDie_31 hs_X3_172 (fun x7 => ?_)
    refine e_iconst (pc := 34) dX3_firstToDie_34 kc_m1 ?_
    refine e_ixor (pc := 35) dX3_firstToDie_35 ?_
    refine e_iand (pc := 36) dX3_firstToDie_36 ?_
    refine e_istore_n (L' := [some (.ref a0), some (.int b1), some (.int (x5 &&& (x7 ^^^ (-1 : Int32)))), none]) (pc := 37) dX3_firstToDie_37 rfl (by decide) rfl ?_
    refine e_iconst (pc := 38) dX3_firstToDie_38 kc_0 ?_
    refine e_istore_n (L' := [some (.ref a0), some (.int b1), some (.int (x5 &&& (x7 ^^^ (-1 : Int32)))), some (.int (0 : Int32))]) (pc := 39) dX3_firstToDie_39 rfl (by decide) rfl ?_
    exact e_loop4 (L := fun b1 b2 b3 => [some (.ref a0), some (.int b1), some (.int b2), some (.int b3)]) (S := fun b1 b2 b3 => []) (fun kf hkf => t_X3_firstToDie_40 a0 k6 hk6 kf hkf) _ b1 (x5 &&& (x7 ^^^ (-1 : Int32))) (0 : Int32) w3
def f_X3_firstToDie (a0 : Nat) (w : aW) : Option (Int32 × aW) :=
  cV 2 w a0 (bk (f_X3_think a0 w) fun _ w1 =>
  loop2 (c_X3_firstToDie_6 a0) a_fuel (0 : Int32) w1)
theorem s_X3_firstToDie (a0 : Nat) (w : aW) : Sp rvI M_X3_firstToDie [.ref a0] w (f_X3_firstToDie a0 w) := by
  refine e_entry [some (.ref a0), none, none, none] (by decide +kernel) (Nat.le_of_ble_eq_true rfl) (fun _ => rfl) ?_
  unfold f_X3_firstToDie
  refine e_aload_n (pc := 0) dX3_firstToDie_0 rfl rfl ?_
  refine e_callV (pc := 1) (av := []) (S := []) (c0 := 2) rfl rfl ok_X3_think ⟨Nat.le_of_ble_eq_true rfl, Nat.le_of_ble_eq_true rfl⟩ hv_X3_56 dX3_firstToDie_1 (s_X3_think a0 w) rfl rfl (Nat.le_of_ble_eq_true rfl) (fun _ w1 => ?_)
  refine e_iconst (pc := 4) dX3_firstToDie_4 kc_0 ?_
  refine e_istore_n (L' := [some (.ref a0), some (.int (0 : Int32)), none, none]) (pc := 5) dX3_firstToDie_5 rfl (by decide) rfl ?_
  exact e_loop2 (L := fun b1 => [some (.ref a0), some (.int b1), none, none]) (S := fun b1 => []) (fun kf hkf => t_X3_firstToDie_6 a0  kf hkf) _ (0 : Int32) w1
def M_X3_dies : aM := (yX3_dies, cX3_dies, 3, (some .int), 5, 124)
theorem ok_X3_dies : a_okM M_X3_dies 1 := ⟨⟨by decide +kernel, by decide +kernel⟩, by decide +kernel, a_in 477 (by decide +kernel) rfl, a_in 76 (by decide +kernel) rfl⟩
theorem dX3_dies_0 : decode M_X3_dies.2.1 0 = .ok (.iload_n 1, 1) := by decide +kernel
theorem dX3_dies_1 : decode M_X3_dies.2.1 1 = .ok (.iconst (-1), 1) := by decide +kernel
theorem dX3_dies_2 : decode M_X3_dies.2.1 2 = .ok (.if_icmp .ne 8, 3) := by decide +kernel
theorem dX3_dies_5 : decode M_X3_dies.2.1 5 = .ok (.aload_n 0, 1) := by decide +kernel
theorem dX3_dies_6 : decode M_X3_dies.2.1 6 = .ok (.invokevirtual 157, 3) := by decide +kernel
theorem dX3_dies_9 : decode M_X3_dies.2.1 9 = .ok (.ireturn, 1) := by decide +kernel
theorem dX3_dies_10 : decode M_X3_dies.2.1 10 = .ok (.aload_n 0, 1) := by decide +kernel
theorem dX3_dies_11 : decode M_X3_dies.2.1 11 = .ok (.getfield 10, 3) := by decide +kernel
theorem dX3_dies_14 : decode M_X3_dies.2.1 14 = .ok (.iload_n 1, 1) := by decide +kernel
theorem dX3_dies_15 : decode M_X3_dies.2.1 15 = .ok (.invokevirtual 83, 3) := by decide +kernel
theorem dX3_dies_18 : decode M_X3_dies.2.1 18 = .ok (.ifCond .ne 5, 3) := by decide +kernel
theorem dX3_dies_21 : decode M_X3_dies.2.1 21 = .ok (.iconst (-1), 1) := by decide +kernel
theorem dX3_dies_22 : decode M_X3_dies.2.1 22 = .ok (.ireturn, 1) := by decide +kernel
theorem dX3_dies_23 : decode M_X3_dies.2.1 23 = .ok (.aload_n 0, 1) := by decide +kernel
theorem dX3_dies_24 : decode M_X3_dies.2.1 24 = .ok (.invokevirtual 56, 3) := by decide +kernel
theorem dX3_dies_27 : decode M_X3_dies.2.1 27 = .ok (.iconst 0, 1) := by decide +kernel
theorem dX3_dies_28 : decode M_X3_dies.2.1 28 = .ok (.istore_n 2, 1) := by decide +kernel
theorem dX3_dies_29 : decode M_X3_dies.2.1 29 = .ok (.iload_n 2, 1) := by decide +kernel
theorem dX3_dies_30 : decode M_X3_dies.2.1 30 = .ok (.bipush 60, 2) := by decide +kernel
theorem dX3_dies_32 : decode M_X3_dies.2.1 32 = .ok (.if_icmp .gt 30, 3) := by decide +kernel
theorem dX3_dies_35 : decode M_X3_dies.2.1 35 = .ok (.aload_n 0, 1) := by decide +kernel
theorem dX3_dies_36 : decode M_X3_dies.2.1 36 = .ok (.getfield 16, 3) := by decide +kernel
theorem dX3_dies_39 : decode M_X3_dies.2.1 39 = .ok (.iload_n 1, 1) := by decide +kernel
theorem dX3_dies_40 : decode M_X3_dies.2.1 40 = .ok (.invokevirtual 160, 3) := by decide +kernel
theorem dX3_dies_43 : decode M_X3_dies.2.1 43 = .ok (.ifCond .ne 5, 3) := by decide +kernel
theorem dX3_dies_46 : decode M_X3_dies.2.1 46 = .ok (.iload_n 2, 1) := by decide +kernel
theorem dX3_dies_47 : decode M_X3_dies.2.1 47 = .ok (.ireturn, 1) := by decide +kernel
theorem dX3_dies_48 : decode M_X3_dies.2.1 48 = .ok (.aload_n 0, 1) := by decide +kernel
theorem dX3_dies_49 : decode M_X3_dies.2.1 49 = .ok (.getfield 16, 3) := by decide +kernel
theorem dX3_dies_52 : decode M_X3_dies.2.1 52 = .ok (.iconst 0, 1) := by decide +kernel
theorem dX3_dies_53 : decode M_X3_dies.2.1 53 = .ok (.invokevirtual 154, 3) := by decide +kernel
theorem dX3_dies_56 : decode M_X3_dies.2.1 56 = .ok (.iinc 2 1, 3) := by decide +kernel
theorem dX3_dies_59 : decode M_X3_dies.2.1 59 = .ok (.goto (-30), 3) := by decide +kernel
theorem dX3_dies_62 : decode M_X3_dies.2.1 62 = .ok (.bipush (-4), 2) := by decide +kernel
theorem dX3_dies_64 : decode M_X3_dies.2.1 64 = .ok (.ireturn, 1) := by decide +kernel
theorem hv_X3_157 : a_okV RX3 M_X3_firstToDie 157 := ⟨a_in 478 (by decide +kernel) rfl, a_in 480 (by decide +kernel) rfl, a_in 10 (by decide +kernel) rfl⟩
theorem hv_X3_160 : a_okV RX3 M_X0_isAlive 160 := ⟨a_in 483 (by decide +kernel) rfl, a_in 284 (by decide +kernel) rfl, a_in 285 (by decide +kernel) rfl⟩
def c_X3_dies_29 (a0 : Nat) (a1 : Int32) (k29 : Int32 → aW → Option (Int32 × aW)) (b2 : Int32) (w : aW) : Option (Int32 × aW) :=
  if (60 : Int32) < b2 then
    some ((-4 : Int32), w)
  else
    (gR 2 w a0 1).bind fun r7 =>
    cV 0 w r7 (bk (f_X0_isAlive r7 a1 w) fun x9 w8 =>
    if ¬ x9 = (0 : Int32) then
      (gR 2 w8 a0 1).bind fun r10 =>
      cV 0 w8 r10 (bk (f_X0_passDay r10 (0 : Int32) w8) fun _ w11 =>
      k29 (b2 + 1) w11)
    else
      some (b2, w8))
theorem t_X3_dies_29 (a0 : Nat) (a1 : Int32) (k29 : Int32 → aW → Option (Int32 × aW)) (hk29 : ∀ (b2 : Int32) (w : aW), Ev rvI M_X3_dies 29 [some (.ref a0), some (.int a1), some (.int b2)] [] w (k29 b2 w)) (b2 : Int32) (w : aW) : Ev rvI M_X3_dies 29 [some (.ref a0), some (.int a1), some (.int b2)] [] w (c_X3_dies_29 a0 a1 k29 b2 w) := by
  unfold c_X3_dies_29
  refine e_iload_n (pc := 29) dX3_dies_29 rfl rfl ?_
  refine e_bipush (pc := 30) dX3_dies_30 kb_60 ?_
  refine e_icmp_gt (pc := 32) (tgt := 62) dX3_dies_32 (by decide) (fun _ => ?_) (fun _ => ?_)
  · refine e_bipush (pc := 62) dX3_dies_62 kb_m4 ?_
    exact e_iret (pc := 64) dX3_dies_64 rfl rfl
  · refine e_aload_n (pc := 35) dX3_dies_35 rfl rfl ?_
    refine e_getR (pc := 36) dX3_dies_36 hs_X3_16 (fun r7 => ?_)
    refine e_iload_n (pc := 39) dX3_dies_39 rfl rfl ?_
    refine e_callV (pc := 40) (av := [.int a1]) (S := []) (c0 := 0) rfl rfl ok_X0_isAlive ⟨Nat.le_of_ble_eq_true rfl, Nat.le_of_ble_eq_true rfl⟩ hv_X3_160 dX3_dies_40 (s_X0_isAlive r7 a1 w) rfl rfl (Nat.le_of_ble_eq_true rfl) (fun x9 w8 => ?_)
    refine e_if_ne (pc := 43) (tgt := 48) dX3_dies_43 (by decide) (fun _ => ?_) (fun _ => ?_)
    · refine e_aload_n (pc := 48) dX3_dies_48 rfl rfl ?_
      refine e_getR (pc := 49) dX3_dies_49 hs_X3_16 (fun r10 => ?_)
      refine e_iconst (pc := 52) dX3_dies_52 kc_0 ?_
      refine e_callV (pc := 53) (av := [.int (0 : Int32)]) (S := []) (c0 := 0) rfl rfl ok_X0_passDay ⟨Nat.le_of_ble_eq_true rfl, Nat.le_of_ble_eq_true rfl⟩ hv_X3_154 dX3_dies_53 (s_X0_passDay r10 (0 : Int32) w8) rfl rfl (Nat.le_of_ble_eq_true rfl) (fun _ w11 => ?_)
      refine e_iinc (L' := [some (.ref a0), some (.int a1), some (.int (b2 + 1))]) (pc := 56) (v := 1) dX3_dies_56 (by decide) rfl kc_1 rfl ?_
      refine e_goto (pc := 59) (tgt := 29) dX3_dies_59 (by decide) ?_
      exact hk29 (b2 + 1) w11
    · refine e_iload_n (pc := 46) dX3_dies_46 rfl rfl ?_
      exact e_iret (pc := 47) dX3_dies_47 rfl rfl
def f_X3_dies (a0 : Nat) (a1 : Int32) (w : aW) : Option (Int32 × aW) :=
  if ¬ a1 = (-1 : Int32) then
    (gR 2 w a0 0).bind fun r1 =>
    cV 0 w r1 (bk (f_X0_hasBeast r1 a1 w) fun x3 w2 =>
    if ¬ x3 = (0 : Int32) then
      cV 2 w2 a0 (bk (f_X3_think a0 w2) fun _ w4 =>
      loop2 (c_X3_dies_29 a0 a1) a_fuel (0 : Int32) w4)
    else
      some ((-1 : Int32), w2))
  else
    cV 2 w a0 (bk (f_X3_firstToDie a0 w) fun x6 w5 =>
    some (x6, w5))
theorem s_X3_dies (a0 : Nat) (a1 : Int32) (w : aW) : Sp rvI M_X3_dies [.ref a0, .int a1] w (f_X3_dies a0 a1 w) := by
  refine e_entry [some (.ref a0), some (.int a1), none] (by decide +kernel) (Nat.le_of_ble_eq_true rfl) (fun _ => rfl) ?_
  unfold f_X3_dies
  refine e_iload_n (pc := 0) dX3_dies_0 rfl rfl ?_
  refine e_iconst (pc := 1) dX3_dies_1 kc_m1 ?_
  refine e_icmp_ne (pc := 2) (tgt := 10) dX3_dies_2 (by decide) (fun _ => ?_) (fun _ => ?_)
  · refine e_aload_n (pc := 10) dX3_dies_10 rfl rfl ?_
    refine e_getR (pc := 11) dX3_dies_11 hs_X3_10 (fun r1 => ?_)
    refine e_iload_n (pc := 14) dX3_dies_14 rfl rfl ?_
    refine e_callV (pc := 15) (av := [.int a1]) (S := []) (c0 := 0) rfl rfl ok_X0_hasBeast ⟨Nat.le_of_ble_eq_true rfl, Nat.le_of_ble_eq_true rfl⟩ hv_X3_83 dX3_dies_15 (s_X0_hasBeast r1 a1 w) rfl rfl (Nat.le_of_ble_eq_true rfl) (fun x3 w2 => ?_)
    refine e_if_ne (pc := 18) (tgt := 23) dX3_dies_18 (by decide) (fun _ => ?_) (fun _ => ?_)
    · refine e_aload_n (pc := 23) dX3_dies_23 rfl rfl ?_
      refine e_callV (pc := 24) (av := []) (S := []) (c0 := 2) rfl rfl ok_X3_think ⟨Nat.le_of_ble_eq_true rfl, Nat.le_of_ble_eq_true rfl⟩ hv_X3_56 dX3_dies_24 (s_X3_think a0 w2) rfl rfl (Nat.le_of_ble_eq_true rfl) (fun _ w4 => ?_)
      refine e_iconst (pc := 27) dX3_dies_27 kc_0 ?_
      refine e_istore_n (L' := [some (.ref a0), some (.int a1), some (.int (0 : Int32))]) (pc := 28) dX3_dies_28 rfl (by decide) rfl ?_
      exact e_loop2 (L := fun b2 => [some (.ref a0), some (.int a1), some (.int b2)]) (S := fun b2 => []) (fun kf hkf => t_X3_dies_29 a0 a1  kf hkf) _ (0 : Int32) w4
    · refine e_iconst (pc := 21) dX3_dies_21 kc_m1 ?_
      exact e_iret (pc := 22) dX3_dies_22 rfl rfl
  · refine e_aload_n (pc := 5) dX3_dies_5 rfl rfl ?_
    refine e_callV (pc := 6) (av := []) (S := []) (c0 := 2) rfl rfl ok_X3_firstToDie ⟨Nat.le_of_ble_eq_true rfl, Nat.le_of_ble_eq_true rfl⟩ hv_X3_157 dX3_dies_6 (s_X3_firstToDie a0 w) rfl rfl (Nat.le_of_ble_eq_true rfl) (fun x6 w5 => ?_)
    exact e_iret (pc := 9) dX3_dies_9 rfl rfl
def M_X3_ruined : aM := (yX3_ruined, cX3_ruined, 3, (some .int), 4, 101)
theorem ok_X3_ruined : a_okM M_X3_ruined 1 := ⟨⟨by decide +kernel, by decide +kernel⟩, by decide +kernel, a_in 487 (by decide +kernel) rfl, a_in 76 (by decide +kernel) rfl⟩
theorem dX3_ruined_0 : decode M_X3_ruined.2.1 0 = .ok (.iload_n 1, 1) := by decide +kernel
theorem dX3_ruined_1 : decode M_X3_ruined.2.1 1 = .ok (.invokestatic 94, 3) := by decide +kernel
theorem dX3_ruined_4 : decode M_X3_ruined.2.1 4 = .ok (.ifCond .ne 5, 3) := by decide +kernel
theorem dX3_ruined_7 : decode M_X3_ruined.2.1 7 = .ok (.iconst (-1), 1) := by decide +kernel
theorem dX3_ruined_8 : decode M_X3_ruined.2.1 8 = .ok (.ireturn, 1) := by decide +kernel
theorem dX3_ruined_9 : decode M_X3_ruined.2.1 9 = .ok (.aload_n 0, 1) := by decide +kernel
theorem dX3_ruined_10 : decode M_X3_ruined.2.1 10 = .ok (.invokevirtual 56, 3) := by decide +kernel
theorem dX3_ruined_13 : decode M_X3_ruined.2.1 13 = .ok (.iconst 0, 1) := by decide +kernel
theorem dX3_ruined_14 : decode M_X3_ruined.2.1 14 = .ok (.istore_n 2, 1) := by decide +kernel
theorem dX3_ruined_15 : decode M_X3_ruined.2.1 15 = .ok (.iload_n 2, 1) := by decide +kernel
theorem dX3_ruined_16 : decode M_X3_ruined.2.1 16 = .ok (.bipush 60, 2) := by decide +kernel
theorem dX3_ruined_18 : decode M_X3_ruined.2.1 18 = .ok (.if_icmp .gt 46, 3) := by decide +kernel
theorem dX3_ruined_21 : decode M_X3_ruined.2.1 21 = .ok (.aload_n 0, 1) := by decide +kernel
theorem dX3_ruined_22 : decode M_X3_ruined.2.1 22 = .ok (.getfield 16, 3) := by decide +kernel
theorem dX3_ruined_25 : decode M_X3_ruined.2.1 25 = .ok (.getfield 142, 3) := by decide +kernel
theorem dX3_ruined_28 : decode M_X3_ruined.2.1 28 = .ok (.iload_n 1, 1) := by decide +kernel
theorem dX3_ruined_29 : decode M_X3_ruined.2.1 29 = .ok (.iaload, 1) := by decide +kernel
theorem dX3_ruined_30 : decode M_X3_ruined.2.1 30 = .ok (.aload_n 0, 1) := by decide +kernel
theorem dX3_ruined_31 : decode M_X3_ruined.2.1 31 = .ok (.getfield 16, 3) := by decide +kernel
theorem dX3_ruined_34 : decode M_X3_ruined.2.1 34 = .ok (.aload_n 0, 1) := by decide +kernel
theorem dX3_ruined_35 : decode M_X3_ruined.2.1 35 = .ok (.getfield 16, 3) := by decide +kernel
theorem dX3_ruined_38 : decode M_X3_ruined.2.1 38 = .ok (.iload_n 1, 1) := by decide +kernel
theorem dX3_ruined_39 : decode M_X3_ruined.2.1 39 = .ok (.invokevirtual 148, 3) := by decide +kernel
theorem dX3_ruined_42 : decode M_X3_ruined.2.1 42 = .ok (.invokevirtual 163, 3) := by decide +kernel
theorem dX3_ruined_45 : decode M_X3_ruined.2.1 45 = .ok (.if_icmp .ge 5, 3) := by decide +kernel
theorem dX3_ruined_48 : decode M_X3_ruined.2.1 48 = .ok (.iload_n 2, 1) := by decide +kernel
theorem dX3_ruined_49 : decode M_X3_ruined.2.1 49 = .ok (.ireturn, 1) := by decide +kernel
theorem dX3_ruined_50 : decode M_X3_ruined.2.1 50 = .ok (.aload_n 0, 1) := by decide +kernel
theorem dX3_ruined_51 : decode M_X3_ruined.2.1 51 = .ok (.getfield 16, 3) := by decide +kernel
theorem dX3_ruined_54 : decode M_X3_ruined.2.1 54 = .ok (.iconst 0, 1) := by decide +kernel
theorem dX3_ruined_55 : decode M_X3_ruined.2.1 55 = .ok (.invokevirtual 154, 3) := by decide +kernel
theorem dX3_ruined_58 : decode M_X3_ruined.2.1 58 = .ok (.iinc 2 1, 3) := by decide +kernel
theorem dX3_ruined_61 : decode M_X3_ruined.2.1 61 = .ok (.goto (-46), 3) := by decide +kernel
theorem dX3_ruined_64 : decode M_X3_ruined.2.1 64 = .ok (.bipush (-4), 2) := by decide +kernel
theorem dX3_ruined_66 : decode M_X3_ruined.2.1 66 = .ok (.ireturn, 1) := by decide +kernel
theorem hv_X3_163 : a_okV RX3 M_X0_needTogether 163 := ⟨a_in 488 (by decide +kernel) rfl, a_in 412 (by decide +kernel) rfl, a_in 413 (by decide +kernel) rfl⟩
def c_X3_ruined_15 (a0 : Nat) (a1 : Int32) (k15 : Int32 → aW → Option (Int32 × aW)) (b2 : Int32) (w : aW) : Option (Int32 × aW) :=
  if (60 : Int32) < b2 then
    some ((-4 : Int32), w)
  else
    (gR 2 w a0 1).bind fun r4 =>
    (gR 0 w r4 9).bind fun r5 =>
    (gA w r5 a1).bind fun x6 =>
    (gR 2 w a0 1).bind fun r7 =>
    (gR 2 w a0 1).bind fun r8 =>
    cV 0 w r8 (bk (f_X0_calledBy r8 a1 w) fun x10 w9 =>
    cV 0 w9 r7 (bk (f_X0_needTogether r7 x10 w9) fun x12 w11 =>
    if x12 ≤ x6 then
      (gR 2 w11 a0 1).bind fun r13 =>
      cV 0 w11 r13 (bk (f_X0_passDay r13 (0 : Int32) w11) fun _ w14 =>
      k15 (b2 + 1) w14)
    else
      some (b2, w11)))
theorem t_X3_ruined_15 (a0 : Nat) (a1 : Int32) (k15 : Int32 → aW → Option (Int32 × aW)) (hk15 : ∀ (b2 : Int32) (w : aW), Ev rvI M_X3_ruined 15 [some (.ref a0), some (.int a1), some (.int b2)] [] w (k15 b2 w)) (b2 : Int32) (w : aW) : Ev rvI M_X3_ruined 15 [some (.ref a0), some (.int a1), some (.int b2)] [] w (c_X3_ruined_15 a0 a1 k15 b2 w) := by
  unfold c_X3_ruined_15
  refine e_iload_n (pc := 15) dX3_ruined_15 rfl rfl ?_
  refine e_bipush (pc := 16) dX3_ruined_16 kb_60 ?_
  refine e_icmp_gt (pc := 18) (tgt := 64) dX3_ruined_18 (by decide) (fun _ => ?_) (fun _ => ?_)
  · refine e_bipush (pc := 64) dX3_ruined_64 kb_m4 ?_
    exact e_iret (pc := 66) dX3_ruined_66 rfl rfl
  · refine e_aload_n (pc := 21) dX3_ruined_21 rfl rfl ?_
    refine e_getR (pc := 22) dX3_ruined_22 hs_X3_16 (fun r4 => ?_)
    refine e_getR (pc := 25) dX3_ruined_25 hs_X3_142 (fun r5 => ?_)
    refine e_iload_n (pc := 28) dX3_ruined_28 rfl rfl ?_
    refine e_iald (pc := 29) dX3_ruined_29 (fun x6 => ?_)
    refine e_aload_n (pc := 30) dX3_ruined_30 rfl rfl ?_
    refine e_getR (pc := 31) dX3_ruined_31 hs_X3_16 (fun r7 => ?_)
    refine e_aload_n (pc := 34) dX3_ruined_34 rfl rfl ?_
    refine e_getR (pc := 35) dX3_ruined_35 hs_X3_16 (fun r8 => ?_)
    refine e_iload_n (pc := 38) dX3_ruined_38 rfl rfl ?_
    refine e_callV (pc := 39) (av := [.int a1]) (S := [.ref r7, .int x6]) (c0 := 0) rfl rfl ok_X0_calledBy ⟨Nat.le_of_ble_eq_true rfl, Nat.le_of_ble_eq_true rfl⟩ hv_X3_148 dX3_ruined_39 (s_X0_calledBy r8 a1 w) rfl rfl (Nat.le_of_ble_eq_true rfl) (fun x10 w9 => ?_)
    refine e_callV (pc := 42) (av := [.int x10]) (S := [.int x6]) (c0 := 0) rfl rfl ok_X0_needTogether ⟨Nat.le_of_ble_eq_true rfl, Nat.le_of_ble_eq_true rfl⟩ hv_X3_163 dX3_ruined_42 (s_X0_needTogether r7 x10 w9) rfl rfl (Nat.le_of_ble_eq_true rfl) (fun x12 w11 => ?_)
    refine e_icmp_ge (pc := 45) (tgt := 50) dX3_ruined_45 (by decide) (fun _ => ?_) (fun _ => ?_)
    · refine e_aload_n (pc := 50) dX3_ruined_50 rfl rfl ?_
      refine e_getR (pc := 51) dX3_ruined_51 hs_X3_16 (fun r13 => ?_)
      refine e_iconst (pc := 54) dX3_ruined_54 kc_0 ?_
      refine e_callV (pc := 55) (av := [.int (0 : Int32)]) (S := []) (c0 := 0) rfl rfl ok_X0_passDay ⟨Nat.le_of_ble_eq_true rfl, Nat.le_of_ble_eq_true rfl⟩ hv_X3_154 dX3_ruined_55 (s_X0_passDay r13 (0 : Int32) w11) rfl rfl (Nat.le_of_ble_eq_true rfl) (fun _ w14 => ?_)
      refine e_iinc (L' := [some (.ref a0), some (.int a1), some (.int (b2 + 1))]) (pc := 58) (v := 1) dX3_ruined_58 (by decide) rfl kc_1 rfl ?_
      refine e_goto (pc := 61) (tgt := 15) dX3_ruined_61 (by decide) ?_
      exact hk15 (b2 + 1) w14
    · refine e_iload_n (pc := 48) dX3_ruined_48 rfl rfl ?_
      exact e_iret (pc := 49) dX3_ruined_49 rfl rfl
def f_X3_ruined (a0 : Nat) (a1 : Int32) (w : aW) : Option (Int32 × aW) :=
  bk (f_X3_isPerson a1 w) fun x2 w1 =>
  if ¬ x2 = (0 : Int32) then
    cV 2 w1 a0 (bk (f_X3_think a0 w1) fun _ w3 =>
    loop2 (c_X3_ruined_15 a0 a1) a_fuel (0 : Int32) w3)
  else
    some ((-1 : Int32), w1)
theorem s_X3_ruined (a0 : Nat) (a1 : Int32) (w : aW) : Sp rvI M_X3_ruined [.ref a0, .int a1] w (f_X3_ruined a0 a1 w) := by
  refine e_entry [some (.ref a0), some (.int a1), none] (by decide +kernel) (Nat.le_of_ble_eq_true rfl) (fun _ => rfl) ?_
  unfold f_X3_ruined
  refine e_iload_n (pc := 0) dX3_ruined_0 rfl rfl ?_
  refine e_callS (pc := 1) (av := [.int a1]) (S := []) ok_X3_isPerson ⟨Nat.le_of_ble_eq_true rfl, Nat.le_of_ble_eq_true rfl⟩ ht_X3_94 dX3_ruined_1 (s_X3_isPerson a1 w) rfl rfl (Nat.le_of_ble_eq_true rfl) (fun x2 w1 => ?_)
  refine e_if_ne (pc := 4) (tgt := 9) dX3_ruined_4 (by decide) (fun _ => ?_) (fun _ => ?_)
  · refine e_aload_n (pc := 9) dX3_ruined_9 rfl rfl ?_
    refine e_callV (pc := 10) (av := []) (S := []) (c0 := 2) rfl rfl ok_X3_think ⟨Nat.le_of_ble_eq_true rfl, Nat.le_of_ble_eq_true rfl⟩ hv_X3_56 dX3_ruined_10 (s_X3_think a0 w1) rfl rfl (Nat.le_of_ble_eq_true rfl) (fun _ w3 => ?_)
    refine e_iconst (pc := 13) dX3_ruined_13 kc_0 ?_
    refine e_istore_n (L' := [some (.ref a0), some (.int a1), some (.int (0 : Int32))]) (pc := 14) dX3_ruined_14 rfl (by decide) rfl ?_
    exact e_loop2 (L := fun b2 => [some (.ref a0), some (.int a1), some (.int b2)]) (S := fun b2 => []) (fun kf hkf => t_X3_ruined_15 a0 a1  kf hkf) _ (0 : Int32) w3
  · refine e_iconst (pc := 7) dX3_ruined_7 kc_m1 ?_
    exact e_iret (pc := 8) dX3_ruined_8 rfl rfl
def M_X3_still : aM := (yX3_still, cX3_still, 3, (some .int), 4, 101)
theorem ok_X3_still : a_okM M_X3_still 0 := ⟨⟨by decide +kernel, by decide +kernel⟩, by decide +kernel, a_in 492 (by decide +kernel) rfl, a_in 76 (by decide +kernel) rfl⟩
theorem dX3_still_0 : decode M_X3_still.2.1 0 = .ok (.aload_n 0, 1) := by decide +kernel
theorem dX3_still_1 : decode M_X3_still.2.1 1 = .ok (.invokevirtual 56, 3) := by decide +kernel
theorem dX3_still_4 : decode M_X3_still.2.1 4 = .ok (.iconst 0, 1) := by decide +kernel
theorem dX3_still_5 : decode M_X3_still.2.1 5 = .ok (.istore_n 1, 1) := by decide +kernel
theorem dX3_still_6 : decode M_X3_still.2.1 6 = .ok (.iconst 1, 1) := by decide +kernel
theorem dX3_still_7 : decode M_X3_still.2.1 7 = .ok (.istore_n 2, 1) := by decide +kernel
theorem dX3_still_8 : decode M_X3_still.2.1 8 = .ok (.iload_n 2, 1) := by decide +kernel
theorem dX3_still_9 : decode M_X3_still.2.1 9 = .ok (.bipush 60, 2) := by decide +kernel
theorem dX3_still_11 : decode M_X3_still.2.1 11 = .ok (.if_icmp .gt 46, 3) := by decide +kernel
theorem dX3_still_14 : decode M_X3_still.2.1 14 = .ok (.aload_n 0, 1) := by decide +kernel
theorem dX3_still_15 : decode M_X3_still.2.1 15 = .ok (.getfield 16, 3) := by decide +kernel
theorem dX3_still_18 : decode M_X3_still.2.1 18 = .ok (.iconst 0, 1) := by decide +kernel
theorem dX3_still_19 : decode M_X3_still.2.1 19 = .ok (.invokevirtual 154, 3) := by decide +kernel
theorem dX3_still_22 : decode M_X3_still.2.1 22 = .ok (.aload_n 0, 1) := by decide +kernel
theorem dX3_still_23 : decode M_X3_still.2.1 23 = .ok (.getfield 16, 3) := by decide +kernel
theorem dX3_still_26 : decode M_X3_still.2.1 26 = .ok (.getfield 166, 3) := by decide +kernel
theorem dX3_still_29 : decode M_X3_still.2.1 29 = .ok (.ifCond .ne 9, 3) := by decide +kernel
theorem dX3_still_32 : decode M_X3_still.2.1 32 = .ok (.iload_n 1, 1) := by decide +kernel
theorem dX3_still_33 : decode M_X3_still.2.1 33 = .ok (.iconst 1, 1) := by decide +kernel
theorem dX3_still_34 : decode M_X3_still.2.1 34 = .ok (.iadd, 1) := by decide +kernel
theorem dX3_still_35 : decode M_X3_still.2.1 35 = .ok (.goto 4, 3) := by decide +kernel
theorem dX3_still_38 : decode M_X3_still.2.1 38 = .ok (.iconst 0, 1) := by decide +kernel
theorem dX3_still_39 : decode M_X3_still.2.1 39 = .ok (.istore_n 1, 1) := by decide +kernel
theorem dX3_still_40 : decode M_X3_still.2.1 40 = .ok (.iload_n 1, 1) := by decide +kernel
theorem dX3_still_41 : decode M_X3_still.2.1 41 = .ok (.bipush 20, 2) := by decide +kernel
theorem dX3_still_43 : decode M_X3_still.2.1 43 = .ok (.if_icmp .ne 8, 3) := by decide +kernel
theorem dX3_still_46 : decode M_X3_still.2.1 46 = .ok (.iload_n 2, 1) := by decide +kernel
theorem dX3_still_47 : decode M_X3_still.2.1 47 = .ok (.bipush 20, 2) := by decide +kernel
theorem dX3_still_49 : decode M_X3_still.2.1 49 = .ok (.isub, 1) := by decide +kernel
theorem dX3_still_50 : decode M_X3_still.2.1 50 = .ok (.ireturn, 1) := by decide +kernel
theorem dX3_still_51 : decode M_X3_still.2.1 51 = .ok (.iinc 2 1, 3) := by decide +kernel
theorem dX3_still_54 : decode M_X3_still.2.1 54 = .ok (.goto (-46), 3) := by decide +kernel
theorem dX3_still_57 : decode M_X3_still.2.1 57 = .ok (.bipush (-4), 2) := by decide +kernel
theorem dX3_still_59 : decode M_X3_still.2.1 59 = .ok (.ireturn, 1) := by decide +kernel
theorem hs_X3_166 : a_fs RX3 166 0 3 := ⟨RX0, TX0, 13, rfl, tin_X0, by decide, a_in 112 (by decide +kernel) rfl⟩
def c_X3_still_39 (a0 : Nat) (k8 : Int32 → Int32 → aW → Option (Int32 × aW)) (b2 : Int32) (s0 : Int32) (w : aW) : Option (Int32 × aW) :=
  if ¬ s0 = (20 : Int32) then
    k8 s0 (b2 + 1) w
  else
    some ((b2 - (20 : Int32)), w)
theorem t_X3_still_39 (a0 : Nat) (k8 : Int32 → Int32 → aW → Option (Int32 × aW)) (hk8 : ∀ (b1 : Int32) (b2 : Int32) (w : aW), Ev rvI M_X3_still 8 [some (.ref a0), some (.int b1), some (.int b2)] [] w (k8 b1 b2 w)) (b2 : Int32) (s0 : Int32) (w : aW) : Ev rvI M_X3_still 39 [some (.ref a0), none, some (.int b2)] [.int s0] w (c_X3_still_39 a0 k8 b2 s0 w) := by
  unfold c_X3_still_39
  refine e_istore_n (L' := [some (.ref a0), some (.int s0), some (.int b2)]) (pc := 39) dX3_still_39 rfl (by decide) rfl ?_
  refine e_iload_n (pc := 40) dX3_still_40 rfl rfl ?_
  refine e_bipush (pc := 41) dX3_still_41 kb_20 ?_
  refine e_icmp_ne (pc := 43) (tgt := 51) dX3_still_43 (by decide) (fun _ => ?_) (fun _ => ?_)
  · refine e_iinc (L' := [some (.ref a0), some (.int s0), some (.int (b2 + 1))]) (pc := 51) (v := 1) dX3_still_51 (by decide) rfl kc_1 rfl ?_
    refine e_goto (pc := 54) (tgt := 8) dX3_still_54 (by decide) ?_
    exact hk8 s0 (b2 + 1) w
  · refine e_iload_n (pc := 46) dX3_still_46 rfl rfl ?_
    refine e_bipush (pc := 47) dX3_still_47 kb_20 ?_
    refine e_isub (pc := 49) dX3_still_49 ?_
    exact e_iret (pc := 50) dX3_still_50 rfl rfl
def c_X3_still_8 (a0 : Nat) (k8 : Int32 → Int32 → aW → Option (Int32 × aW)) (b1 : Int32) (b2 : Int32) (w : aW) : Option (Int32 × aW) :=
  if (60 : Int32) < b2 then
    some ((-4 : Int32), w)
  else
    (gR 2 w a0 1).bind fun r2 =>
    cV 0 w r2 (bk (f_X0_passDay r2 (0 : Int32) w) fun _ w3 =>
    (gR 2 w3 a0 1).bind fun r4 =>
    (gI 0 w3 r4 3).bind fun x5 =>
    if ¬ x5 = (0 : Int32) then
      c_X3_still_39 a0 k8 b2 (0 : Int32) w3
    else
      c_X3_still_39 a0 k8 b2 (b1 + (1 : Int32)) w3)
theorem t_X3_still_8 (a0 : Nat) (k8 : Int32 → Int32 → aW → Option (Int32 × aW)) (hk8 : ∀ (b1 : Int32) (b2 : Int32) (w : aW), Ev rvI M_X3_still 8 [some (.ref a0), some (.int b1), some (.int b2)] [] w (k8 b1 b2 w)) (b1 : Int32) (b2 : Int32) (w : aW) : Ev rvI M_X3_still 8 [some (.ref a0), some (.int b1), some (.int b2)] [] w (c_X3_still_8 a0 k8 b1 b2 w) := by
  unfold c_X3_still_8
  refine e_iload_n (pc := 8) dX3_still_8 rfl rfl ?_
  refine e_bipush (pc := 9) dX3_still_9 kb_60 ?_
  refine e_icmp_gt (pc := 11) (tgt := 57) dX3_still_11 (by decide) (fun _ => ?_) (fun _ => ?_)
  · refine e_bipush (pc := 57) dX3_still_57 kb_m4 ?_
    exact e_iret (pc := 59) dX3_still_59 rfl rfl
  · refine e_aload_n (pc := 14) dX3_still_14 rfl rfl ?_
    refine e_getR (pc := 15) dX3_still_15 hs_X3_16 (fun r2 => ?_)
    refine e_iconst (pc := 18) dX3_still_18 kc_0 ?_
    refine e_callV (pc := 19) (av := [.int (0 : Int32)]) (S := []) (c0 := 0) rfl rfl ok_X0_passDay ⟨Nat.le_of_ble_eq_true rfl, Nat.le_of_ble_eq_true rfl⟩ hv_X3_154 dX3_still_19 (s_X0_passDay r2 (0 : Int32) w) rfl rfl (Nat.le_of_ble_eq_true rfl) (fun _ w3 => ?_)
    refine e_aload_n (pc := 22) dX3_still_22 rfl rfl ?_
    refine e_getR (pc := 23) dX3_still_23 hs_X3_16 (fun r4 => ?_)
    refine e_getI (pc := 26) dX3_still_26 hs_X3_166 (fun x5 => ?_)
    refine e_if_ne (pc := 29) (tgt := 38) dX3_still_29 (by decide) (fun _ => ?_) (fun _ => ?_)
    · refine e_iconst (pc := 38) dX3_still_38 kc_0 ?_
      refine e_forget (L2 := [some (.ref a0), none, some (.int b2)]) (And.intro rfl (And.intro rfl trivial)) ?_
      exact t_X3_still_39 a0 k8 hk8 b2 (0 : Int32) w3
    · refine e_iload_n (pc := 32) dX3_still_32 rfl rfl ?_
      refine e_iconst (pc := 33) dX3_still_33 kc_1 ?_
      refine e_iadd (pc := 34) dX3_still_34 ?_
      refine e_goto (pc := 35) (tgt := 39) dX3_still_35 (by decide) ?_
      refine e_forget (L2 := [some (.ref a0), none, some (.int b2)]) (And.intro rfl (And.intro rfl trivial)) ?_
      exact t_X3_still_39 a0 k8 hk8 b2 (b1 + (1 : Int32)) w3
def f_X3_still (a0 : Nat) (w : aW) : Option (Int32 × aW) :=
  cV 2 w a0 (bk (f_X3_think a0 w) fun _ w1 =>
  loop3 (c_X3_still_8 a0) a_fuel (0 : Int32) (1 : Int32) w1)
theorem s_X3_still (a0 : Nat) (w : aW) : Sp rvI M_X3_still [.ref a0] w (f_X3_still a0 w) := by
  refine e_entry [some (.ref a0), none, none] (by decide +kernel) (Nat.le_of_ble_eq_true rfl) (fun _ => rfl) ?_
  unfold f_X3_still
  refine e_aload_n (pc := 0) dX3_still_0 rfl rfl ?_
  refine e_callV (pc := 1) (av := []) (S := []) (c0 := 2) rfl rfl ok_X3_think ⟨Nat.le_of_ble_eq_true rfl, Nat.le_of_ble_eq_true rfl⟩ hv_X3_56 dX3_still_1 (s_X3_think a0 w) rfl rfl (Nat.le_of_ble_eq_true rfl) (fun _ w1 => ?_)
  refine e_iconst (pc := 4) dX3_still_4 kc_0 ?_
  refine e_istore_n (L' := [some (.ref a0), some (.int (0 : Int32)), none]) (pc := 5) dX3_still_5 rfl (by decide) rfl ?_
  refine e_iconst (pc := 6) dX3_still_6 kc_1 ?_
  refine e_istore_n (L' := [some (.ref a0), some (.int (0 : Int32)), some (.int (1 : Int32))]) (pc := 7) dX3_still_7 rfl (by decide) rfl ?_
  exact e_loop3 (L := fun b1 b2 => [some (.ref a0), some (.int b1), some (.int b2)]) (S := fun b1 b2 => []) (fun kf hkf => t_X3_still_8 a0  kf hkf) _ (0 : Int32) (1 : Int32) w1
