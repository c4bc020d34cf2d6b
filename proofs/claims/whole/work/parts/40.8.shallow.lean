/-! X7_nextToken -/
def m_X7_nextToken_L165 {ρ : Type} (k0 : mM → Option ρ) (x0 : Nat) : Nat → mM → Option ρ
  | 0, _ => none
  | n + 1, M =>
    (gI M x0 7 12).bind fun v48 =>
    (gI M x0 7 11).bind fun v50 =>
    if v50 ≤ v48 then (
      k0 M
    ) else (
      (gR M x0 7 10).bind fun b53 =>
      (gI M x0 7 12).bind fun v55 =>
      (ldI M b53 v55).bind fun v58 =>
      (m_X7_in M (Int32.toInt64 v58) (48 : Int64) (57 : Int64)).bind fun v60 =>
      if v60 = (0 : Int32) then (
        k0 M
      ) else (
        (gI M x0 7 12).bind fun v62 =>
        (gI M x0 7 13).bind fun v64 =>
        if (2 : Int32) ≤ (v62 - v64) then (
          (gI M x0 7 15).bind fun v67 =>
          (pI M x0 7 15 v67).bind fun M69 =>
          (gI M69 x0 7 12).bind fun v71 =>
          (pI M69 x0 7 12 (v71 + (1 : Int32))).bind fun M73 =>
          m_X7_nextToken_L165 k0 x0 n M73
        ) else (
          (gI M x0 7 15).bind fun v75 =>
          (gR M x0 7 10).bind fun b77 =>
          (gI M x0 7 12).bind fun v79 =>
          (ldI M b77 v79).bind fun v82 =>
          (pI M x0 7 15 ((((10 : Int32) * v75) + v82) - (48 : Int32))).bind fun M83 =>
          (gI M83 x0 7 12).bind fun v85 =>
          (pI M83 x0 7 12 (v85 + (1 : Int32))).bind fun M87 =>
          m_X7_nextToken_L165 k0 x0 n M87
        )
      )
    )
theorem e_X7_nextToken_L165 {X : xX} {Z : zZ} {cn sn : Nat} {ρ : Type} {r : ρ} {k0 : mM → Option ρ} (G : ok_ X Z yX7_nextToken cX7_nextToken 1 1 0 0) (hcn : cn ≤ 0) (hsn : sn ≤ 0) (x0 : Nat)
    (hx0 : ∀ (N : mM), k0 N = some r → V X Z N cn sn 255 [some (.ref x0)] []) :
    ∀ (n : Nat) (M : mM), m_X7_nextToken_L165 k0 x0 n M = some r → V X Z M cn sn 165 [some (.ref x0)] [] := by
  intro n
  induction n with
  | zero => intro M h; rw [m_X7_nextToken_L165] at h; cases h
  | succ n ih =>
    intro M h
    rw [m_X7_nextToken_L165] at h
    refine v_aload_n G dX7_nextToken_165 rfl ?_
    obtain ⟨v48, q49, h⟩ := bi_ h
    refine v_getI (f := 12) G cl7 dX7_nextToken_166 w851 (by decide) (by decide) q49 ?_
    refine v_aload_n G dX7_nextToken_169 rfl ?_
    obtain ⟨v50, q51, h⟩ := bi_ h
    refine v_getI (f := 11) G cl7 dX7_nextToken_170 w850 (by decide) (by decide) q51 ?_
    refine v_ic_ge 255 G dX7_nextToken_173 (by decide) (fun q52 => ?_) (fun q52 => ?_)
    · rw [if_pos q52] at h
      exact v_mask [true] rfl (hx0 _ h)
    · rw [if_neg q52] at h
      refine v_aload_n G dX7_nextToken_176 rfl ?_
      obtain ⟨b53, q54, h⟩ := bi_ h
      refine v_getR (f := 10) G cl7 dX7_nextToken_177 w849 (by decide) (by decide) q54 ?_
      refine v_aload_n G dX7_nextToken_180 rfl ?_
      obtain ⟨v55, q56, h⟩ := bi_ h
      refine v_getI (f := 12) G cl7 dX7_nextToken_181 w851 (by decide) (by decide) q56 ?_
      obtain ⟨v58, q57, h⟩ := bi_ h
      refine v_iald G dX7_nextToken_184 q57 ?_
      refine v_i2l G dX7_nextToken_185 ?_
      refine v_ldc2 G (48 : Int64) dX7_nextToken_186 w974 ?_
      refine v_ldc2 G (57 : Int64) dX7_nextToken_189 w975 ?_
      obtain ⟨v60, q59, h⟩ := bi_ h
      refine v_callS0 (e_X7_in q59) G my_X7_in w928 w927 dX7_nextToken_192 rfl (Nat.le_of_ble_eq_true rfl) rfl (Nat.le_of_ble_eq_true rfl) hcn hsn ?_
      refine v_if_eq 255 G dX7_nextToken_195 (by decide) (fun q61 => ?_) (fun q61 => ?_)
      · rw [if_pos q61] at h
        exact v_mask [true] rfl (hx0 _ h)
      · rw [if_neg q61] at h
        refine v_aload_n G dX7_nextToken_198 rfl ?_
        refine v_aload_n G dX7_nextToken_199 rfl ?_
        obtain ⟨v62, q63, h⟩ := bi_ h
        refine v_getI (f := 12) G cl7 dX7_nextToken_200 w851 (by decide) (by decide) q63 ?_
        refine v_aload_n G dX7_nextToken_203 rfl ?_
        obtain ⟨v64, q65, h⟩ := bi_ h
        refine v_getI (f := 13) G cl7 dX7_nextToken_204 w852 (by decide) (by decide) q65 ?_
        refine v_isub G dX7_nextToken_207 ?_
        refine v_iconst G (2 : Int32) dX7_nextToken_208 (by decide) ?_
        refine v_ic_ge 235 G dX7_nextToken_209 (by decide) (fun q66 => ?_) (fun q66 => ?_)
        · rw [if_pos q66] at h
          refine v_aload_n G dX7_nextToken_235 rfl ?_
          obtain ⟨v67, q68, h⟩ := bi_ h
          refine v_getI (f := 15) G cl7 dX7_nextToken_236 w854 (by decide) (by decide) q68 ?_
          obtain ⟨M69, q70, h⟩ := bi_ h
          refine v_putI (f := 15) G cl7 dX7_nextToken_239 w854 (by decide) (by decide) (by decide) rfl rfl q70 ?_
          refine v_aload_n G dX7_nextToken_242 rfl ?_
          refine v_dup G dX7_nextToken_243 rfl ?_
          obtain ⟨v71, q72, h⟩ := bi_ h
          refine v_getI (f := 12) G cl7 dX7_nextToken_244 w851 (by decide) (by decide) q72 ?_
          refine v_iconst G (1 : Int32) dX7_nextToken_247 (by decide) ?_
          refine v_iadd G dX7_nextToken_248 ?_
          obtain ⟨M73, q74, h⟩ := bi_ h
          refine v_putI (f := 12) G cl7 dX7_nextToken_249 w851 (by decide) (by decide) (by decide) rfl rfl q74 ?_
          refine v_goto 165 G dX7_nextToken_252 (by decide) ?_
          exact v_mask [true] rfl (ih _ h)
        · rw [if_neg q66] at h
          refine v_bipush G (10 : Int32) dX7_nextToken_212 (by decide) ?_
          refine v_aload_n G dX7_nextToken_214 rfl ?_
          obtain ⟨v75, q76, h⟩ := bi_ h
          refine v_getI (f := 15) G cl7 dX7_nextToken_215 w854 (by decide) (by decide) q76 ?_
          refine v_imul G dX7_nextToken_218 ?_
          refine v_aload_n G dX7_nextToken_219 rfl ?_
          obtain ⟨b77, q78, h⟩ := bi_ h
          refine v_getR (f := 10) G cl7 dX7_nextToken_220 w849 (by decide) (by decide) q78 ?_
          refine v_aload_n G dX7_nextToken_223 rfl ?_
          obtain ⟨v79, q80, h⟩ := bi_ h
          refine v_getI (f := 12) G cl7 dX7_nextToken_224 w851 (by decide) (by decide) q80 ?_
          obtain ⟨v82, q81, h⟩ := bi_ h
          refine v_iald G dX7_nextToken_227 q81 ?_
          refine v_iadd G dX7_nextToken_228 ?_
          refine v_bipush G (48 : Int32) dX7_nextToken_229 (by decide) ?_
          refine v_isub G dX7_nextToken_231 ?_
          refine v_goto 239 G dX7_nextToken_232 (by decide) ?_
          obtain ⟨M83, q84, h⟩ := bi_ h
          refine v_putI (f := 15) G cl7 dX7_nextToken_239 w854 (by decide) (by decide) (by decide) rfl rfl q84 ?_
          refine v_aload_n G dX7_nextToken_242 rfl ?_
          refine v_dup G dX7_nextToken_243 rfl ?_
          obtain ⟨v85, q86, h⟩ := bi_ h
          refine v_getI (f := 12) G cl7 dX7_nextToken_244 w851 (by decide) (by decide) q86 ?_
          refine v_iconst G (1 : Int32) dX7_nextToken_247 (by decide) ?_
          refine v_iadd G dX7_nextToken_248 ?_
          obtain ⟨M87, q88, h⟩ := bi_ h
          refine v_putI (f := 12) G cl7 dX7_nextToken_249 w851 (by decide) (by decide) (by decide) rfl rfl q88 ?_
          refine v_goto 165 G dX7_nextToken_252 (by decide) ?_
          exact v_mask [true] rfl (ih _ h)
def m_X7_nextToken (M : mM) (x0 : Nat) : Option mM :=
  (gI M x0 7 12).bind fun v1 =>
  (pI M x0 7 13 v1).bind fun M3 =>
  (gI M3 x0 7 12).bind fun v5 =>
  (gI M3 x0 7 11).bind fun v7 =>
  if v7 ≤ v5 then (
    (pI M3 x0 7 15 (-1000000 : Int32)).bind fun M10 =>
    (gI M10 x0 7 12).bind fun v12 =>
    (gI M10 x0 7 11).bind fun v14 =>
    if v12 = v14 then (
      (pI M10 x0 7 14 (1 : Int32)).bind fun M309 =>
      (gI M309 x0 7 12).bind fun v311 =>
      (gI M309 x0 7 12).bind fun v313 =>
      (gI M309 x0 7 11).bind fun v315 =>
      if v315 ≤ v313 then (
        (pI M309 x0 7 12 (v311 + (0 : Int32))).bind fun M318 =>
        (gI M318 x0 7 14).bind fun v320 =>
        if v320 = (3 : Int32) then (
          (gI M318 x0 7 15).bind fun v323 =>
          (pI M318 x0 7 15 (v323 - (48 : Int32))).bind fun M325 =>
          m_X7_nextToken_L165
            (fun M327 =>
              (gI M327 x0 7 12).bind fun v328 =>
              (gI M327 x0 7 13).bind fun v330 =>
              if (v328 - v330) ≤ (2 : Int32) then (
                (pI M327 x0 7 14 (3 : Int32)).bind fun M333 =>
                some M333
              ) else (
                (pI M327 x0 7 14 (0 : Int32)).bind fun M335 =>
                some M335
              ))
            x0 FU M325
        ) else (
          some M318
        )
      ) else (
        (pI M309 x0 7 12 (v311 + (1 : Int32))).bind fun M337 =>
        (gI M337 x0 7 14).bind fun v339 =>
        if v339 = (3 : Int32) then (
          (gI M337 x0 7 15).bind fun v342 =>
          (pI M337 x0 7 15 (v342 - (48 : Int32))).bind fun M344 =>
          m_X7_nextToken_L165
            (fun M346 =>
              (gI M346 x0 7 12).bind fun v347 =>
              (gI M346 x0 7 13).bind fun v349 =>
              if (v347 - v349) ≤ (2 : Int32) then (
                (pI M346 x0 7 14 (3 : Int32)).bind fun M352 =>
                some M352
              ) else (
                (pI M346 x0 7 14 (0 : Int32)).bind fun M354 =>
                some M354
              ))
            x0 FU M344
        ) else (
          some M337
        )
      )
    ) else (
      (gI M10 x0 7 15).bind fun v17 =>
      (m_X7_in M10 (Int32.toInt64 v17) (97 : Int64) (122 : Int64)).bind fun v20 =>
      if v20 = (0 : Int32) then (
        (gI M10 x0 7 15).bind fun v22 =>
        (m_X7_in M10 (Int32.toInt64 v22) (48 : Int64) (57 : Int64)).bind fun v25 =>
        if v25 = (0 : Int32) then (
          (gI M10 x0 7 15).bind fun v27 =>
          if v27 = (44 : Int32) then (
            (pI M10 x0 7 14 (4 : Int32)).bind fun M30 =>
            (gI M30 x0 7 12).bind fun v32 =>
            (gI M30 x0 7 12).bind fun v34 =>
            (gI M30 x0 7 11).bind fun v36 =>
            if v36 ≤ v34 then (
              (pI M30 x0 7 12 (v32 + (0 : Int32))).bind fun M39 =>
              (gI M39 x0 7 14).bind fun v41 =>
              if v41 = (3 : Int32) then (
                (gI M39 x0 7 15).bind fun v44 =>
                (pI M39 x0 7 15 (v44 - (48 : Int32))).bind fun M46 =>
                m_X7_nextToken_L165
                  (fun M89 =>
                    (gI M89 x0 7 12).bind fun v90 =>
                    (gI M89 x0 7 13).bind fun v92 =>
                    if (v90 - v92) ≤ (2 : Int32) then (
                      (pI M89 x0 7 14 (3 : Int32)).bind fun M95 =>
                      some M95
                    ) else (
                      (pI M89 x0 7 14 (0 : Int32)).bind fun M97 =>
                      some M97
                    ))
                  x0 FU M46
              ) else (
                some M39
              )
            ) else (
              (pI M30 x0 7 12 (v32 + (1 : Int32))).bind fun M99 =>
              (gI M99 x0 7 14).bind fun v101 =>
              if v101 = (3 : Int32) then (
                (gI M99 x0 7 15).bind fun v104 =>
                (pI M99 x0 7 15 (v104 - (48 : Int32))).bind fun M106 =>
                m_X7_nextToken_L165
                  (fun M108 =>
                    (gI M108 x0 7 12).bind fun v109 =>
                    (gI M108 x0 7 13).bind fun v111 =>
                    if (v109 - v111) ≤ (2 : Int32) then (
                      (pI M108 x0 7 14 (3 : Int32)).bind fun M114 =>
                      some M114
                    ) else (
                      (pI M108 x0 7 14 (0 : Int32)).bind fun M116 =>
                      some M116
                    ))
                  x0 FU M106
              ) else (
                some M99
              )
            )
          ) else (
            (gI M10 x0 7 15).bind fun v118 =>
            if v118 = (59 : Int32) then (
              (pI M10 x0 7 14 (4 : Int32)).bind fun M168 =>
              (gI M168 x0 7 12).bind fun v170 =>
              (gI M168 x0 7 12).bind fun v172 =>
              (gI M168 x0 7 11).bind fun v174 =>
              if v174 ≤ v172 then (
                (pI M168 x0 7 12 (v170 + (0 : Int32))).bind fun M177 =>
                (gI M177 x0 7 14).bind fun v179 =>
                if v179 = (3 : Int32) then (
                  (gI M177 x0 7 15).bind fun v182 =>
                  (pI M177 x0 7 15 (v182 - (48 : Int32))).bind fun M184 =>
                  m_X7_nextToken_L165
                    (fun M186 =>
                      (gI M186 x0 7 12).bind fun v187 =>
                      (gI M186 x0 7 13).bind fun v189 =>
                      if (v187 - v189) ≤ (2 : Int32) then (
                        (pI M186 x0 7 14 (3 : Int32)).bind fun M192 =>
                        some M192
                      ) else (
                        (pI M186 x0 7 14 (0 : Int32)).bind fun M194 =>
                        some M194
                      ))
                    x0 FU M184
                ) else (
                  some M177
                )
              ) else (
                (pI M168 x0 7 12 (v170 + (1 : Int32))).bind fun M196 =>
                (gI M196 x0 7 14).bind fun v198 =>
                if v198 = (3 : Int32) then (
                  (gI M196 x0 7 15).bind fun v201 =>
                  (pI M196 x0 7 15 (v201 - (48 : Int32))).bind fun M203 =>
                  m_X7_nextToken_L165
                    (fun M205 =>
                      (gI M205 x0 7 12).bind fun v206 =>
                      (gI M205 x0 7 13).bind fun v208 =>
                      if (v206 - v208) ≤ (2 : Int32) then (
                        (pI M205 x0 7 14 (3 : Int32)).bind fun M211 =>
                        some M211
                      ) else (
                        (pI M205 x0 7 14 (0 : Int32)).bind fun M213 =>
                        some M213
                      ))
                    x0 FU M203
                ) else (
                  some M196
                )
              )
            ) else (
              (pI M10 x0 7 14 (0 : Int32)).bind fun M121 =>
              (gI M121 x0 7 12).bind fun v123 =>
              (gI M121 x0 7 12).bind fun v125 =>
              (gI M121 x0 7 11).bind fun v127 =>
              if v127 ≤ v125 then (
                (pI M121 x0 7 12 (v123 + (0 : Int32))).bind fun M130 =>
                (gI M130 x0 7 14).bind fun v132 =>
                if v132 = (3 : Int32) then (
                  (gI M130 x0 7 15).bind fun v135 =>
                  (pI M130 x0 7 15 (v135 - (48 : Int32))).bind fun M137 =>
                  m_X7_nextToken_L165
                    (fun M139 =>
                      (gI M139 x0 7 12).bind fun v140 =>
                      (gI M139 x0 7 13).bind fun v142 =>
                      if (v140 - v142) ≤ (2 : Int32) then (
                        (pI M139 x0 7 14 (3 : Int32)).bind fun M145 =>
                        some M145
                      ) else (
                        (pI M139 x0 7 14 (0 : Int32)).bind fun M147 =>
                        some M147
                      ))
                    x0 FU M137
                ) else (
                  some M130
                )
              ) else (
                (pI M121 x0 7 12 (v123 + (1 : Int32))).bind fun M149 =>
                (gI M149 x0 7 14).bind fun v151 =>
                if v151 = (3 : Int32) then (
                  (gI M149 x0 7 15).bind fun v154 =>
                  (pI M149 x0 7 15 (v154 - (48 : Int32))).bind fun M156 =>
                  m_X7_nextToken_L165
                    (fun M158 =>
                      (gI M158 x0 7 12).bind fun v159 =>
                      (gI M158 x0 7 13).bind fun v161 =>
                      if (v159 - v161) ≤ (2 : Int32) then (
                        (pI M158 x0 7 14 (3 : Int32)).bind fun M164 =>
                        some M164
                      ) else (
                        (pI M158 x0 7 14 (0 : Int32)).bind fun M166 =>
                        some M166
                      ))
                    x0 FU M156
                ) else (
                  some M149
                )
              )
            )
          )
        ) else (
          (pI M10 x0 7 14 (3 : Int32)).bind fun M215 =>
          (gI M215 x0 7 12).bind fun v217 =>
          (gI M215 x0 7 12).bind fun v219 =>
          (gI M215 x0 7 11).bind fun v221 =>
          if v221 ≤ v219 then (
            (pI M215 x0 7 12 (v217 + (0 : Int32))).bind fun M224 =>
            (gI M224 x0 7 14).bind fun v226 =>
            if v226 = (3 : Int32) then (
              (gI M224 x0 7 15).bind fun v229 =>
              (pI M224 x0 7 15 (v229 - (48 : Int32))).bind fun M231 =>
              m_X7_nextToken_L165
                (fun M233 =>
                  (gI M233 x0 7 12).bind fun v234 =>
                  (gI M233 x0 7 13).bind fun v236 =>
                  if (v234 - v236) ≤ (2 : Int32) then (
                    (pI M233 x0 7 14 (3 : Int32)).bind fun M239 =>
                    some M239
                  ) else (
                    (pI M233 x0 7 14 (0 : Int32)).bind fun M241 =>
                    some M241
                  ))
                x0 FU M231
            ) else (
              some M224
            )
          ) else (
            (pI M215 x0 7 12 (v217 + (1 : Int32))).bind fun M243 =>
            (gI M243 x0 7 14).bind fun v245 =>
            if v245 = (3 : Int32) then (
              (gI M243 x0 7 15).bind fun v248 =>
              (pI M243 x0 7 15 (v248 - (48 : Int32))).bind fun M250 =>
              m_X7_nextToken_L165
                (fun M252 =>
                  (gI M252 x0 7 12).bind fun v253 =>
                  (gI M252 x0 7 13).bind fun v255 =>
                  if (v253 - v255) ≤ (2 : Int32) then (
                    (pI M252 x0 7 14 (3 : Int32)).bind fun M258 =>
                    some M258
                  ) else (
                    (pI M252 x0 7 14 (0 : Int32)).bind fun M260 =>
                    some M260
                  ))
                x0 FU M250
            ) else (
              some M243
            )
          )
        )
      ) else (
        (pI M10 x0 7 14 (2 : Int32)).bind fun M262 =>
        (gI M262 x0 7 12).bind fun v264 =>
        (gI M262 x0 7 12).bind fun v266 =>
        (gI M262 x0 7 11).bind fun v268 =>
        if v268 ≤ v266 then (
          (pI M262 x0 7 12 (v264 + (0 : Int32))).bind fun M271 =>
          (gI M271 x0 7 14).bind fun v273 =>
          if v273 = (3 : Int32) then (
            (gI M271 x0 7 15).bind fun v276 =>
            (pI M271 x0 7 15 (v276 - (48 : Int32))).bind fun M278 =>
            m_X7_nextToken_L165
              (fun M280 =>
                (gI M280 x0 7 12).bind fun v281 =>
                (gI M280 x0 7 13).bind fun v283 =>
                if (v281 - v283) ≤ (2 : Int32) then (
                  (pI M280 x0 7 14 (3 : Int32)).bind fun M286 =>
                  some M286
                ) else (
                  (pI M280 x0 7 14 (0 : Int32)).bind fun M288 =>
                  some M288
                ))
              x0 FU M278
          ) else (
            some M271
          )
        ) else (
          (pI M262 x0 7 12 (v264 + (1 : Int32))).bind fun M290 =>
          (gI M290 x0 7 14).bind fun v292 =>
          if v292 = (3 : Int32) then (
            (gI M290 x0 7 15).bind fun v295 =>
            (pI M290 x0 7 15 (v295 - (48 : Int32))).bind fun M297 =>
            m_X7_nextToken_L165
              (fun M299 =>
                (gI M299 x0 7 12).bind fun v300 =>
                (gI M299 x0 7 13).bind fun v302 =>
                if (v300 - v302) ≤ (2 : Int32) then (
                  (pI M299 x0 7 14 (3 : Int32)).bind fun M305 =>
                  some M305
                ) else (
                  (pI M299 x0 7 14 (0 : Int32)).bind fun M307 =>
                  some M307
                ))
              x0 FU M297
          ) else (
            some M290
          )
        )
      )
    )
  ) else (
    (gR M3 x0 7 10).bind fun b356 =>
    (gI M3 x0 7 12).bind fun v358 =>
    (ldI M3 b356 v358).bind fun v361 =>
    (pI M3 x0 7 15 v361).bind fun M362 =>
    (gI M362 x0 7 12).bind fun v364 =>
    (gI M362 x0 7 11).bind fun v366 =>
    if v364 = v366 then (
      (pI M362 x0 7 14 (1 : Int32)).bind fun M620 =>
      (gI M620 x0 7 12).bind fun v622 =>
      (gI M620 x0 7 12).bind fun v624 =>
      (gI M620 x0 7 11).bind fun v626 =>
      if v626 ≤ v624 then (
        (pI M620 x0 7 12 (v622 + (0 : Int32))).bind fun M629 =>
        (gI M629 x0 7 14).bind fun v631 =>
        if v631 = (3 : Int32) then (
          (gI M629 x0 7 15).bind fun v634 =>
          (pI M629 x0 7 15 (v634 - (48 : Int32))).bind fun M636 =>
          m_X7_nextToken_L165
            (fun M638 =>
              (gI M638 x0 7 12).bind fun v639 =>
              (gI M638 x0 7 13).bind fun v641 =>
              if (v639 - v641) ≤ (2 : Int32) then (
                (pI M638 x0 7 14 (3 : Int32)).bind fun M644 =>
                some M644
              ) else (
                (pI M638 x0 7 14 (0 : Int32)).bind fun M646 =>
                some M646
              ))
            x0 FU M636
        ) else (
          some M629
        )
      ) else (
        (pI M620 x0 7 12 (v622 + (1 : Int32))).bind fun M648 =>
        (gI M648 x0 7 14).bind fun v650 =>
        if v650 = (3 : Int32) then (
          (gI M648 x0 7 15).bind fun v653 =>
          (pI M648 x0 7 15 (v653 - (48 : Int32))).bind fun M655 =>
          m_X7_nextToken_L165
            (fun M657 =>
              (gI M657 x0 7 12).bind fun v658 =>
              (gI M657 x0 7 13).bind fun v660 =>
              if (v658 - v660) ≤ (2 : Int32) then (
                (pI M657 x0 7 14 (3 : Int32)).bind fun M663 =>
                some M663
              ) else (
                (pI M657 x0 7 14 (0 : Int32)).bind fun M665 =>
                some M665
              ))
            x0 FU M655
        ) else (
          some M648
        )
      )
    ) else (
      (gI M362 x0 7 15).bind fun v369 =>
      (m_X7_in M362 (Int32.toInt64 v369) (97 : Int64) (122 : Int64)).bind fun v372 =>
      if v372 = (0 : Int32) then (
        (gI M362 x0 7 15).bind fun v374 =>
        (m_X7_in M362 (Int32.toInt64 v374) (48 : Int64) (57 : Int64)).bind fun v377 =>
        if v377 = (0 : Int32) then (
          (gI M362 x0 7 15).bind fun v379 =>
          if v379 = (44 : Int32) then (
            (pI M362 x0 7 14 (4 : Int32)).bind fun M382 =>
            (gI M382 x0 7 12).bind fun v384 =>
            (gI M382 x0 7 12).bind fun v386 =>
            (gI M382 x0 7 11).bind fun v388 =>
            if v388 ≤ v386 then (
              (pI M382 x0 7 12 (v384 + (0 : Int32))).bind fun M391 =>
              (gI M391 x0 7 14).bind fun v393 =>
              if v393 = (3 : Int32) then (
                (gI M391 x0 7 15).bind fun v396 =>
                (pI M391 x0 7 15 (v396 - (48 : Int32))).bind fun M398 =>
                m_X7_nextToken_L165
                  (fun M400 =>
                    (gI M400 x0 7 12).bind fun v401 =>
                    (gI M400 x0 7 13).bind fun v403 =>
                    if (v401 - v403) ≤ (2 : Int32) then (
                      (pI M400 x0 7 14 (3 : Int32)).bind fun M406 =>
                      some M406
                    ) else (
                      (pI M400 x0 7 14 (0 : Int32)).bind fun M408 =>
                      some M408
                    ))
                  x0 FU M398
              ) else (
                some M391
              )
            ) else (
              (pI M382 x0 7 12 (v384 + (1 : Int32))).bind fun M410 =>
              (gI M410 x0 7 14).bind fun v412 =>
              if v412 = (3 : Int32) then (
                (gI M410 x0 7 15).bind fun v415 =>
                (pI M410 x0 7 15 (v415 - (48 : Int32))).bind fun M417 =>
                m_X7_nextToken_L165
                  (fun M419 =>
                    (gI M419 x0 7 12).bind fun v420 =>
                    (gI M419 x0 7 13).bind fun v422 =>
                    if (v420 - v422) ≤ (2 : Int32) then (
                      (pI M419 x0 7 14 (3 : Int32)).bind fun M425 =>
                      some M425
                    ) else (
                      (pI M419 x0 7 14 (0 : Int32)).bind fun M427 =>
                      some M427
                    ))
                  x0 FU M417
              ) else (
                some M410
              )
            )
          ) else (
            (gI M362 x0 7 15).bind fun v429 =>
            if v429 = (59 : Int32) then (
              (pI M362 x0 7 14 (4 : Int32)).bind fun M479 =>
              (gI M479 x0 7 12).bind fun v481 =>
              (gI M479 x0 7 12).bind fun v483 =>
              (gI M479 x0 7 11).bind fun v485 =>
              if v485 ≤ v483 then (
                (pI M479 x0 7 12 (v481 + (0 : Int32))).bind fun M488 =>
                (gI M488 x0 7 14).bind fun v490 =>
                if v490 = (3 : Int32) then (
                  (gI M488 x0 7 15).bind fun v493 =>
                  (pI M488 x0 7 15 (v493 - (48 : Int32))).bind fun M495 =>
                  m_X7_nextToken_L165
                    (fun M497 =>
                      (gI M497 x0 7 12).bind fun v498 =>
                      (gI M497 x0 7 13).bind fun v500 =>
                      if (v498 - v500) ≤ (2 : Int32) then (
                        (pI M497 x0 7 14 (3 : Int32)).bind fun M503 =>
                        some M503
                      ) else (
                        (pI M497 x0 7 14 (0 : Int32)).bind fun M505 =>
                        some M505
                      ))
                    x0 FU M495
                ) else (
                  some M488
                )
              ) else (
                (pI M479 x0 7 12 (v481 + (1 : Int32))).bind fun M507 =>
                (gI M507 x0 7 14).bind fun v509 =>
                if v509 = (3 : Int32) then (
                  (gI M507 x0 7 15).bind fun v512 =>
                  (pI M507 x0 7 15 (v512 - (48 : Int32))).bind fun M514 =>
                  m_X7_nextToken_L165
                    (fun M516 =>
                      (gI M516 x0 7 12).bind fun v517 =>
                      (gI M516 x0 7 13).bind fun v519 =>
                      if (v517 - v519) ≤ (2 : Int32) then (
                        (pI M516 x0 7 14 (3 : Int32)).bind fun M522 =>
                        some M522
                      ) else (
                        (pI M516 x0 7 14 (0 : Int32)).bind fun M524 =>
                        some M524
                      ))
                    x0 FU M514
                ) else (
                  some M507
                )
              )
            ) else (
              (pI M362 x0 7 14 (0 : Int32)).bind fun M432 =>
              (gI M432 x0 7 12).bind fun v434 =>
              (gI M432 x0 7 12).bind fun v436 =>
              (gI M432 x0 7 11).bind fun v438 =>
              if v438 ≤ v436 then (
                (pI M432 x0 7 12 (v434 + (0 : Int32))).bind fun M441 =>
                (gI M441 x0 7 14).bind fun v443 =>
                if v443 = (3 : Int32) then (
                  (gI M441 x0 7 15).bind fun v446 =>
                  (pI M441 x0 7 15 (v446 - (48 : Int32))).bind fun M448 =>
                  m_X7_nextToken_L165
                    (fun M450 =>
                      (gI M450 x0 7 12).bind fun v451 =>
                      (gI M450 x0 7 13).bind fun v453 =>
                      if (v451 - v453) ≤ (2 : Int32) then (
                        (pI M450 x0 7 14 (3 : Int32)).bind fun M456 =>
                        some M456
                      ) else (
                        (pI M450 x0 7 14 (0 : Int32)).bind fun M458 =>
                        some M458
                      ))
                    x0 FU M448
                ) else (
                  some M441
                )
              ) else (
                (pI M432 x0 7 12 (v434 + (1 : Int32))).bind fun M460 =>
                (gI M460 x0 7 14).bind fun v462 =>
                if v462 = (3 : Int32) then (
                  (gI M460 x0 7 15).bind fun v465 =>
                  (pI M460 x0 7 15 (v465 - (48 : Int32))).bind fun M467 =>
                  m_X7_nextToken_L165
                    (fun M469 =>
                      (gI M469 x0 7 12).bind fun v470 =>
                      (gI M469 x0 7 13).bind fun v472 =>
                      if (v470 - v472) ≤ (2 : Int32) then (
                        (pI M469 x0 7 14 (3 : Int32)).bind fun M475 =>
                        some M475
                      ) else (
                        (pI M469 x0 7 14 (0 : Int32)).bind fun M477 =>
                        some M477
                      ))
                    x0 FU M467
                ) else (
                  some M460
                )
              )
            )
          )
        ) else (
          (pI M362 x0 7 14 (3 : Int32)).bind fun M526 =>
          (gI M526 x0 7 12).bind fun v528 =>
          (gI M526 x0 7 12).bind fun v530 =>
          (gI M526 x0 7 11).bind fun v532 =>
          if v532 ≤ v530 then (
            (pI M526 x0 7 12 (v528 + (0 : Int32))).bind fun M535 =>
            (gI M535 x0 7 14).bind fun v537 =>
            if v537 = (3 : Int32) then (
              (gI M535 x0 7 15).bind fun v540 =>
              (pI M535 x0 7 15 (v540 - (48 : Int32))).bind fun M542 =>
              m_X7_nextToken_L165
                (fun M544 =>
                  (gI M544 x0 7 12).bind fun v545 =>
                  (gI M544 x0 7 13).bind fun v547 =>
                  if (v545 - v547) ≤ (2 : Int32) then (
                    (pI M544 x0 7 14 (3 : Int32)).bind fun M550 =>
                    some M550
                  ) else (
                    (pI M544 x0 7 14 (0 : Int32)).bind fun M552 =>
                    some M552
                  ))
                x0 FU M542
            ) else (
              some M535
            )
          ) else (
            (pI M526 x0 7 12 (v528 + (1 : Int32))).bind fun M554 =>
            (gI M554 x0 7 14).bind fun v556 =>
            if v556 = (3 : Int32) then (
              (gI M554 x0 7 15).bind fun v559 =>
              (pI M554 x0 7 15 (v559 - (48 : Int32))).bind fun M561 =>
              m_X7_nextToken_L165
                (fun M563 =>
                  (gI M563 x0 7 12).bind fun v564 =>
                  (gI M563 x0 7 13).bind fun v566 =>
                  if (v564 - v566) ≤ (2 : Int32) then (
                    (pI M563 x0 7 14 (3 : Int32)).bind fun M569 =>
                    some M569
                  ) else (
                    (pI M563 x0 7 14 (0 : Int32)).bind fun M571 =>
                    some M571
                  ))
                x0 FU M561
            ) else (
              some M554
            )
          )
        )
      ) else (
        (pI M362 x0 7 14 (2 : Int32)).bind fun M573 =>
        (gI M573 x0 7 12).bind fun v575 =>
        (gI M573 x0 7 12).bind fun v577 =>
        (gI M573 x0 7 11).bind fun v579 =>
        if v579 ≤ v577 then (
          (pI M573 x0 7 12 (v575 + (0 : Int32))).bind fun M582 =>
          (gI M582 x0 7 14).bind fun v584 =>
          if v584 = (3 : Int32) then (
            (gI M582 x0 7 15).bind fun v587 =>
            (pI M582 x0 7 15 (v587 - (48 : Int32))).bind fun M589 =>
            m_X7_nextToken_L165
              (fun M591 =>
                (gI M591 x0 7 12).bind fun v592 =>
                (gI M591 x0 7 13).bind fun v594 =>
                if (v592 - v594) ≤ (2 : Int32) then (
                  (pI M591 x0 7 14 (3 : Int32)).bind fun M597 =>
                  some M597
                ) else (
                  (pI M591 x0 7 14 (0 : Int32)).bind fun M599 =>
                  some M599
                ))
              x0 FU M589
          ) else (
            some M582
          )
        ) else (
          (pI M573 x0 7 12 (v575 + (1 : Int32))).bind fun M601 =>
          (gI M601 x0 7 14).bind fun v603 =>
          if v603 = (3 : Int32) then (
            (gI M601 x0 7 15).bind fun v606 =>
            (pI M601 x0 7 15 (v606 - (48 : Int32))).bind fun M608 =>
            m_X7_nextToken_L165
              (fun M610 =>
                (gI M610 x0 7 12).bind fun v611 =>
                (gI M610 x0 7 13).bind fun v613 =>
                if (v611 - v613) ≤ (2 : Int32) then (
                  (pI M610 x0 7 14 (3 : Int32)).bind fun M616 =>
                  some M616
                ) else (
                  (pI M610 x0 7 14 (0 : Int32)).bind fun M618 =>
                  some M618
                ))
              x0 FU M608
          ) else (
            some M601
          )
        )
      )
    )
  )
theorem e_X7_nextToken {Z : zZ} {M : mM} {N : mM} {x0 : Nat} (h : m_X7_nextToken M x0 = some N) : EM Z yX7_nextToken cX7_nextToken 1 none 1 0 0 [.ref x0] M N none := by
  refine EM_of my_X7_nextToken (Nat.le_of_ble_eq_true rfl) (fun X G F => ?_)
  show V X Z M 0 0 0 [some (.ref x0)] []
  unfold m_X7_nextToken at h
  refine v_aload_n G dX7_nextToken_0 rfl ?_
  refine v_aload_n G dX7_nextToken_1 rfl ?_
  obtain ⟨v1, q2, h⟩ := bi_ h
  refine v_getI (f := 12) G cl7 dX7_nextToken_2 w851 (by decide) (by decide) q2 ?_
  obtain ⟨M3, q4, h⟩ := bi_ h
  refine v_putI (f := 13) G cl7 dX7_nextToken_5 w852 (by decide) (by decide) (by decide) rfl rfl q4 ?_
  refine v_aload_n G dX7_nextToken_8 rfl ?_
  refine v_aload_n G dX7_nextToken_9 rfl ?_
  obtain ⟨v5, q6, h⟩ := bi_ h
  refine v_getI (f := 12) G cl7 dX7_nextToken_10 w851 (by decide) (by decide) q6 ?_
  refine v_aload_n G dX7_nextToken_13 rfl ?_
  obtain ⟨v7, q8, h⟩ := bi_ h
  refine v_getI (f := 11) G cl7 dX7_nextToken_14 w850 (by decide) (by decide) q8 ?_
  refine v_ic_ge 32 G dX7_nextToken_17 (by decide) (fun q9 => ?_) (fun q9 => ?_)
  · rw [if_pos q9] at h
    refine v_ldc G (-1000000 : Int32) dX7_nextToken_32 w971 ?_
    obtain ⟨M10, q11, h⟩ := bi_ h
    refine v_putI (f := 15) G cl7 dX7_nextToken_34 w854 (by decide) (by decide) (by decide) rfl rfl q11 ?_
    refine v_aload_n G dX7_nextToken_37 rfl ?_
    refine v_aload_n G dX7_nextToken_38 rfl ?_
    obtain ⟨v12, q13, h⟩ := bi_ h
    refine v_getI (f := 12) G cl7 dX7_nextToken_39 w851 (by decide) (by decide) q13 ?_
    refine v_aload_n G dX7_nextToken_42 rfl ?_
    obtain ⟨v14, q15, h⟩ := bi_ h
    refine v_getI (f := 11) G cl7 dX7_nextToken_43 w850 (by decide) (by decide) q15 ?_
    refine v_ic_ne 53 G dX7_nextToken_46 (by decide) (fun q16 => ?_) (fun q16 => ?_)
    · rw [if_neg q16] at h
      refine v_aload_n G dX7_nextToken_53 rfl ?_
      obtain ⟨v17, q18, h⟩ := bi_ h
      refine v_getI (f := 15) G cl7 dX7_nextToken_54 w854 (by decide) (by decide) q18 ?_
      refine v_i2l G dX7_nextToken_57 ?_
      refine v_ldc2 G (97 : Int64) dX7_nextToken_58 w972 ?_
      refine v_ldc2 G (122 : Int64) dX7_nextToken_61 w973 ?_
      obtain ⟨v20, q19, h⟩ := bi_ h
      refine v_callS0 (e_X7_in q19) G my_X7_in w928 w927 dX7_nextToken_64 rfl (Nat.le_of_ble_eq_true rfl) rfl (Nat.le_of_ble_eq_true rfl) (Nat.zero_le _) (Nat.zero_le _) ?_
      refine v_if_eq 74 G dX7_nextToken_67 (by decide) (fun q21 => ?_) (fun q21 => ?_)
      · rw [if_pos q21] at h
        refine v_aload_n G dX7_nextToken_74 rfl ?_
        obtain ⟨v22, q23, h⟩ := bi_ h
        refine v_getI (f := 15) G cl7 dX7_nextToken_75 w854 (by decide) (by decide) q23 ?_
        refine v_i2l G dX7_nextToken_78 ?_
        refine v_ldc2 G (48 : Int64) dX7_nextToken_79 w974 ?_
        refine v_ldc2 G (57 : Int64) dX7_nextToken_82 w975 ?_
        obtain ⟨v25, q24, h⟩ := bi_ h
        refine v_callS0 (e_X7_in q24) G my_X7_in w928 w927 dX7_nextToken_85 rfl (Nat.le_of_ble_eq_true rfl) rfl (Nat.le_of_ble_eq_true rfl) (Nat.zero_le _) (Nat.zero_le _) ?_
        refine v_if_eq 95 G dX7_nextToken_88 (by decide) (fun q26 => ?_) (fun q26 => ?_)
        · rw [if_pos q26] at h
          refine v_aload_n G dX7_nextToken_95 rfl ?_
          obtain ⟨v27, q28, h⟩ := bi_ h
          refine v_getI (f := 15) G cl7 dX7_nextToken_96 w854 (by decide) (by decide) q28 ?_
          refine v_bipush G (44 : Int32) dX7_nextToken_99 (by decide) ?_
          refine v_ic_eq 113 G dX7_nextToken_101 (by decide) (fun q29 => ?_) (fun q29 => ?_)
          · rw [if_pos q29] at h
            refine v_iconst G (4 : Int32) dX7_nextToken_113 (by decide) ?_
            refine v_goto 118 G dX7_nextToken_114 (by decide) ?_
            obtain ⟨M30, q31, h⟩ := bi_ h
            refine v_putI (f := 14) G cl7 dX7_nextToken_118 w853 (by decide) (by decide) (by decide) rfl rfl q31 ?_
            refine v_aload_n G dX7_nextToken_121 rfl ?_
            refine v_dup G dX7_nextToken_122 rfl ?_
            obtain ⟨v32, q33, h⟩ := bi_ h
            refine v_getI (f := 12) G cl7 dX7_nextToken_123 w851 (by decide) (by decide) q33 ?_
            refine v_aload_n G dX7_nextToken_126 rfl ?_
            obtain ⟨v34, q35, h⟩ := bi_ h
            refine v_getI (f := 12) G cl7 dX7_nextToken_127 w851 (by decide) (by decide) q35 ?_
            refine v_aload_n G dX7_nextToken_130 rfl ?_
            obtain ⟨v36, q37, h⟩ := bi_ h
            refine v_getI (f := 11) G cl7 dX7_nextToken_131 w850 (by decide) (by decide) q37 ?_
            refine v_ic_ge 141 G dX7_nextToken_134 (by decide) (fun q38 => ?_) (fun q38 => ?_)
            · rw [if_pos q38] at h
              refine v_iconst G (0 : Int32) dX7_nextToken_141 (by decide) ?_
              refine v_iadd G dX7_nextToken_142 ?_
              obtain ⟨M39, q40, h⟩ := bi_ h
              refine v_putI (f := 12) G cl7 dX7_nextToken_143 w851 (by decide) (by decide) (by decide) rfl rfl q40 ?_
              refine v_aload_n G dX7_nextToken_146 rfl ?_
              obtain ⟨v41, q42, h⟩ := bi_ h
              refine v_getI (f := 14) G cl7 dX7_nextToken_147 w853 (by decide) (by decide) q42 ?_
              refine v_iconst G (3 : Int32) dX7_nextToken_150 (by decide) ?_
              refine v_ic_ne 277 G dX7_nextToken_151 (by decide) (fun q43 => ?_) (fun q43 => ?_)
              · rw [if_neg q43] at h
                cases h
                exact v_vret G F dX7_nextToken_277 rfl (Nat.le_refl _)
              · rw [if_pos q43] at h
                refine v_aload_n G dX7_nextToken_154 rfl ?_
                refine v_dup G dX7_nextToken_155 rfl ?_
                obtain ⟨v44, q45, h⟩ := bi_ h
                refine v_getI (f := 15) G cl7 dX7_nextToken_156 w854 (by decide) (by decide) q45 ?_
                refine v_bipush G (48 : Int32) dX7_nextToken_159 (by decide) ?_
                refine v_isub G dX7_nextToken_161 ?_
                obtain ⟨M46, q47, h⟩ := bi_ h
                refine v_putI (f := 15) G cl7 dX7_nextToken_162 w854 (by decide) (by decide) (by decide) rfl rfl q47 ?_
                refine v_mask [true] rfl ?_
                refine e_X7_nextToken_L165 G (Nat.zero_le _) (Nat.zero_le _) _ (fun M89 h => ?_) FU _ h
                refine v_aload_n G dX7_nextToken_255 rfl ?_
                refine v_aload_n G dX7_nextToken_256 rfl ?_
                obtain ⟨v90, q91, h⟩ := bi_ h
                refine v_getI (f := 12) G cl7 dX7_nextToken_257 w851 (by decide) (by decide) q91 ?_
                refine v_aload_n G dX7_nextToken_260 rfl ?_
                obtain ⟨v92, q93, h⟩ := bi_ h
                refine v_getI (f := 13) G cl7 dX7_nextToken_261 w852 (by decide) (by decide) q93 ?_
                refine v_isub G dX7_nextToken_264 ?_
                refine v_iconst G (2 : Int32) dX7_nextToken_265 (by decide) ?_
                refine v_ic_le 273 G dX7_nextToken_266 (by decide) (fun q94 => ?_) (fun q94 => ?_)
                · rw [if_pos q94] at h
                  refine v_iconst G (3 : Int32) dX7_nextToken_273 (by decide) ?_
                  obtain ⟨M95, q96, h⟩ := bi_ h
                  refine v_putI (f := 14) G cl7 dX7_nextToken_274 w853 (by decide) (by decide) (by decide) rfl rfl q96 ?_
                  cases h
                  exact v_vret G F dX7_nextToken_277 rfl (Nat.le_refl _)
                · rw [if_neg q94] at h
                  refine v_iconst G (0 : Int32) dX7_nextToken_269 (by decide) ?_
                  refine v_goto 274 G dX7_nextToken_270 (by decide) ?_
                  obtain ⟨M97, q98, h⟩ := bi_ h
                  refine v_putI (f := 14) G cl7 dX7_nextToken_274 w853 (by decide) (by decide) (by decide) rfl rfl q98 ?_
                  cases h
                  exact v_vret G F dX7_nextToken_277 rfl (Nat.le_refl _)
            · rw [if_neg q38] at h
              refine v_iconst G (1 : Int32) dX7_nextToken_137 (by decide) ?_
              refine v_goto 142 G dX7_nextToken_138 (by decide) ?_
              refine v_iadd G dX7_nextToken_142 ?_
              obtain ⟨M99, q100, h⟩ := bi_ h
              refine v_putI (f := 12) G cl7 dX7_nextToken_143 w851 (by decide) (by decide) (by decide) rfl rfl q100 ?_
              refine v_aload_n G dX7_nextToken_146 rfl ?_
              obtain ⟨v101, q102, h⟩ := bi_ h
              refine v_getI (f := 14) G cl7 dX7_nextToken_147 w853 (by decide) (by decide) q102 ?_
              refine v_iconst G (3 : Int32) dX7_nextToken_150 (by decide) ?_
              refine v_ic_ne 277 G dX7_nextToken_151 (by decide) (fun q103 => ?_) (fun q103 => ?_)
              · rw [if_neg q103] at h
                cases h
                exact v_vret G F dX7_nextToken_277 rfl (Nat.le_refl _)
              · rw [if_pos q103] at h
                refine v_aload_n G dX7_nextToken_154 rfl ?_
                refine v_dup G dX7_nextToken_155 rfl ?_
                obtain ⟨v104, q105, h⟩ := bi_ h
                refine v_getI (f := 15) G cl7 dX7_nextToken_156 w854 (by decide) (by decide) q105 ?_
                refine v_bipush G (48 : Int32) dX7_nextToken_159 (by decide) ?_
                refine v_isub G dX7_nextToken_161 ?_
                obtain ⟨M106, q107, h⟩ := bi_ h
                refine v_putI (f := 15) G cl7 dX7_nextToken_162 w854 (by decide) (by decide) (by decide) rfl rfl q107 ?_
                refine v_mask [true] rfl ?_
                refine e_X7_nextToken_L165 G (Nat.zero_le _) (Nat.zero_le _) _ (fun M108 h => ?_) FU _ h
                refine v_aload_n G dX7_nextToken_255 rfl ?_
                refine v_aload_n G dX7_nextToken_256 rfl ?_
                obtain ⟨v109, q110, h⟩ := bi_ h
                refine v_getI (f := 12) G cl7 dX7_nextToken_257 w851 (by decide) (by decide) q110 ?_
                refine v_aload_n G dX7_nextToken_260 rfl ?_
                obtain ⟨v111, q112, h⟩ := bi_ h
                refine v_getI (f := 13) G cl7 dX7_nextToken_261 w852 (by decide) (by decide) q112 ?_
                refine v_isub G dX7_nextToken_264 ?_
                refine v_iconst G (2 : Int32) dX7_nextToken_265 (by decide) ?_
                refine v_ic_le 273 G dX7_nextToken_266 (by decide) (fun q113 => ?_) (fun q113 => ?_)
                · rw [if_pos q113] at h
                  refine v_iconst G (3 : Int32) dX7_nextToken_273 (by decide) ?_
                  obtain ⟨M114, q115, h⟩ := bi_ h
                  refine v_putI (f := 14) G cl7 dX7_nextToken_274 w853 (by decide) (by decide) (by decide) rfl rfl q115 ?_
                  cases h
                  exact v_vret G F dX7_nextToken_277 rfl (Nat.le_refl _)
                · rw [if_neg q113] at h
                  refine v_iconst G (0 : Int32) dX7_nextToken_269 (by decide) ?_
                  refine v_goto 274 G dX7_nextToken_270 (by decide) ?_
                  obtain ⟨M116, q117, h⟩ := bi_ h
                  refine v_putI (f := 14) G cl7 dX7_nextToken_274 w853 (by decide) (by decide) (by decide) rfl rfl q117 ?_
                  cases h
                  exact v_vret G F dX7_nextToken_277 rfl (Nat.le_refl _)
          · rw [if_neg q29] at h
            refine v_aload_n G dX7_nextToken_104 rfl ?_
            obtain ⟨v118, q119, h⟩ := bi_ h
            refine v_getI (f := 15) G cl7 dX7_nextToken_105 w854 (by decide) (by decide) q119 ?_
            refine v_bipush G (59 : Int32) dX7_nextToken_108 (by decide) ?_
            refine v_ic_ne 117 G dX7_nextToken_110 (by decide) (fun q120 => ?_) (fun q120 => ?_)
            · rw [if_neg q120] at h
              refine v_iconst G (0 : Int32) dX7_nextToken_117 (by decide) ?_
              obtain ⟨M121, q122, h⟩ := bi_ h
              refine v_putI (f := 14) G cl7 dX7_nextToken_118 w853 (by decide) (by decide) (by decide) rfl rfl q122 ?_
              refine v_aload_n G dX7_nextToken_121 rfl ?_
              refine v_dup G dX7_nextToken_122 rfl ?_
              obtain ⟨v123, q124, h⟩ := bi_ h
              refine v_getI (f := 12) G cl7 dX7_nextToken_123 w851 (by decide) (by decide) q124 ?_
              refine v_aload_n G dX7_nextToken_126 rfl ?_
              obtain ⟨v125, q126, h⟩ := bi_ h
              refine v_getI (f := 12) G cl7 dX7_nextToken_127 w851 (by decide) (by decide) q126 ?_
              refine v_aload_n G dX7_nextToken_130 rfl ?_
              obtain ⟨v127, q128, h⟩ := bi_ h
              refine v_getI (f := 11) G cl7 dX7_nextToken_131 w850 (by decide) (by decide) q128 ?_
              refine v_ic_ge 141 G dX7_nextToken_134 (by decide) (fun q129 => ?_) (fun q129 => ?_)
              · rw [if_pos q129] at h
                refine v_iconst G (0 : Int32) dX7_nextToken_141 (by decide) ?_
                refine v_iadd G dX7_nextToken_142 ?_
                obtain ⟨M130, q131, h⟩ := bi_ h
                refine v_putI (f := 12) G cl7 dX7_nextToken_143 w851 (by decide) (by decide) (by decide) rfl rfl q131 ?_
                refine v_aload_n G dX7_nextToken_146 rfl ?_
                obtain ⟨v132, q133, h⟩ := bi_ h
                refine v_getI (f := 14) G cl7 dX7_nextToken_147 w853 (by decide) (by decide) q133 ?_
                refine v_iconst G (3 : Int32) dX7_nextToken_150 (by decide) ?_
                refine v_ic_ne 277 G dX7_nextToken_151 (by decide) (fun q134 => ?_) (fun q134 => ?_)
                · rw [if_neg q134] at h
                  cases h
                  exact v_vret G F dX7_nextToken_277 rfl (Nat.le_refl _)
                · rw [if_pos q134] at h
                  refine v_aload_n G dX7_nextToken_154 rfl ?_
                  refine v_dup G dX7_nextToken_155 rfl ?_
                  obtain ⟨v135, q136, h⟩ := bi_ h
                  refine v_getI (f := 15) G cl7 dX7_nextToken_156 w854 (by decide) (by decide) q136 ?_
                  refine v_bipush G (48 : Int32) dX7_nextToken_159 (by decide) ?_
                  refine v_isub G dX7_nextToken_161 ?_
                  obtain ⟨M137, q138, h⟩ := bi_ h
                  refine v_putI (f := 15) G cl7 dX7_nextToken_162 w854 (by decide) (by decide) (by decide) rfl rfl q138 ?_
                  refine v_mask [true] rfl ?_
                  refine e_X7_nextToken_L165 G (Nat.zero_le _) (Nat.zero_le _) _ (fun M139 h => ?_) FU _ h
                  refine v_aload_n G dX7_nextToken_255 rfl ?_
                  refine v_aload_n G dX7_nextToken_256 rfl ?_
                  obtain ⟨v140, q141, h⟩ := bi_ h
                  refine v_getI (f := 12) G cl7 dX7_nextToken_257 w851 (by decide) (by decide) q141 ?_
                  refine v_aload_n G dX7_nextToken_260 rfl ?_
                  obtain ⟨v142, q143, h⟩ := bi_ h
                  refine v_getI (f := 13) G cl7 dX7_nextToken_261 w852 (by decide) (by decide) q143 ?_
                  refine v_isub G dX7_nextToken_264 ?_
                  refine v_iconst G (2 : Int32) dX7_nextToken_265 (by decide) ?_
                  refine v_ic_le 273 G dX7_nextToken_266 (by decide) (fun q144 => ?_) (fun q144 => ?_)
                  · rw [if_pos q144] at h
                    refine v_iconst G (3 : Int32) dX7_nextToken_273 (by decide) ?_
                    obtain ⟨M145, q146, h⟩ := bi_ h
                    refine v_putI (f := 14) G cl7 dX7_nextToken_274 w853 (by decide) (by decide) (by decide) rfl rfl q146 ?_
                    cases h
                    exact v_vret G F dX7_nextToken_277 rfl (Nat.le_refl _)
                  · rw [if_neg q144] at h
                    refine v_iconst G (0 : Int32) dX7_nextToken_269 (by decide) ?_
                    refine v_goto 274 G dX7_nextToken_270 (by decide) ?_
                    obtain ⟨M147, q148, h⟩ := bi_ h
                    refine v_putI (f := 14) G cl7 dX7_nextToken_274 w853 (by decide) (by decide) (by decide) rfl rfl q148 ?_
                    cases h
                    exact v_vret G F dX7_nextToken_277 rfl (Nat.le_refl _)
              · rw [if_neg q129] at h
                refine v_iconst G (1 : Int32) dX7_nextToken_137 (by decide) ?_
                refine v_goto 142 G dX7_nextToken_138 (by decide) ?_
                refine v_iadd G dX7_nextToken_142 ?_
                obtain ⟨M149, q150, h⟩ := bi_ h
                refine v_putI (f := 12) G cl7 dX7_nextToken_143 w851 (by decide) (by decide) (by decide) rfl rfl q150 ?_
                refine v_aload_n G dX7_nextToken_146 rfl ?_
                obtain ⟨v151, q152, h⟩ := bi_ h
                refine v_getI (f := 14) G cl7 dX7_nextToken_147 w853 (by decide) (by decide) q152 ?_
                refine v_iconst G (3 : Int32) dX7_nextToken_150 (by decide) ?_
                refine v_ic_ne 277 G dX7_nextToken_151 (by decide) (fun q153 => ?_) (fun q153 => ?_)
                · rw [if_neg q153] at h
                  cases h
                  exact v_vret G F dX7_nextToken_277 rfl (Nat.le_refl _)
                · rw [if_pos q153] at h
                  refine v_aload_n G dX7_nextToken_154 rfl ?_
                  refine v_dup G dX7_nextToken_155 rfl ?_
                  obtain ⟨v154, q155, h⟩ := bi_ h
                  refine v_getI (f := 15) G cl7 dX7_nextToken_156 w854 (by decide) (by decide) q155 ?_
                  refine v_bipush G (48 : Int32) dX7_nextToken_159 (by decide) ?_
                  refine v_isub G dX7_nextToken_161 ?_
                  obtain ⟨M156, q157, h⟩ := bi_ h
                  refine v_putI (f := 15) G cl7 dX7_nextToken_162 w854 (by decide) (by decide) (by decide) rfl rfl q157 ?_
                  refine v_mask [true] rfl ?_
                  refine e_X7_nextToken_L165 G (Nat.zero_le _) (Nat.zero_le _) _ (fun M158 h => ?_) FU _ h
                  refine v_aload_n G dX7_nextToken_255 rfl ?_
                  refine v_aload_n G dX7_nextToken_256 rfl ?_
                  obtain ⟨v159, q160, h⟩ := bi_ h
                  refine v_getI (f := 12) G cl7 dX7_nextToken_257 w851 (by decide) (by decide) q160 ?_
                  refine v_aload_n G dX7_nextToken_260 rfl ?_
                  obtain ⟨v161, q162, h⟩ := bi_ h
                  refine v_getI (f := 13) G cl7 dX7_nextToken_261 w852 (by decide) (by decide) q162 ?_
                  refine v_isub G dX7_nextToken_264 ?_
                  refine v_iconst G (2 : Int32) dX7_nextToken_265 (by decide) ?_
                  refine v_ic_le 273 G dX7_nextToken_266 (by decide) (fun q163 => ?_) (fun q163 => ?_)
                  · rw [if_pos q163] at h
                    refine v_iconst G (3 : Int32) dX7_nextToken_273 (by decide) ?_
                    obtain ⟨M164, q165, h⟩ := bi_ h
                    refine v_putI (f := 14) G cl7 dX7_nextToken_274 w853 (by decide) (by decide) (by decide) rfl rfl q165 ?_
                    cases h
                    exact v_vret G F dX7_nextToken_277 rfl (Nat.le_refl _)
                  · rw [if_neg q163] at h
                    refine v_iconst G (0 : Int32) dX7_nextToken_269 (by decide) ?_
                    refine v_goto 274 G dX7_nextToken_270 (by decide) ?_
                    obtain ⟨M166, q167, h⟩ := bi_ h
                    refine v_putI (f := 14) G cl7 dX7_nextToken_274 w853 (by decide) (by decide) (by decide) rfl rfl q167 ?_
                    cases h
                    exact v_vret G F dX7_nextToken_277 rfl (Nat.le_refl _)
            · rw [if_pos q120] at h
              refine v_iconst G (4 : Int32) dX7_nextToken_113 (by decide) ?_
              refine v_goto 118 G dX7_nextToken_114 (by decide) ?_
              obtain ⟨M168, q169, h⟩ := bi_ h
              refine v_putI (f := 14) G cl7 dX7_nextToken_118 w853 (by decide) (by decide) (by decide) rfl rfl q169 ?_
              refine v_aload_n G dX7_nextToken_121 rfl ?_
              refine v_dup G dX7_nextToken_122 rfl ?_
              obtain ⟨v170, q171, h⟩ := bi_ h
              refine v_getI (f := 12) G cl7 dX7_nextToken_123 w851 (by decide) (by decide) q171 ?_
              refine v_aload_n G dX7_nextToken_126 rfl ?_
              obtain ⟨v172, q173, h⟩ := bi_ h
              refine v_getI (f := 12) G cl7 dX7_nextToken_127 w851 (by decide) (by decide) q173 ?_
              refine v_aload_n G dX7_nextToken_130 rfl ?_
              obtain ⟨v174, q175, h⟩ := bi_ h
              refine v_getI (f := 11) G cl7 dX7_nextToken_131 w850 (by decide) (by decide) q175 ?_
              refine v_ic_ge 141 G dX7_nextToken_134 (by decide) (fun q176 => ?_) (fun q176 => ?_)
              · rw [if_pos q176] at h
                refine v_iconst G (0 : Int32) dX7_nextToken_141 (by decide) ?_
                refine v_iadd G dX7_nextToken_142 ?_
                obtain ⟨M177, q178, h⟩ := bi_ h
                refine v_putI (f := 12) G cl7 dX7_nextToken_143 w851 (by decide) (by decide) (by decide) rfl rfl q178 ?_
                refine v_aload_n G dX7_nextToken_146 rfl ?_
                obtain ⟨v179, q180, h⟩ := bi_ h
                refine v_getI (f := 14) G cl7 dX7_nextToken_147 w853 (by decide) (by decide) q180 ?_
                refine v_iconst G (3 : Int32) dX7_nextToken_150 (by decide) ?_
                refine v_ic_ne 277 G dX7_nextToken_151 (by decide) (fun q181 => ?_) (fun q181 => ?_)
                · rw [if_neg q181] at h
                  cases h
                  exact v_vret G F dX7_nextToken_277 rfl (Nat.le_refl _)
                · rw [if_pos q181] at h
                  refine v_aload_n G dX7_nextToken_154 rfl ?_
                  refine v_dup G dX7_nextToken_155 rfl ?_
                  obtain ⟨v182, q183, h⟩ := bi_ h
                  refine v_getI (f := 15) G cl7 dX7_nextToken_156 w854 (by decide) (by decide) q183 ?_
                  refine v_bipush G (48 : Int32) dX7_nextToken_159 (by decide) ?_
                  refine v_isub G dX7_nextToken_161 ?_
                  obtain ⟨M184, q185, h⟩ := bi_ h
                  refine v_putI (f := 15) G cl7 dX7_nextToken_162 w854 (by decide) (by decide) (by decide) rfl rfl q185 ?_
                  refine v_mask [true] rfl ?_
                  refine e_X7_nextToken_L165 G (Nat.zero_le _) (Nat.zero_le _) _ (fun M186 h => ?_) FU _ h
                  refine v_aload_n G dX7_nextToken_255 rfl ?_
                  refine v_aload_n G dX7_nextToken_256 rfl ?_
                  obtain ⟨v187, q188, h⟩ := bi_ h
                  refine v_getI (f := 12) G cl7 dX7_nextToken_257 w851 (by decide) (by decide) q188 ?_
                  refine v_aload_n G dX7_nextToken_260 rfl ?_
                  obtain ⟨v189, q190, h⟩ := bi_ h
                  refine v_getI (f := 13) G cl7 dX7_nextToken_261 w852 (by decide) (by decide) q190 ?_
                  refine v_isub G dX7_nextToken_264 ?_
                  refine v_iconst G (2 : Int32) dX7_nextToken_265 (by decide) ?_
                  refine v_ic_le 273 G dX7_nextToken_266 (by decide) (fun q191 => ?_) (fun q191 => ?_)
                  · rw [if_pos q191] at h
                    refine v_iconst G (3 : Int32) dX7_nextToken_273 (by decide) ?_
                    obtain ⟨M192, q193, h⟩ := bi_ h
                    refine v_putI (f := 14) G cl7 dX7_nextToken_274 w853 (by decide) (by decide) (by decide) rfl rfl q193 ?_
                    cases h
                    exact v_vret G F dX7_nextToken_277 rfl (Nat.le_refl _)
                  · rw [if_neg q191] at h
                    refine v_iconst G (0 : Int32) dX7_nextToken_269 (by decide) ?_
                    refine v_goto 274 G dX7_nextToken_270 (by decide) ?_
                    obtain ⟨M194, q195, h⟩ := bi_ h
                    refine v_putI (f := 14) G cl7 dX7_nextToken_274 w853 (by decide) (by decide) (by decide) rfl rfl q195 ?_
                    cases h
                    exact v_vret G F dX7_nextToken_277 rfl (Nat.le_refl _)
              · rw [if_neg q176] at h
                refine v_iconst G (1 : Int32) dX7_nextToken_137 (by decide) ?_
                refine v_goto 142 G dX7_nextToken_138 (by decide) ?_
                refine v_iadd G dX7_nextToken_142 ?_
                obtain ⟨M196, q197, h⟩ := bi_ h
                refine v_putI (f := 12) G cl7 dX7_nextToken_143 w851 (by decide) (by decide) (by decide) rfl rfl q197 ?_
                refine v_aload_n G dX7_nextToken_146 rfl ?_
                obtain ⟨v198, q199, h⟩ := bi_ h
                refine v_getI (f := 14) G cl7 dX7_nextToken_147 w853 (by decide) (by decide) q199 ?_
                refine v_iconst G (3 : Int32) dX7_nextToken_150 (by decide) ?_
                refine v_ic_ne 277 G dX7_nextToken_151 (by decide) (fun q200 => ?_) (fun q200 => ?_)
                · rw [if_neg q200] at h
                  cases h
                  exact v_vret G F dX7_nextToken_277 rfl (Nat.le_refl _)
                · rw [if_pos q200] at h
                  refine v_aload_n G dX7_nextToken_154 rfl ?_
                  refine v_dup G dX7_nextToken_155 rfl ?_
                  obtain ⟨v201, q202, h⟩ := bi_ h
                  refine v_getI (f := 15) G cl7 dX7_nextToken_156 w854 (by decide) (by decide) q202 ?_
                  refine v_bipush G (48 : Int32) dX7_nextToken_159 (by decide) ?_
                  refine v_isub G dX7_nextToken_161 ?_
                  obtain ⟨M203, q204, h⟩ := bi_ h
                  refine v_putI (f := 15) G cl7 dX7_nextToken_162 w854 (by decide) (by decide) (by decide) rfl rfl q204 ?_
                  refine v_mask [true] rfl ?_
                  refine e_X7_nextToken_L165 G (Nat.zero_le _) (Nat.zero_le _) _ (fun M205 h => ?_) FU _ h
                  refine v_aload_n G dX7_nextToken_255 rfl ?_
                  refine v_aload_n G dX7_nextToken_256 rfl ?_
                  obtain ⟨v206, q207, h⟩ := bi_ h
                  refine v_getI (f := 12) G cl7 dX7_nextToken_257 w851 (by decide) (by decide) q207 ?_
                  refine v_aload_n G dX7_nextToken_260 rfl ?_
                  obtain ⟨v208, q209, h⟩ := bi_ h
                  refine v_getI (f := 13) G cl7 dX7_nextToken_261 w852 (by decide) (by decide) q209 ?_
                  refine v_isub G dX7_nextToken_264 ?_
                  refine v_iconst G (2 : Int32) dX7_nextToken_265 (by decide) ?_
                  refine v_ic_le 273 G dX7_nextToken_266 (by decide) (fun q210 => ?_) (fun q210 => ?_)
                  · rw [if_pos q210] at h
                    refine v_iconst G (3 : Int32) dX7_nextToken_273 (by decide) ?_
                    obtain ⟨M211, q212, h⟩ := bi_ h
                    refine v_putI (f := 14) G cl7 dX7_nextToken_274 w853 (by decide) (by decide) (by decide) rfl rfl q212 ?_
                    cases h
                    exact v_vret G F dX7_nextToken_277 rfl (Nat.le_refl _)
                  · rw [if_neg q210] at h
                    refine v_iconst G (0 : Int32) dX7_nextToken_269 (by decide) ?_
                    refine v_goto 274 G dX7_nextToken_270 (by decide) ?_
                    obtain ⟨M213, q214, h⟩ := bi_ h
                    refine v_putI (f := 14) G cl7 dX7_nextToken_274 w853 (by decide) (by decide) (by decide) rfl rfl q214 ?_
                    cases h
                    exact v_vret G F dX7_nextToken_277 rfl (Nat.le_refl _)
        · rw [if_neg q26] at h
          refine v_iconst G (3 : Int32) dX7_nextToken_91 (by decide) ?_
          refine v_goto 118 G dX7_nextToken_92 (by decide) ?_
          obtain ⟨M215, q216, h⟩ := bi_ h
          refine v_putI (f := 14) G cl7 dX7_nextToken_118 w853 (by decide) (by decide) (by decide) rfl rfl q216 ?_
          refine v_aload_n G dX7_nextToken_121 rfl ?_
          refine v_dup G dX7_nextToken_122 rfl ?_
          obtain ⟨v217, q218, h⟩ := bi_ h
          refine v_getI (f := 12) G cl7 dX7_nextToken_123 w851 (by decide) (by decide) q218 ?_
          refine v_aload_n G dX7_nextToken_126 rfl ?_
          obtain ⟨v219, q220, h⟩ := bi_ h
          refine v_getI (f := 12) G cl7 dX7_nextToken_127 w851 (by decide) (by decide) q220 ?_
          refine v_aload_n G dX7_nextToken_130 rfl ?_
          obtain ⟨v221, q222, h⟩ := bi_ h
          refine v_getI (f := 11) G cl7 dX7_nextToken_131 w850 (by decide) (by decide) q222 ?_
          refine v_ic_ge 141 G dX7_nextToken_134 (by decide) (fun q223 => ?_) (fun q223 => ?_)
          · rw [if_pos q223] at h
            refine v_iconst G (0 : Int32) dX7_nextToken_141 (by decide) ?_
            refine v_iadd G dX7_nextToken_142 ?_
            obtain ⟨M224, q225, h⟩ := bi_ h
            refine v_putI (f := 12) G cl7 dX7_nextToken_143 w851 (by decide) (by decide) (by decide) rfl rfl q225 ?_
            refine v_aload_n G dX7_nextToken_146 rfl ?_
            obtain ⟨v226, q227, h⟩ := bi_ h
            refine v_getI (f := 14) G cl7 dX7_nextToken_147 w853 (by decide) (by decide) q227 ?_
            refine v_iconst G (3 : Int32) dX7_nextToken_150 (by decide) ?_
            refine v_ic_ne 277 G dX7_nextToken_151 (by decide) (fun q228 => ?_) (fun q228 => ?_)
            · rw [if_neg q228] at h
              cases h
              exact v_vret G F dX7_nextToken_277 rfl (Nat.le_refl _)
            · rw [if_pos q228] at h
              refine v_aload_n G dX7_nextToken_154 rfl ?_
              refine v_dup G dX7_nextToken_155 rfl ?_
              obtain ⟨v229, q230, h⟩ := bi_ h
              refine v_getI (f := 15) G cl7 dX7_nextToken_156 w854 (by decide) (by decide) q230 ?_
              refine v_bipush G (48 : Int32) dX7_nextToken_159 (by decide) ?_
              refine v_isub G dX7_nextToken_161 ?_
              obtain ⟨M231, q232, h⟩ := bi_ h
              refine v_putI (f := 15) G cl7 dX7_nextToken_162 w854 (by decide) (by decide) (by decide) rfl rfl q232 ?_
              refine v_mask [true] rfl ?_
              refine e_X7_nextToken_L165 G (Nat.zero_le _) (Nat.zero_le _) _ (fun M233 h => ?_) FU _ h
              refine v_aload_n G dX7_nextToken_255 rfl ?_
              refine v_aload_n G dX7_nextToken_256 rfl ?_
              obtain ⟨v234, q235, h⟩ := bi_ h
              refine v_getI (f := 12) G cl7 dX7_nextToken_257 w851 (by decide) (by decide) q235 ?_
              refine v_aload_n G dX7_nextToken_260 rfl ?_
              obtain ⟨v236, q237, h⟩ := bi_ h
              refine v_getI (f := 13) G cl7 dX7_nextToken_261 w852 (by decide) (by decide) q237 ?_
              refine v_isub G dX7_nextToken_264 ?_
              refine v_iconst G (2 : Int32) dX7_nextToken_265 (by decide) ?_
              refine v_ic_le 273 G dX7_nextToken_266 (by decide) (fun q238 => ?_) (fun q238 => ?_)
              · rw [if_pos q238] at h
                refine v_iconst G (3 : Int32) dX7_nextToken_273 (by decide) ?_
                obtain ⟨M239, q240, h⟩ := bi_ h
                refine v_putI (f := 14) G cl7 dX7_nextToken_274 w853 (by decide) (by decide) (by decide) rfl rfl q240 ?_
                cases h
                exact v_vret G F dX7_nextToken_277 rfl (Nat.le_refl _)
              · rw [if_neg q238] at h
                refine v_iconst G (0 : Int32) dX7_nextToken_269 (by decide) ?_
                refine v_goto 274 G dX7_nextToken_270 (by decide) ?_
                obtain ⟨M241, q242, h⟩ := bi_ h
                refine v_putI (f := 14) G cl7 dX7_nextToken_274 w853 (by decide) (by decide) (by decide) rfl rfl q242 ?_
                cases h
                exact v_vret G F dX7_nextToken_277 rfl (Nat.le_refl _)
          · rw [if_neg q223] at h
            refine v_iconst G (1 : Int32) dX7_nextToken_137 (by decide) ?_
            refine v_goto 142 G dX7_nextToken_138 (by decide) ?_
            refine v_iadd G dX7_nextToken_142 ?_
            obtain ⟨M243, q244, h⟩ := bi_ h
            refine v_putI (f := 12) G cl7 dX7_nextToken_143 w851 (by decide) (by decide) (by decide) rfl rfl q244 ?_
            refine v_aload_n G dX7_nextToken_146 rfl ?_
            obtain ⟨v245, q246, h⟩ := bi_ h
            refine v_getI (f := 14) G cl7 dX7_nextToken_147 w853 (by decide) (by decide) q246 ?_
            refine v_iconst G (3 : Int32) dX7_nextToken_150 (by decide) ?_
            refine v_ic_ne 277 G dX7_nextToken_151 (by decide) (fun q247 => ?_) (fun q247 => ?_)
            · rw [if_neg q247] at h
              cases h
              exact v_vret G F dX7_nextToken_277 rfl (Nat.le_refl _)
            · rw [if_pos q247] at h
              refine v_aload_n G dX7_nextToken_154 rfl ?_
              refine v_dup G dX7_nextToken_155 rfl ?_
              obtain ⟨v248, q249, h⟩ := bi_ h
              refine v_getI (f := 15) G cl7 dX7_nextToken_156 w854 (by decide) (by decide) q249 ?_
              refine v_bipush G (48 : Int32) dX7_nextToken_159 (by decide) ?_
              refine v_isub G dX7_nextToken_161 ?_
              obtain ⟨M250, q251, h⟩ := bi_ h
              refine v_putI (f := 15) G cl7 dX7_nextToken_162 w854 (by decide) (by decide) (by decide) rfl rfl q251 ?_
              refine v_mask [true] rfl ?_
              refine e_X7_nextToken_L165 G (Nat.zero_le _) (Nat.zero_le _) _ (fun M252 h => ?_) FU _ h
              refine v_aload_n G dX7_nextToken_255 rfl ?_
              refine v_aload_n G dX7_nextToken_256 rfl ?_
              obtain ⟨v253, q254, h⟩ := bi_ h
              refine v_getI (f := 12) G cl7 dX7_nextToken_257 w851 (by decide) (by decide) q254 ?_
              refine v_aload_n G dX7_nextToken_260 rfl ?_
              obtain ⟨v255, q256, h⟩ := bi_ h
              refine v_getI (f := 13) G cl7 dX7_nextToken_261 w852 (by decide) (by decide) q256 ?_
              refine v_isub G dX7_nextToken_264 ?_
              refine v_iconst G (2 : Int32) dX7_nextToken_265 (by decide) ?_
              refine v_ic_le 273 G dX7_nextToken_266 (by decide) (fun q257 => ?_) (fun q257 => ?_)
              · rw [if_pos q257] at h
                refine v_iconst G (3 : Int32) dX7_nextToken_273 (by decide) ?_
                obtain ⟨M258, q259, h⟩ := bi_ h
                refine v_putI (f := 14) G cl7 dX7_nextToken_274 w853 (by decide) (by decide) (by decide) rfl rfl q259 ?_
                cases h
                exact v_vret G F dX7_nextToken_277 rfl (Nat.le_refl _)
              · rw [if_neg q257] at h
                refine v_iconst G (0 : Int32) dX7_nextToken_269 (by decide) ?_
                refine v_goto 274 G dX7_nextToken_270 (by decide) ?_
                obtain ⟨M260, q261, h⟩ := bi_ h
                refine v_putI (f := 14) G cl7 dX7_nextToken_274 w853 (by decide) (by decide) (by decide) rfl rfl q261 ?_
                cases h
                exact v_vret G F dX7_nextToken_277 rfl (Nat.le_refl _)
      · rw [if_neg q21] at h
        refine v_iconst G (2 : Int32) dX7_nextToken_70 (by decide) ?_
        refine v_goto 118 G dX7_nextToken_71 (by decide) ?_
        obtain ⟨M262, q263, h⟩ := bi_ h
        refine v_putI (f := 14) G cl7 dX7_nextToken_118 w853 (by decide) (by decide) (by decide) rfl rfl q263 ?_
        refine v_aload_n G dX7_nextToken_121 rfl ?_
        refine v_dup G dX7_nextToken_122 rfl ?_
        obtain ⟨v264, q265, h⟩ := bi_ h
        refine v_getI (f := 12) G cl7 dX7_nextToken_123 w851 (by decide) (by decide) q265 ?_
        refine v_aload_n G dX7_nextToken_126 rfl ?_
        obtain ⟨v266, q267, h⟩ := bi_ h
        refine v_getI (f := 12) G cl7 dX7_nextToken_127 w851 (by decide) (by decide) q267 ?_
        refine v_aload_n G dX7_nextToken_130 rfl ?_
        obtain ⟨v268, q269, h⟩ := bi_ h
        refine v_getI (f := 11) G cl7 dX7_nextToken_131 w850 (by decide) (by decide) q269 ?_
        refine v_ic_ge 141 G dX7_nextToken_134 (by decide) (fun q270 => ?_) (fun q270 => ?_)
        · rw [if_pos q270] at h
          refine v_iconst G (0 : Int32) dX7_nextToken_141 (by decide) ?_
          refine v_iadd G dX7_nextToken_142 ?_
          obtain ⟨M271, q272, h⟩ := bi_ h
          refine v_putI (f := 12) G cl7 dX7_nextToken_143 w851 (by decide) (by decide) (by decide) rfl rfl q272 ?_
          refine v_aload_n G dX7_nextToken_146 rfl ?_
          obtain ⟨v273, q274, h⟩ := bi_ h
          refine v_getI (f := 14) G cl7 dX7_nextToken_147 w853 (by decide) (by decide) q274 ?_
          refine v_iconst G (3 : Int32) dX7_nextToken_150 (by decide) ?_
          refine v_ic_ne 277 G dX7_nextToken_151 (by decide) (fun q275 => ?_) (fun q275 => ?_)
          · rw [if_neg q275] at h
            cases h
            exact v_vret G F dX7_nextToken_277 rfl (Nat.le_refl _)
          · rw [if_pos q275] at h
            refine v_aload_n G dX7_nextToken_154 rfl ?_
            refine v_dup G dX7_nextToken_155 rfl ?_
            obtain ⟨v276, q277, h⟩ := bi_ h
            refine v_getI (f := 15) G cl7 dX7_nextToken_156 w854 (by decide) (by decide) q277 ?_
            refine v_bipush G (48 : Int32) dX7_nextToken_159 (by decide) ?_
            refine v_isub G dX7_nextToken_161 ?_
            obtain ⟨M278, q279, h⟩ := bi_ h
            refine v_putI (f := 15) G cl7 dX7_nextToken_162 w854 (by decide) (by decide) (by decide) rfl rfl q279 ?_
            refine v_mask [true] rfl ?_
            refine e_X7_nextToken_L165 G (Nat.zero_le _) (Nat.zero_le _) _ (fun M280 h => ?_) FU _ h
            refine v_aload_n G dX7_nextToken_255 rfl ?_
            refine v_aload_n G dX7_nextToken_256 rfl ?_
            obtain ⟨v281, q282, h⟩ := bi_ h
            refine v_getI (f := 12) G cl7 dX7_nextToken_257 w851 (by decide) (by decide) q282 ?_
            refine v_aload_n G dX7_nextToken_260 rfl ?_
            obtain ⟨v283, q284, h⟩ := bi_ h
            refine v_getI (f := 13) G cl7 dX7_nextToken_261 w852 (by decide) (by decide) q284 ?_
            refine v_isub G dX7_nextToken_264 ?_
            refine v_iconst G (2 : Int32) dX7_nextToken_265 (by decide) ?_
            refine v_ic_le 273 G dX7_nextToken_266 (by decide) (fun q285 => ?_) (fun q285 => ?_)
            · rw [if_pos q285] at h
              refine v_iconst G (3 : Int32) dX7_nextToken_273 (by decide) ?_
              obtain ⟨M286, q287, h⟩ := bi_ h
              refine v_putI (f := 14) G cl7 dX7_nextToken_274 w853 (by decide) (by decide) (by decide) rfl rfl q287 ?_
              cases h
              exact v_vret G F dX7_nextToken_277 rfl (Nat.le_refl _)
            · rw [if_neg q285] at h
              refine v_iconst G (0 : Int32) dX7_nextToken_269 (by decide) ?_
              refine v_goto 274 G dX7_nextToken_270 (by decide) ?_
              obtain ⟨M288, q289, h⟩ := bi_ h
              refine v_putI (f := 14) G cl7 dX7_nextToken_274 w853 (by decide) (by decide) (by decide) rfl rfl q289 ?_
              cases h
              exact v_vret G F dX7_nextToken_277 rfl (Nat.le_refl _)
        · rw [if_neg q270] at h
          refine v_iconst G (1 : Int32) dX7_nextToken_137 (by decide) ?_
          refine v_goto 142 G dX7_nextToken_138 (by decide) ?_
          refine v_iadd G dX7_nextToken_142 ?_
          obtain ⟨M290, q291, h⟩ := bi_ h
          refine v_putI (f := 12) G cl7 dX7_nextToken_143 w851 (by decide) (by decide) (by decide) rfl rfl q291 ?_
          refine v_aload_n G dX7_nextToken_146 rfl ?_
          obtain ⟨v292, q293, h⟩ := bi_ h
          refine v_getI (f := 14) G cl7 dX7_nextToken_147 w853 (by decide) (by decide) q293 ?_
          refine v_iconst G (3 : Int32) dX7_nextToken_150 (by decide) ?_
          refine v_ic_ne 277 G dX7_nextToken_151 (by decide) (fun q294 => ?_) (fun q294 => ?_)
          · rw [if_neg q294] at h
            cases h
            exact v_vret G F dX7_nextToken_277 rfl (Nat.le_refl _)
          · rw [if_pos q294] at h
            refine v_aload_n G dX7_nextToken_154 rfl ?_
            refine v_dup G dX7_nextToken_155 rfl ?_
            obtain ⟨v295, q296, h⟩ := bi_ h
            refine v_getI (f := 15) G cl7 dX7_nextToken_156 w854 (by decide) (by decide) q296 ?_
            refine v_bipush G (48 : Int32) dX7_nextToken_159 (by decide) ?_
            refine v_isub G dX7_nextToken_161 ?_
            obtain ⟨M297, q298, h⟩ := bi_ h
            refine v_putI (f := 15) G cl7 dX7_nextToken_162 w854 (by decide) (by decide) (by decide) rfl rfl q298 ?_
            refine v_mask [true] rfl ?_
            refine e_X7_nextToken_L165 G (Nat.zero_le _) (Nat.zero_le _) _ (fun M299 h => ?_) FU _ h
            refine v_aload_n G dX7_nextToken_255 rfl ?_
            refine v_aload_n G dX7_nextToken_256 rfl ?_
            obtain ⟨v300, q301, h⟩ := bi_ h
            refine v_getI (f := 12) G cl7 dX7_nextToken_257 w851 (by decide) (by decide) q301 ?_
            refine v_aload_n G dX7_nextToken_260 rfl ?_
            obtain ⟨v302, q303, h⟩ := bi_ h
            refine v_getI (f := 13) G cl7 dX7_nextToken_261 w852 (by decide) (by decide) q303 ?_
            refine v_isub G dX7_nextToken_264 ?_
            refine v_iconst G (2 : Int32) dX7_nextToken_265 (by decide) ?_
            refine v_ic_le 273 G dX7_nextToken_266 (by decide) (fun q304 => ?_) (fun q304 => ?_)
            · rw [if_pos q304] at h
              refine v_iconst G (3 : Int32) dX7_nextToken_273 (by decide) ?_
              obtain ⟨M305, q306, h⟩ := bi_ h
              refine v_putI (f := 14) G cl7 dX7_nextToken_274 w853 (by decide) (by decide) (by decide) rfl rfl q306 ?_
              cases h
              exact v_vret G F dX7_nextToken_277 rfl (Nat.le_refl _)
            · rw [if_neg q304] at h
              refine v_iconst G (0 : Int32) dX7_nextToken_269 (by decide) ?_
              refine v_goto 274 G dX7_nextToken_270 (by decide) ?_
              obtain ⟨M307, q308, h⟩ := bi_ h
              refine v_putI (f := 14) G cl7 dX7_nextToken_274 w853 (by decide) (by decide) (by decide) rfl rfl q308 ?_
              cases h
              exact v_vret G F dX7_nextToken_277 rfl (Nat.le_refl _)
    · rw [if_pos q16] at h
      refine v_iconst G (1 : Int32) dX7_nextToken_49 (by decide) ?_
      refine v_goto 118 G dX7_nextToken_50 (by decide) ?_
      obtain ⟨M309, q310, h⟩ := bi_ h
      refine v_putI (f := 14) G cl7 dX7_nextToken_118 w853 (by decide) (by decide) (by decide) rfl rfl q310 ?_
      refine v_aload_n G dX7_nextToken_121 rfl ?_
      refine v_dup G dX7_nextToken_122 rfl ?_
      obtain ⟨v311, q312, h⟩ := bi_ h
      refine v_getI (f := 12) G cl7 dX7_nextToken_123 w851 (by decide) (by decide) q312 ?_
      refine v_aload_n G dX7_nextToken_126 rfl ?_
      obtain ⟨v313, q314, h⟩ := bi_ h
      refine v_getI (f := 12) G cl7 dX7_nextToken_127 w851 (by decide) (by decide) q314 ?_
      refine v_aload_n G dX7_nextToken_130 rfl ?_
      obtain ⟨v315, q316, h⟩ := bi_ h
      refine v_getI (f := 11) G cl7 dX7_nextToken_131 w850 (by decide) (by decide) q316 ?_
      refine v_ic_ge 141 G dX7_nextToken_134 (by decide) (fun q317 => ?_) (fun q317 => ?_)
      · rw [if_pos q317] at h
        refine v_iconst G (0 : Int32) dX7_nextToken_141 (by decide) ?_
        refine v_iadd G dX7_nextToken_142 ?_
        obtain ⟨M318, q319, h⟩ := bi_ h
        refine v_putI (f := 12) G cl7 dX7_nextToken_143 w851 (by decide) (by decide) (by decide) rfl rfl q319 ?_
        refine v_aload_n G dX7_nextToken_146 rfl ?_
        obtain ⟨v320, q321, h⟩ := bi_ h
        refine v_getI (f := 14) G cl7 dX7_nextToken_147 w853 (by decide) (by decide) q321 ?_
        refine v_iconst G (3 : Int32) dX7_nextToken_150 (by decide) ?_
        refine v_ic_ne 277 G dX7_nextToken_151 (by decide) (fun q322 => ?_) (fun q322 => ?_)
        · rw [if_neg q322] at h
          cases h
          exact v_vret G F dX7_nextToken_277 rfl (Nat.le_refl _)
        · rw [if_pos q322] at h
          refine v_aload_n G dX7_nextToken_154 rfl ?_
          refine v_dup G dX7_nextToken_155 rfl ?_
          obtain ⟨v323, q324, h⟩ := bi_ h
          refine v_getI (f := 15) G cl7 dX7_nextToken_156 w854 (by decide) (by decide) q324 ?_
          refine v_bipush G (48 : Int32) dX7_nextToken_159 (by decide) ?_
          refine v_isub G dX7_nextToken_161 ?_
          obtain ⟨M325, q326, h⟩ := bi_ h
          refine v_putI (f := 15) G cl7 dX7_nextToken_162 w854 (by decide) (by decide) (by decide) rfl rfl q326 ?_
          refine v_mask [true] rfl ?_
          refine e_X7_nextToken_L165 G (Nat.zero_le _) (Nat.zero_le _) _ (fun M327 h => ?_) FU _ h
          refine v_aload_n G dX7_nextToken_255 rfl ?_
          refine v_aload_n G dX7_nextToken_256 rfl ?_
          obtain ⟨v328, q329, h⟩ := bi_ h
          refine v_getI (f := 12) G cl7 dX7_nextToken_257 w851 (by decide) (by decide) q329 ?_
          refine v_aload_n G dX7_nextToken_260 rfl ?_
          obtain ⟨v330, q331, h⟩ := bi_ h
          refine v_getI (f := 13) G cl7 dX7_nextToken_261 w852 (by decide) (by decide) q331 ?_
          refine v_isub G dX7_nextToken_264 ?_
          refine v_iconst G (2 : Int32) dX7_nextToken_265 (by decide) ?_
          refine v_ic_le 273 G dX7_nextToken_266 (by decide) (fun q332 => ?_) (fun q332 => ?_)
          · rw [if_pos q332] at h
            refine v_iconst G (3 : Int32) dX7_nextToken_273 (by decide) ?_
            obtain ⟨M333, q334, h⟩ := bi_ h
            refine v_putI (f := 14) G cl7 dX7_nextToken_274 w853 (by decide) (by decide) (by decide) rfl rfl q334 ?_
            cases h
            exact v_vret G F dX7_nextToken_277 rfl (Nat.le_refl _)
          · rw [if_neg q332] at h
            refine v_iconst G (0 : Int32) dX7_nextToken_269 (by decide) ?_
            refine v_goto 274 G dX7_nextToken_270 (by decide) ?_
            obtain ⟨M335, q336, h⟩ := bi_ h
            refine v_putI (f := 14) G cl7 dX7_nextToken_274 w853 (by decide) (by decide) (by decide) rfl rfl q336 ?_
            cases h
            exact v_vret G F dX7_nextToken_277 rfl (Nat.le_refl _)
      · rw [if_neg q317] at h
        refine v_iconst G (1 : Int32) dX7_nextToken_137 (by decide) ?_
        refine v_goto 142 G dX7_nextToken_138 (by decide) ?_
        refine v_iadd G dX7_nextToken_142 ?_
        obtain ⟨M337, q338, h⟩ := bi_ h
        refine v_putI (f := 12) G cl7 dX7_nextToken_143 w851 (by decide) (by decide) (by decide) rfl rfl q338 ?_
        refine v_aload_n G dX7_nextToken_146 rfl ?_
        obtain ⟨v339, q340, h⟩ := bi_ h
        refine v_getI (f := 14) G cl7 dX7_nextToken_147 w853 (by decide) (by decide) q340 ?_
        refine v_iconst G (3 : Int32) dX7_nextToken_150 (by decide) ?_
        refine v_ic_ne 277 G dX7_nextToken_151 (by decide) (fun q341 => ?_) (fun q341 => ?_)
        · rw [if_neg q341] at h
          cases h
          exact v_vret G F dX7_nextToken_277 rfl (Nat.le_refl _)
        · rw [if_pos q341] at h
          refine v_aload_n G dX7_nextToken_154 rfl ?_
          refine v_dup G dX7_nextToken_155 rfl ?_
          obtain ⟨v342, q343, h⟩ := bi_ h
          refine v_getI (f := 15) G cl7 dX7_nextToken_156 w854 (by decide) (by decide) q343 ?_
          refine v_bipush G (48 : Int32) dX7_nextToken_159 (by decide) ?_
          refine v_isub G dX7_nextToken_161 ?_
          obtain ⟨M344, q345, h⟩ := bi_ h
          refine v_putI (f := 15) G cl7 dX7_nextToken_162 w854 (by decide) (by decide) (by decide) rfl rfl q345 ?_
          refine v_mask [true] rfl ?_
          refine e_X7_nextToken_L165 G (Nat.zero_le _) (Nat.zero_le _) _ (fun M346 h => ?_) FU _ h
          refine v_aload_n G dX7_nextToken_255 rfl ?_
          refine v_aload_n G dX7_nextToken_256 rfl ?_
          obtain ⟨v347, q348, h⟩ := bi_ h
          refine v_getI (f := 12) G cl7 dX7_nextToken_257 w851 (by decide) (by decide) q348 ?_
          refine v_aload_n G dX7_nextToken_260 rfl ?_
          obtain ⟨v349, q350, h⟩ := bi_ h
          refine v_getI (f := 13) G cl7 dX7_nextToken_261 w852 (by decide) (by decide) q350 ?_
          refine v_isub G dX7_nextToken_264 ?_
          refine v_iconst G (2 : Int32) dX7_nextToken_265 (by decide) ?_
          refine v_ic_le 273 G dX7_nextToken_266 (by decide) (fun q351 => ?_) (fun q351 => ?_)
          · rw [if_pos q351] at h
            refine v_iconst G (3 : Int32) dX7_nextToken_273 (by decide) ?_
            obtain ⟨M352, q353, h⟩ := bi_ h
            refine v_putI (f := 14) G cl7 dX7_nextToken_274 w853 (by decide) (by decide) (by decide) rfl rfl q353 ?_
            cases h
            exact v_vret G F dX7_nextToken_277 rfl (Nat.le_refl _)
          · rw [if_neg q351] at h
            refine v_iconst G (0 : Int32) dX7_nextToken_269 (by decide) ?_
            refine v_goto 274 G dX7_nextToken_270 (by decide) ?_
            obtain ⟨M354, q355, h⟩ := bi_ h
            refine v_putI (f := 14) G cl7 dX7_nextToken_274 w853 (by decide) (by decide) (by decide) rfl rfl q355 ?_
            cases h
            exact v_vret G F dX7_nextToken_277 rfl (Nat.le_refl _)
  · rw [if_neg q9] at h
    refine v_aload_n G dX7_nextToken_20 rfl ?_
    obtain ⟨b356, q357, h⟩ := bi_ h
    refine v_getR (f := 10) G cl7 dX7_nextToken_21 w849 (by decide) (by decide) q357 ?_
    refine v_aload_n G dX7_nextToken_24 rfl ?_
    obtain ⟨v358, q359, h⟩ := bi_ h
    refine v_getI (f := 12) G cl7 dX7_nextToken_25 w851 (by decide) (by decide) q359 ?_
    obtain ⟨v361, q360, h⟩ := bi_ h
    refine v_iald G dX7_nextToken_28 q360 ?_
    refine v_goto 34 G dX7_nextToken_29 (by decide) ?_
    obtain ⟨M362, q363, h⟩ := bi_ h
    refine v_putI (f := 15) G cl7 dX7_nextToken_34 w854 (by decide) (by decide) (by decide) rfl rfl q363 ?_
    refine v_aload_n G dX7_nextToken_37 rfl ?_
    refine v_aload_n G dX7_nextToken_38 rfl ?_
    obtain ⟨v364, q365, h⟩ := bi_ h
    refine v_getI (f := 12) G cl7 dX7_nextToken_39 w851 (by decide) (by decide) q365 ?_
    refine v_aload_n G dX7_nextToken_42 rfl ?_
    obtain ⟨v366, q367, h⟩ := bi_ h
    refine v_getI (f := 11) G cl7 dX7_nextToken_43 w850 (by decide) (by decide) q367 ?_
    refine v_ic_ne 53 G dX7_nextToken_46 (by decide) (fun q368 => ?_) (fun q368 => ?_)
    · rw [if_neg q368] at h
      refine v_aload_n G dX7_nextToken_53 rfl ?_
      obtain ⟨v369, q370, h⟩ := bi_ h
      refine v_getI (f := 15) G cl7 dX7_nextToken_54 w854 (by decide) (by decide) q370 ?_
      refine v_i2l G dX7_nextToken_57 ?_
      refine v_ldc2 G (97 : Int64) dX7_nextToken_58 w972 ?_
      refine v_ldc2 G (122 : Int64) dX7_nextToken_61 w973 ?_
      obtain ⟨v372, q371, h⟩ := bi_ h
      refine v_callS0 (e_X7_in q371) G my_X7_in w928 w927 dX7_nextToken_64 rfl (Nat.le_of_ble_eq_true rfl) rfl (Nat.le_of_ble_eq_true rfl) (Nat.zero_le _) (Nat.zero_le _) ?_
      refine v_if_eq 74 G dX7_nextToken_67 (by decide) (fun q373 => ?_) (fun q373 => ?_)
      · rw [if_pos q373] at h
        refine v_aload_n G dX7_nextToken_74 rfl ?_
        obtain ⟨v374, q375, h⟩ := bi_ h
        refine v_getI (f := 15) G cl7 dX7_nextToken_75 w854 (by decide) (by decide) q375 ?_
        refine v_i2l G dX7_nextToken_78 ?_
        refine v_ldc2 G (48 : Int64) dX7_nextToken_79 w974 ?_
        refine v_ldc2 G (57 : Int64) dX7_nextToken_82 w975 ?_
        obtain ⟨v377, q376, h⟩ := bi_ h
        refine v_callS0 (e_X7_in q376) G my_X7_in w928 w927 dX7_nextToken_85 rfl (Nat.le_of_ble_eq_true rfl) rfl (Nat.le_of_ble_eq_true rfl) (Nat.zero_le _) (Nat.zero_le _) ?_
        refine v_if_eq 95 G dX7_nextToken_88 (by decide) (fun q378 => ?_) (fun q378 => ?_)
        · rw [if_pos q378] at h
          refine v_aload_n G dX7_nextToken_95 rfl ?_
          obtain ⟨v379, q380, h⟩ := bi_ h
          refine v_getI (f := 15) G cl7 dX7_nextToken_96 w854 (by decide) (by decide) q380 ?_
          refine v_bipush G (44 : Int32) dX7_nextToken_99 (by decide) ?_
          refine v_ic_eq 113 G dX7_nextToken_101 (by decide) (fun q381 => ?_) (fun q381 => ?_)
          · rw [if_pos q381] at h
            refine v_iconst G (4 : Int32) dX7_nextToken_113 (by decide) ?_
            refine v_goto 118 G dX7_nextToken_114 (by decide) ?_
            obtain ⟨M382, q383, h⟩ := bi_ h
            refine v_putI (f := 14) G cl7 dX7_nextToken_118 w853 (by decide) (by decide) (by decide) rfl rfl q383 ?_
            refine v_aload_n G dX7_nextToken_121 rfl ?_
            refine v_dup G dX7_nextToken_122 rfl ?_
            obtain ⟨v384, q385, h⟩ := bi_ h
            refine v_getI (f := 12) G cl7 dX7_nextToken_123 w851 (by decide) (by decide) q385 ?_
            refine v_aload_n G dX7_nextToken_126 rfl ?_
            obtain ⟨v386, q387, h⟩ := bi_ h
            refine v_getI (f := 12) G cl7 dX7_nextToken_127 w851 (by decide) (by decide) q387 ?_
            refine v_aload_n G dX7_nextToken_130 rfl ?_
            obtain ⟨v388, q389, h⟩ := bi_ h
            refine v_getI (f := 11) G cl7 dX7_nextToken_131 w850 (by decide) (by decide) q389 ?_
            refine v_ic_ge 141 G dX7_nextToken_134 (by decide) (fun q390 => ?_) (fun q390 => ?_)
            · rw [if_pos q390] at h
              refine v_iconst G (0 : Int32) dX7_nextToken_141 (by decide) ?_
              refine v_iadd G dX7_nextToken_142 ?_
              obtain ⟨M391, q392, h⟩ := bi_ h
              refine v_putI (f := 12) G cl7 dX7_nextToken_143 w851 (by decide) (by decide) (by decide) rfl rfl q392 ?_
              refine v_aload_n G dX7_nextToken_146 rfl ?_
              obtain ⟨v393, q394, h⟩ := bi_ h
              refine v_getI (f := 14) G cl7 dX7_nextToken_147 w853 (by decide) (by decide) q394 ?_
              refine v_iconst G (3 : Int32) dX7_nextToken_150 (by decide) ?_
              refine v_ic_ne 277 G dX7_nextToken_151 (by decide) (fun q395 => ?_) (fun q395 => ?_)
              · rw [if_neg q395] at h
                cases h
                exact v_vret G F dX7_nextToken_277 rfl (Nat.le_refl _)
              · rw [if_pos q395] at h
                refine v_aload_n G dX7_nextToken_154 rfl ?_
                refine v_dup G dX7_nextToken_155 rfl ?_
                obtain ⟨v396, q397, h⟩ := bi_ h
                refine v_getI (f := 15) G cl7 dX7_nextToken_156 w854 (by decide) (by decide) q397 ?_
                refine v_bipush G (48 : Int32) dX7_nextToken_159 (by decide) ?_
                refine v_isub G dX7_nextToken_161 ?_
                obtain ⟨M398, q399, h⟩ := bi_ h
                refine v_putI (f := 15) G cl7 dX7_nextToken_162 w854 (by decide) (by decide) (by decide) rfl rfl q399 ?_
                refine v_mask [true] rfl ?_
                refine e_X7_nextToken_L165 G (Nat.zero_le _) (Nat.zero_le _) _ (fun M400 h => ?_) FU _ h
                refine v_aload_n G dX7_nextToken_255 rfl ?_
                refine v_aload_n G dX7_nextToken_256 rfl ?_
                obtain ⟨v401, q402, h⟩ := bi_ h
                refine v_getI (f := 12) G cl7 dX7_nextToken_257 w851 (by decide) (by decide) q402 ?_
                refine v_aload_n G dX7_nextToken_260 rfl ?_
                obtain ⟨v403, q404, h⟩ := bi_ h
                refine v_getI (f := 13) G cl7 dX7_nextToken_261 w852 (by decide) (by decide) q404 ?_
                refine v_isub G dX7_nextToken_264 ?_
                refine v_iconst G (2 : Int32) dX7_nextToken_265 (by decide) ?_
                refine v_ic_le 273 G dX7_nextToken_266 (by decide) (fun q405 => ?_) (fun q405 => ?_)
                · rw [if_pos q405] at h
                  refine v_iconst G (3 : Int32) dX7_nextToken_273 (by decide) ?_
                  obtain ⟨M406, q407, h⟩ := bi_ h
                  refine v_putI (f := 14) G cl7 dX7_nextToken_274 w853 (by decide) (by decide) (by decide) rfl rfl q407 ?_
                  cases h
                  exact v_vret G F dX7_nextToken_277 rfl (Nat.le_refl _)
                · rw [if_neg q405] at h
                  refine v_iconst G (0 : Int32) dX7_nextToken_269 (by decide) ?_
                  refine v_goto 274 G dX7_nextToken_270 (by decide) ?_
                  obtain ⟨M408, q409, h⟩ := bi_ h
                  refine v_putI (f := 14) G cl7 dX7_nextToken_274 w853 (by decide) (by decide) (by decide) rfl rfl q409 ?_
                  cases h
                  exact v_vret G F dX7_nextToken_277 rfl (Nat.le_refl _)
            · rw [if_neg q390] at h
              refine v_iconst G (1 : Int32) dX7_nextToken_137 (by decide) ?_
              refine v_goto 142 G dX7_nextToken_138 (by decide) ?_
              refine v_iadd G dX7_nextToken_142 ?_
              obtain ⟨M410, q411, h⟩ := bi_ h
              refine v_putI (f := 12) G cl7 dX7_nextToken_143 w851 (by decide) (by decide) (by decide) rfl rfl q411 ?_
              refine v_aload_n G dX7_nextToken_146 rfl ?_
              obtain ⟨v412, q413, h⟩ := bi_ h
              refine v_getI (f := 14) G cl7 dX7_nextToken_147 w853 (by decide) (by decide) q413 ?_
              refine v_iconst G (3 : Int32) dX7_nextToken_150 (by decide) ?_
              refine v_ic_ne 277 G dX7_nextToken_151 (by decide) (fun q414 => ?_) (fun q414 => ?_)
              · rw [if_neg q414] at h
                cases h
                exact v_vret G F dX7_nextToken_277 rfl (Nat.le_refl _)
              · rw [if_pos q414] at h
                refine v_aload_n G dX7_nextToken_154 rfl ?_
                refine v_dup G dX7_nextToken_155 rfl ?_
                obtain ⟨v415, q416, h⟩ := bi_ h
                refine v_getI (f := 15) G cl7 dX7_nextToken_156 w854 (by decide) (by decide) q416 ?_
                refine v_bipush G (48 : Int32) dX7_nextToken_159 (by decide) ?_
                refine v_isub G dX7_nextToken_161 ?_
                obtain ⟨M417, q418, h⟩ := bi_ h
                refine v_putI (f := 15) G cl7 dX7_nextToken_162 w854 (by decide) (by decide) (by decide) rfl rfl q418 ?_
                refine v_mask [true] rfl ?_
                refine e_X7_nextToken_L165 G (Nat.zero_le _) (Nat.zero_le _) _ (fun M419 h => ?_) FU _ h
                refine v_aload_n G dX7_nextToken_255 rfl ?_
                refine v_aload_n G dX7_nextToken_256 rfl ?_
                obtain ⟨v420, q421, h⟩ := bi_ h
                refine v_getI (f := 12) G cl7 dX7_nextToken_257 w851 (by decide) (by decide) q421 ?_
                refine v_aload_n G dX7_nextToken_260 rfl ?_
                obtain ⟨v422, q423, h⟩ := bi_ h
                refine v_getI (f := 13) G cl7 dX7_nextToken_261 w852 (by decide) (by decide) q423 ?_
                refine v_isub G dX7_nextToken_264 ?_
                refine v_iconst G (2 : Int32) dX7_nextToken_265 (by decide) ?_
                refine v_ic_le 273 G dX7_nextToken_266 (by decide) (fun q424 => ?_) (fun q424 => ?_)
                · rw [if_pos q424] at h
                  refine v_iconst G (3 : Int32) dX7_nextToken_273 (by decide) ?_
                  obtain ⟨M425, q426, h⟩ := bi_ h
                  refine v_putI (f := 14) G cl7 dX7_nextToken_274 w853 (by decide) (by decide) (by decide) rfl rfl q426 ?_
                  cases h
                  exact v_vret G F dX7_nextToken_277 rfl (Nat.le_refl _)
                · rw [if_neg q424] at h
                  refine v_iconst G (0 : Int32) dX7_nextToken_269 (by decide) ?_
                  refine v_goto 274 G dX7_nextToken_270 (by decide) ?_
                  obtain ⟨M427, q428, h⟩ := bi_ h
                  refine v_putI (f := 14) G cl7 dX7_nextToken_274 w853 (by decide) (by decide) (by decide) rfl rfl q428 ?_
                  cases h
                  exact v_vret G F dX7_nextToken_277 rfl (Nat.le_refl _)
          · rw [if_neg q381] at h
            refine v_aload_n G dX7_nextToken_104 rfl ?_
            obtain ⟨v429, q430, h⟩ := bi_ h
            refine v_getI (f := 15) G cl7 dX7_nextToken_105 w854 (by decide) (by decide) q430 ?_
            refine v_bipush G (59 : Int32) dX7_nextToken_108 (by decide) ?_
            refine v_ic_ne 117 G dX7_nextToken_110 (by decide) (fun q431 => ?_) (fun q431 => ?_)
            · rw [if_neg q431] at h
              refine v_iconst G (0 : Int32) dX7_nextToken_117 (by decide) ?_
              obtain ⟨M432, q433, h⟩ := bi_ h
              refine v_putI (f := 14) G cl7 dX7_nextToken_118 w853 (by decide) (by decide) (by decide) rfl rfl q433 ?_
              refine v_aload_n G dX7_nextToken_121 rfl ?_
              refine v_dup G dX7_nextToken_122 rfl ?_
              obtain ⟨v434, q435, h⟩ := bi_ h
              refine v_getI (f := 12) G cl7 dX7_nextToken_123 w851 (by decide) (by decide) q435 ?_
              refine v_aload_n G dX7_nextToken_126 rfl ?_
              obtain ⟨v436, q437, h⟩ := bi_ h
              refine v_getI (f := 12) G cl7 dX7_nextToken_127 w851 (by decide) (by decide) q437 ?_
              refine v_aload_n G dX7_nextToken_130 rfl ?_
              obtain ⟨v438, q439, h⟩ := bi_ h
              refine v_getI (f := 11) G cl7 dX7_nextToken_131 w850 (by decide) (by decide) q439 ?_
              refine v_ic_ge 141 G dX7_nextToken_134 (by decide) (fun q440 => ?_) (fun q440 => ?_)
              · rw [if_pos q440] at h
                refine v_iconst G (0 : Int32) dX7_nextToken_141 (by decide) ?_
                refine v_iadd G dX7_nextToken_142 ?_
                obtain ⟨M441, q442, h⟩ := bi_ h
                refine v_putI (f := 12) G cl7 dX7_nextToken_143 w851 (by decide) (by decide) (by decide) rfl rfl q442 ?_
                refine v_aload_n G dX7_nextToken_146 rfl ?_
                obtain ⟨v443, q444, h⟩ := bi_ h
                refine v_getI (f := 14) G cl7 dX7_nextToken_147 w853 (by decide) (by decide) q444 ?_
                refine v_iconst G (3 : Int32) dX7_nextToken_150 (by decide) ?_
                refine v_ic_ne 277 G dX7_nextToken_151 (by decide) (fun q445 => ?_) (fun q445 => ?_)
                · rw [if_neg q445] at h
                  cases h
                  exact v_vret G F dX7_nextToken_277 rfl (Nat.le_refl _)
                · rw [if_pos q445] at h
                  refine v_aload_n G dX7_nextToken_154 rfl ?_
                  refine v_dup G dX7_nextToken_155 rfl ?_
                  obtain ⟨v446, q447, h⟩ := bi_ h
                  refine v_getI (f := 15) G cl7 dX7_nextToken_156 w854 (by decide) (by decide) q447 ?_
                  refine v_bipush G (48 : Int32) dX7_nextToken_159 (by decide) ?_
                  refine v_isub G dX7_nextToken_161 ?_
                  obtain ⟨M448, q449, h⟩ := bi_ h
                  refine v_putI (f := 15) G cl7 dX7_nextToken_162 w854 (by decide) (by decide) (by decide) rfl rfl q449 ?_
                  refine v_mask [true] rfl ?_
                  refine e_X7_nextToken_L165 G (Nat.zero_le _) (Nat.zero_le _) _ (fun M450 h => ?_) FU _ h
                  refine v_aload_n G dX7_nextToken_255 rfl ?_
                  refine v_aload_n G dX7_nextToken_256 rfl ?_
                  obtain ⟨v451, q452, h⟩ := bi_ h
                  refine v_getI (f := 12) G cl7 dX7_nextToken_257 w851 (by decide) (by decide) q452 ?_
                  refine v_aload_n G dX7_nextToken_260 rfl ?_
                  obtain ⟨v453, q454, h⟩ := bi_ h
                  refine v_getI (f := 13) G cl7 dX7_nextToken_261 w852 (by decide) (by decide) q454 ?_
                  refine v_isub G dX7_nextToken_264 ?_
                  refine v_iconst G (2 : Int32) dX7_nextToken_265 (by decide) ?_
                  refine v_ic_le 273 G dX7_nextToken_266 (by decide) (fun q455 => ?_) (fun q455 => ?_)
                  · rw [if_pos q455] at h
                    refine v_iconst G (3 : Int32) dX7_nextToken_273 (by decide) ?_
                    obtain ⟨M456, q457, h⟩ := bi_ h
                    refine v_putI (f := 14) G cl7 dX7_nextToken_274 w853 (by decide) (by decide) (by decide) rfl rfl q457 ?_
                    cases h
                    exact v_vret G F dX7_nextToken_277 rfl (Nat.le_refl _)
                  · rw [if_neg q455] at h
                    refine v_iconst G (0 : Int32) dX7_nextToken_269 (by decide) ?_
                    refine v_goto 274 G dX7_nextToken_270 (by decide) ?_
                    obtain ⟨M458, q459, h⟩ := bi_ h
                    refine v_putI (f := 14) G cl7 dX7_nextToken_274 w853 (by decide) (by decide) (by decide) rfl rfl q459 ?_
                    cases h
                    exact v_vret G F dX7_nextToken_277 rfl (Nat.le_refl _)
              · rw [if_neg q440] at h
                refine v_iconst G (1 : Int32) dX7_nextToken_137 (by decide) ?_
                refine v_goto 142 G dX7_nextToken_138 (by decide) ?_
                refine v_iadd G dX7_nextToken_142 ?_
                obtain ⟨M460, q461, h⟩ := bi_ h
                refine v_putI (f := 12) G cl7 dX7_nextToken_143 w851 (by decide) (by decide) (by decide) rfl rfl q461 ?_
                refine v_aload_n G dX7_nextToken_146 rfl ?_
                obtain ⟨v462, q463, h⟩ := bi_ h
                refine v_getI (f := 14) G cl7 dX7_nextToken_147 w853 (by decide) (by decide) q463 ?_
                refine v_iconst G (3 : Int32) dX7_nextToken_150 (by decide) ?_
                refine v_ic_ne 277 G dX7_nextToken_151 (by decide) (fun q464 => ?_) (fun q464 => ?_)
                · rw [if_neg q464] at h
                  cases h
                  exact v_vret G F dX7_nextToken_277 rfl (Nat.le_refl _)
                · rw [if_pos q464] at h
                  refine v_aload_n G dX7_nextToken_154 rfl ?_
                  refine v_dup G dX7_nextToken_155 rfl ?_
                  obtain ⟨v465, q466, h⟩ := bi_ h
                  refine v_getI (f := 15) G cl7 dX7_nextToken_156 w854 (by decide) (by decide) q466 ?_
                  refine v_bipush G (48 : Int32) dX7_nextToken_159 (by decide) ?_
                  refine v_isub G dX7_nextToken_161 ?_
                  obtain ⟨M467, q468, h⟩ := bi_ h
                  refine v_putI (f := 15) G cl7 dX7_nextToken_162 w854 (by decide) (by decide) (by decide) rfl rfl q468 ?_
                  refine v_mask [true] rfl ?_
                  refine e_X7_nextToken_L165 G (Nat.zero_le _) (Nat.zero_le _) _ (fun M469 h => ?_) FU _ h
                  refine v_aload_n G dX7_nextToken_255 rfl ?_
                  refine v_aload_n G dX7_nextToken_256 rfl ?_
                  obtain ⟨v470, q471, h⟩ := bi_ h
                  refine v_getI (f := 12) G cl7 dX7_nextToken_257 w851 (by decide) (by decide) q471 ?_
                  refine v_aload_n G dX7_nextToken_260 rfl ?_
                  obtain ⟨v472, q473, h⟩ := bi_ h
                  refine v_getI (f := 13) G cl7 dX7_nextToken_261 w852 (by decide) (by decide) q473 ?_
                  refine v_isub G dX7_nextToken_264 ?_
                  refine v_iconst G (2 : Int32) dX7_nextToken_265 (by decide) ?_
                  refine v_ic_le 273 G dX7_nextToken_266 (by decide) (fun q474 => ?_) (fun q474 => ?_)
                  · rw [if_pos q474] at h
                    refine v_iconst G (3 : Int32) dX7_nextToken_273 (by decide) ?_
                    obtain ⟨M475, q476, h⟩ := bi_ h
                    refine v_putI (f := 14) G cl7 dX7_nextToken_274 w853 (by decide) (by decide) (by decide) rfl rfl q476 ?_
                    cases h
                    exact v_vret G F dX7_nextToken_277 rfl (Nat.le_refl _)
                  · rw [if_neg q474] at h
                    refine v_iconst G (0 : Int32) dX7_nextToken_269 (by decide) ?_
                    refine v_goto 274 G dX7_nextToken_270 (by decide) ?_
                    obtain ⟨M477, q478, h⟩ := bi_ h
                    refine v_putI (f := 14) G cl7 dX7_nextToken_274 w853 (by decide) (by decide) (by decide) rfl rfl q478 ?_
                    cases h
                    exact v_vret G F dX7_nextToken_277 rfl (Nat.le_refl _)
            · rw [if_pos q431] at h
              refine v_iconst G (4 : Int32) dX7_nextToken_113 (by decide) ?_
              refine v_goto 118 G dX7_nextToken_114 (by decide) ?_
              obtain ⟨M479, q480, h⟩ := bi_ h
              refine v_putI (f := 14) G cl7 dX7_nextToken_118 w853 (by decide) (by decide) (by decide) rfl rfl q480 ?_
              refine v_aload_n G dX7_nextToken_121 rfl ?_
              refine v_dup G dX7_nextToken_122 rfl ?_
              obtain ⟨v481, q482, h⟩ := bi_ h
              refine v_getI (f := 12) G cl7 dX7_nextToken_123 w851 (by decide) (by decide) q482 ?_
              refine v_aload_n G dX7_nextToken_126 rfl ?_
              obtain ⟨v483, q484, h⟩ := bi_ h
              refine v_getI (f := 12) G cl7 dX7_nextToken_127 w851 (by decide) (by decide) q484 ?_
              refine v_aload_n G dX7_nextToken_130 rfl ?_
              obtain ⟨v485, q486, h⟩ := bi_ h
              refine v_getI (f := 11) G cl7 dX7_nextToken_131 w850 (by decide) (by decide) q486 ?_
              refine v_ic_ge 141 G dX7_nextToken_134 (by decide) (fun q487 => ?_) (fun q487 => ?_)
              · rw [if_pos q487] at h
                refine v_iconst G (0 : Int32) dX7_nextToken_141 (by decide) ?_
                refine v_iadd G dX7_nextToken_142 ?_
                obtain ⟨M488, q489, h⟩ := bi_ h
                refine v_putI (f := 12) G cl7 dX7_nextToken_143 w851 (by decide) (by decide) (by decide) rfl rfl q489 ?_
                refine v_aload_n G dX7_nextToken_146 rfl ?_
                obtain ⟨v490, q491, h⟩ := bi_ h
                refine v_getI (f := 14) G cl7 dX7_nextToken_147 w853 (by decide) (by decide) q491 ?_
                refine v_iconst G (3 : Int32) dX7_nextToken_150 (by decide) ?_
                refine v_ic_ne 277 G dX7_nextToken_151 (by decide) (fun q492 => ?_) (fun q492 => ?_)
                · rw [if_neg q492] at h
                  cases h
                  exact v_vret G F dX7_nextToken_277 rfl (Nat.le_refl _)
                · rw [if_pos q492] at h
                  refine v_aload_n G dX7_nextToken_154 rfl ?_
                  refine v_dup G dX7_nextToken_155 rfl ?_
                  obtain ⟨v493, q494, h⟩ := bi_ h
                  refine v_getI (f := 15) G cl7 dX7_nextToken_156 w854 (by decide) (by decide) q494 ?_
                  refine v_bipush G (48 : Int32) dX7_nextToken_159 (by decide) ?_
                  refine v_isub G dX7_nextToken_161 ?_
                  obtain ⟨M495, q496, h⟩ := bi_ h
                  refine v_putI (f := 15) G cl7 dX7_nextToken_162 w854 (by decide) (by decide) (by decide) rfl rfl q496 ?_
                  refine v_mask [true] rfl ?_
                  refine e_X7_nextToken_L165 G (Nat.zero_le _) (Nat.zero_le _) _ (fun M497 h => ?_) FU _ h
                  refine v_aload_n G dX7_nextToken_255 rfl ?_
                  refine v_aload_n G dX7_nextToken_256 rfl ?_
                  obtain ⟨v498, q499, h⟩ := bi_ h
                  refine v_getI (f := 12) G cl7 dX7_nextToken_257 w851 (by decide) (by decide) q499 ?_
                  refine v_aload_n G dX7_nextToken_260 rfl ?_
                  obtain ⟨v500, q501, h⟩ := bi_ h
                  refine v_getI (f := 13) G cl7 dX7_nextToken_261 w852 (by decide) (by decide) q501 ?_
                  refine v_isub G dX7_nextToken_264 ?_
                  refine v_iconst G (2 : Int32) dX7_nextToken_265 (by decide) ?_
                  refine v_ic_le 273 G dX7_nextToken_266 (by decide) (fun q502 => ?_) (fun q502 => ?_)
                  · rw [if_pos q502] at h
                    refine v_iconst G (3 : Int32) dX7_nextToken_273 (by decide) ?_
                    obtain ⟨M503, q504, h⟩ := bi_ h
                    refine v_putI (f := 14) G cl7 dX7_nextToken_274 w853 (by decide) (by decide) (by decide) rfl rfl q504 ?_
                    cases h
                    exact v_vret G F dX7_nextToken_277 rfl (Nat.le_refl _)
                  · rw [if_neg q502] at h
                    refine v_iconst G (0 : Int32) dX7_nextToken_269 (by decide) ?_
                    refine v_goto 274 G dX7_nextToken_270 (by decide) ?_
                    obtain ⟨M505, q506, h⟩ := bi_ h
                    refine v_putI (f := 14) G cl7 dX7_nextToken_274 w853 (by decide) (by decide) (by decide) rfl rfl q506 ?_
                    cases h
                    exact v_vret G F dX7_nextToken_277 rfl (Nat.le_refl _)
              · rw [if_neg q487] at h
                refine v_iconst G (1 : Int32) dX7_nextToken_137 (by decide) ?_
                refine v_goto 142 G dX7_nextToken_138 (by decide) ?_
                refine v_iadd G dX7_nextToken_142 ?_
                obtain ⟨M507, q508, h⟩ := bi_ h
                refine v_putI (f := 12) G cl7 dX7_nextToken_143 w851 (by decide) (by decide) (by decide) rfl rfl q508 ?_
                refine v_aload_n G dX7_nextToken_146 rfl ?_
                obtain ⟨v509, q510, h⟩ := bi_ h
                refine v_getI (f := 14) G cl7 dX7_nextToken_147 w853 (by decide) (by decide) q510 ?_
                refine v_iconst G (3 : Int32) dX7_nextToken_150 (by decide) ?_
                refine v_ic_ne 277 G dX7_nextToken_151 (by decide) (fun q511 => ?_) (fun q511 => ?_)
                · rw [if_neg q511] at h
                  cases h
                  exact v_vret G F dX7_nextToken_277 rfl (Nat.le_refl _)
                · rw [if_pos q511] at h
                  refine v_aload_n G dX7_nextToken_154 rfl ?_
                  refine v_dup G dX7_nextToken_155 rfl ?_
                  obtain ⟨v512, q513, h⟩ := bi_ h
                  refine v_getI (f := 15) G cl7 dX7_nextToken_156 w854 (by decide) (by decide) q513 ?_
                  refine v_bipush G (48 : Int32) dX7_nextToken_159 (by decide) ?_
                  refine v_isub G dX7_nextToken_161 ?_
                  obtain ⟨M514, q515, h⟩ := bi_ h
                  refine v_putI (f := 15) G cl7 dX7_nextToken_162 w854 (by decide) (by decide) (by decide) rfl rfl q515 ?_
                  refine v_mask [true] rfl ?_
                  refine e_X7_nextToken_L165 G (Nat.zero_le _) (Nat.zero_le _) _ (fun M516 h => ?_) FU _ h
                  refine v_aload_n G dX7_nextToken_255 rfl ?_
                  refine v_aload_n G dX7_nextToken_256 rfl ?_
                  obtain ⟨v517, q518, h⟩ := bi_ h
                  refine v_getI (f := 12) G cl7 dX7_nextToken_257 w851 (by decide) (by decide) q518 ?_
                  refine v_aload_n G dX7_nextToken_260 rfl ?_
                  obtain ⟨v519, q520, h⟩ := bi_ h
                  refine v_getI (f := 13) G cl7 dX7_nextToken_261 w852 (by decide) (by decide) q520 ?_
                  refine v_isub G dX7_nextToken_264 ?_
                  refine v_iconst G (2 : Int32) dX7_nextToken_265 (by decide) ?_
                  refine v_ic_le 273 G dX7_nextToken_266 (by decide) (fun q521 => ?_) (fun q521 => ?_)
                  · rw [if_pos q521] at h
                    refine v_iconst G (3 : Int32) dX7_nextToken_273 (by decide) ?_
                    obtain ⟨M522, q523, h⟩ := bi_ h
                    refine v_putI (f := 14) G cl7 dX7_nextToken_274 w853 (by decide) (by decide) (by decide) rfl rfl q523 ?_
                    cases h
                    exact v_vret G F dX7_nextToken_277 rfl (Nat.le_refl _)
                  · rw [if_neg q521] at h
                    refine v_iconst G (0 : Int32) dX7_nextToken_269 (by decide) ?_
                    refine v_goto 274 G dX7_nextToken_270 (by decide) ?_
                    obtain ⟨M524, q525, h⟩ := bi_ h
                    refine v_putI (f := 14) G cl7 dX7_nextToken_274 w853 (by decide) (by decide) (by decide) rfl rfl q525 ?_
                    cases h
                    exact v_vret G F dX7_nextToken_277 rfl (Nat.le_refl _)
        · rw [if_neg q378] at h
          refine v_iconst G (3 : Int32) dX7_nextToken_91 (by decide) ?_
          refine v_goto 118 G dX7_nextToken_92 (by decide) ?_
          obtain ⟨M526, q527, h⟩ := bi_ h
          refine v_putI (f := 14) G cl7 dX7_nextToken_118 w853 (by decide) (by decide) (by decide) rfl rfl q527 ?_
          refine v_aload_n G dX7_nextToken_121 rfl ?_
          refine v_dup G dX7_nextToken_122 rfl ?_
          obtain ⟨v528, q529, h⟩ := bi_ h
          refine v_getI (f := 12) G cl7 dX7_nextToken_123 w851 (by decide) (by decide) q529 ?_
          refine v_aload_n G dX7_nextToken_126 rfl ?_
          obtain ⟨v530, q531, h⟩ := bi_ h
          refine v_getI (f := 12) G cl7 dX7_nextToken_127 w851 (by decide) (by decide) q531 ?_
          refine v_aload_n G dX7_nextToken_130 rfl ?_
          obtain ⟨v532, q533, h⟩ := bi_ h
          refine v_getI (f := 11) G cl7 dX7_nextToken_131 w850 (by decide) (by decide) q533 ?_
          refine v_ic_ge 141 G dX7_nextToken_134 (by decide) (fun q534 => ?_) (fun q534 => ?_)
          · rw [if_pos q534] at h
            refine v_iconst G (0 : Int32) dX7_nextToken_141 (by decide) ?_
            refine v_iadd G dX7_nextToken_142 ?_
            obtain ⟨M535, q536, h⟩ := bi_ h
            refine v_putI (f := 12) G cl7 dX7_nextToken_143 w851 (by decide) (by decide) (by decide) rfl rfl q536 ?_
            refine v_aload_n G dX7_nextToken_146 rfl ?_
            obtain ⟨v537, q538, h⟩ := bi_ h
            refine v_getI (f := 14) G cl7 dX7_nextToken_147 w853 (by decide) (by decide) q538 ?_
            refine v_iconst G (3 : Int32) dX7_nextToken_150 (by decide) ?_
            refine v_ic_ne 277 G dX7_nextToken_151 (by decide) (fun q539 => ?_) (fun q539 => ?_)
            · rw [if_neg q539] at h
              cases h
              exact v_vret G F dX7_nextToken_277 rfl (Nat.le_refl _)
            · rw [if_pos q539] at h
              refine v_aload_n G dX7_nextToken_154 rfl ?_
              refine v_dup G dX7_nextToken_155 rfl ?_
              obtain ⟨v540, q541, h⟩ := bi_ h
              refine v_getI (f := 15) G cl7 dX7_nextToken_156 w854 (by decide) (by decide) q541 ?_
              refine v_bipush G (48 : Int32) dX7_nextToken_159 (by decide) ?_
              refine v_isub G dX7_nextToken_161 ?_
              obtain ⟨M542, q543, h⟩ := bi_ h
              refine v_putI (f := 15) G cl7 dX7_nextToken_162 w854 (by decide) (by decide) (by decide) rfl rfl q543 ?_
              refine v_mask [true] rfl ?_
              refine e_X7_nextToken_L165 G (Nat.zero_le _) (Nat.zero_le _) _ (fun M544 h => ?_) FU _ h
              refine v_aload_n G dX7_nextToken_255 rfl ?_
              refine v_aload_n G dX7_nextToken_256 rfl ?_
              obtain ⟨v545, q546, h⟩ := bi_ h
              refine v_getI (f := 12) G cl7 dX7_nextToken_257 w851 (by decide) (by decide) q546 ?_
              refine v_aload_n G dX7_nextToken_260 rfl ?_
              obtain ⟨v547, q548, h⟩ := bi_ h
              refine v_getI (f := 13) G cl7 dX7_nextToken_261 w852 (by decide) (by decide) q548 ?_
              refine v_isub G dX7_nextToken_264 ?_
              refine v_iconst G (2 : Int32) dX7_nextToken_265 (by decide) ?_
              refine v_ic_le 273 G dX7_nextToken_266 (by decide) (fun q549 => ?_) (fun q549 => ?_)
              · rw [if_pos q549] at h
                refine v_iconst G (3 : Int32) dX7_nextToken_273 (by decide) ?_
                obtain ⟨M550, q551, h⟩ := bi_ h
                refine v_putI (f := 14) G cl7 dX7_nextToken_274 w853 (by decide) (by decide) (by decide) rfl rfl q551 ?_
                cases h
                exact v_vret G F dX7_nextToken_277 rfl (Nat.le_refl _)
              · rw [if_neg q549] at h
                refine v_iconst G (0 : Int32) dX7_nextToken_269 (by decide) ?_
                refine v_goto 274 G dX7_nextToken_270 (by decide) ?_
                obtain ⟨M552, q553, h⟩ := bi_ h
                refine v_putI (f := 14) G cl7 dX7_nextToken_274 w853 (by decide) (by decide) (by decide) rfl rfl q553 ?_
                cases h
                exact v_vret G F dX7_nextToken_277 rfl (Nat.le_refl _)
          · rw [if_neg q534] at h
            refine v_iconst G (1 : Int32) dX7_nextToken_137 (by decide) ?_
            refine v_goto 142 G dX7_nextToken_138 (by decide) ?_
            refine v_iadd G dX7_nextToken_142 ?_
            obtain ⟨M554, q555, h⟩ := bi_ h
            refine v_putI (f := 12) G cl7 dX7_nextToken_143 w851 (by decide) (by decide) (by decide) rfl rfl q555 ?_
            refine v_aload_n G dX7_nextToken_146 rfl ?_
            obtain ⟨v556, q557, h⟩ := bi_ h
            refine v_getI (f := 14) G cl7 dX7_nextToken_147 w853 (by decide) (by decide) q557 ?_
            refine v_iconst G (3 : Int32) dX7_nextToken_150 (by decide) ?_
            refine v_ic_ne 277 G dX7_nextToken_151 (by decide) (fun q558 => ?_) (fun q558 => ?_)
            · rw [if_neg q558] at h
              cases h
              exact v_vret G F dX7_nextToken_277 rfl (Nat.le_refl _)
            · rw [if_pos q558] at h
              refine v_aload_n G dX7_nextToken_154 rfl ?_
              refine v_dup G dX7_nextToken_155 rfl ?_
              obtain ⟨v559, q560, h⟩ := bi_ h
              refine v_getI (f := 15) G cl7 dX7_nextToken_156 w854 (by decide) (by decide) q560 ?_
              refine v_bipush G (48 : Int32) dX7_nextToken_159 (by decide) ?_
              refine v_isub G dX7_nextToken_161 ?_
              obtain ⟨M561, q562, h⟩ := bi_ h
              refine v_putI (f := 15) G cl7 dX7_nextToken_162 w854 (by decide) (by decide) (by decide) rfl rfl q562 ?_
              refine v_mask [true] rfl ?_
              refine e_X7_nextToken_L165 G (Nat.zero_le _) (Nat.zero_le _) _ (fun M563 h => ?_) FU _ h
              refine v_aload_n G dX7_nextToken_255 rfl ?_
              refine v_aload_n G dX7_nextToken_256 rfl ?_
              obtain ⟨v564, q565, h⟩ := bi_ h
              refine v_getI (f := 12) G cl7 dX7_nextToken_257 w851 (by decide) (by decide) q565 ?_
              refine v_aload_n G dX7_nextToken_260 rfl ?_
              obtain ⟨v566, q567, h⟩ := bi_ h
              refine v_getI (f := 13) G cl7 dX7_nextToken_261 w852 (by decide) (by decide) q567 ?_
              refine v_isub G dX7_nextToken_264 ?_
              refine v_iconst G (2 : Int32) dX7_nextToken_265 (by decide) ?_
              refine v_ic_le 273 G dX7_nextToken_266 (by decide) (fun q568 => ?_) (fun q568 => ?_)
              · rw [if_pos q568] at h
                refine v_iconst G (3 : Int32) dX7_nextToken_273 (by decide) ?_
                obtain ⟨M569, q570, h⟩ := bi_ h
                refine v_putI (f := 14) G cl7 dX7_nextToken_274 w853 (by decide) (by decide) (by decide) rfl rfl q570 ?_
                cases h
                exact v_vret G F dX7_nextToken_277 rfl (Nat.le_refl _)
              · rw [if_neg q568] at h
                refine v_iconst G (0 : Int32) dX7_nextToken_269 (by decide) ?_
                refine v_goto 274 G dX7_nextToken_270 (by decide) ?_
                obtain ⟨M571, q572, h⟩ := bi_ h
                refine v_putI (f := 14) G cl7 dX7_nextToken_274 w853 (by decide) (by decide) (by decide) rfl rfl q572 ?_
                cases h
                exact v_vret G F dX7_nextToken_277 rfl (Nat.le_refl _)
      · rw [if_neg q373] at h
        refine v_iconst G (2 : Int32) dX7_nextToken_70 (by decide) ?_
        refine v_goto 118 G dX7_nextToken_71 (by decide) ?_
        obtain ⟨M573, q574, h⟩ := bi_ h
        refine v_putI (f := 14) G cl7 dX7_nextToken_118 w853 (by decide) (by decide) (by decide) rfl rfl q574 ?_
        refine v_aload_n G dX7_nextToken_121 rfl ?_
        refine v_dup G dX7_nextToken_122 rfl ?_
        obtain ⟨v575, q576, h⟩ := bi_ h
        refine v_getI (f := 12) G cl7 dX7_nextToken_123 w851 (by decide) (by decide) q576 ?_
        refine v_aload_n G dX7_nextToken_126 rfl ?_
        obtain ⟨v577, q578, h⟩ := bi_ h
        refine v_getI (f := 12) G cl7 dX7_nextToken_127 w851 (by decide) (by decide) q578 ?_
        refine v_aload_n G dX7_nextToken_130 rfl ?_
        obtain ⟨v579, q580, h⟩ := bi_ h
        refine v_getI (f := 11) G cl7 dX7_nextToken_131 w850 (by decide) (by decide) q580 ?_
        refine v_ic_ge 141 G dX7_nextToken_134 (by decide) (fun q581 => ?_) (fun q581 => ?_)
        · rw [if_pos q581] at h
          refine v_iconst G (0 : Int32) dX7_nextToken_141 (by decide) ?_
          refine v_iadd G dX7_nextToken_142 ?_
          obtain ⟨M582, q583, h⟩ := bi_ h
          refine v_putI (f := 12) G cl7 dX7_nextToken_143 w851 (by decide) (by decide) (by decide) rfl rfl q583 ?_
          refine v_aload_n G dX7_nextToken_146 rfl ?_
          obtain ⟨v584, q585, h⟩ := bi_ h
          refine v_getI (f := 14) G cl7 dX7_nextToken_147 w853 (by decide) (by decide) q585 ?_
          refine v_iconst G (3 : Int32) dX7_nextToken_150 (by decide) ?_
          refine v_ic_ne 277 G dX7_nextToken_151 (by decide) (fun q586 => ?_) (fun q586 => ?_)
          · rw [if_neg q586] at h
            cases h
            exact v_vret G F dX7_nextToken_277 rfl (Nat.le_refl _)
          · rw [if_pos q586] at h
            refine v_aload_n G dX7_nextToken_154 rfl ?_
            refine v_dup G dX7_nextToken_155 rfl ?_
            obtain ⟨v587, q588, h⟩ := bi_ h
            refine v_getI (f := 15) G cl7 dX7_nextToken_156 w854 (by decide) (by decide) q588 ?_
            refine v_bipush G (48 : Int32) dX7_nextToken_159 (by decide) ?_
            refine v_isub G dX7_nextToken_161 ?_
            obtain ⟨M589, q590, h⟩ := bi_ h
            refine v_putI (f := 15) G cl7 dX7_nextToken_162 w854 (by decide) (by decide) (by decide) rfl rfl q590 ?_
            refine v_mask [true] rfl ?_
            refine e_X7_nextToken_L165 G (Nat.zero_le _) (Nat.zero_le _) _ (fun M591 h => ?_) FU _ h
            refine v_aload_n G dX7_nextToken_255 rfl ?_
            refine v_aload_n G dX7_nextToken_256 rfl ?_
            obtain ⟨v592, q593, h⟩ := bi_ h
            refine v_getI (f := 12) G cl7 dX7_nextToken_257 w851 (by decide) (by decide) q593 ?_
            refine v_aload_n G dX7_nextToken_260 rfl ?_
            obtain ⟨v594, q595, h⟩ := bi_ h
            refine v_getI (f := 13) G cl7 dX7_nextToken_261 w852 (by decide) (by decide) q595 ?_
            refine v_isub G dX7_nextToken_264 ?_
            refine v_iconst G (2 : Int32) dX7_nextToken_265 (by decide) ?_
            refine v_ic_le 273 G dX7_nextToken_266 (by decide) (fun q596 => ?_) (fun q596 => ?_)
            · rw [if_pos q596] at h
              refine v_iconst G (3 : Int32) dX7_nextToken_273 (by decide) ?_
              obtain ⟨M597, q598, h⟩ := bi_ h
              refine v_putI (f := 14) G cl7 dX7_nextToken_274 w853 (by decide) (by decide) (by decide) rfl rfl q598 ?_
              cases h
              exact v_vret G F dX7_nextToken_277 rfl (Nat.le_refl _)
            · rw [if_neg q596] at h
              refine v_iconst G (0 : Int32) dX7_nextToken_269 (by decide) ?_
              refine v_goto 274 G dX7_nextToken_270 (by decide) ?_
              obtain ⟨M599, q600, h⟩ := bi_ h
              refine v_putI (f := 14) G cl7 dX7_nextToken_274 w853 (by decide) (by decide) (by decide) rfl rfl q600 ?_
              cases h
              exact v_vret G F dX7_nextToken_277 rfl (Nat.le_refl _)
        · rw [if_neg q581] at h
          refine v_iconst G (1 : Int32) dX7_nextToken_137 (by decide) ?_
          refine v_goto 142 G dX7_nextToken_138 (by decide) ?_
          refine v_iadd G dX7_nextToken_142 ?_
          obtain ⟨M601, q602, h⟩ := bi_ h
          refine v_putI (f := 12) G cl7 dX7_nextToken_143 w851 (by decide) (by decide) (by decide) rfl rfl q602 ?_
          refine v_aload_n G dX7_nextToken_146 rfl ?_
          obtain ⟨v603, q604, h⟩ := bi_ h
          refine v_getI (f := 14) G cl7 dX7_nextToken_147 w853 (by decide) (by decide) q604 ?_
          refine v_iconst G (3 : Int32) dX7_nextToken_150 (by decide) ?_
          refine v_ic_ne 277 G dX7_nextToken_151 (by decide) (fun q605 => ?_) (fun q605 => ?_)
          · rw [if_neg q605] at h
            cases h
            exact v_vret G F dX7_nextToken_277 rfl (Nat.le_refl _)
          · rw [if_pos q605] at h
            refine v_aload_n G dX7_nextToken_154 rfl ?_
            refine v_dup G dX7_nextToken_155 rfl ?_
            obtain ⟨v606, q607, h⟩ := bi_ h
            refine v_getI (f := 15) G cl7 dX7_nextToken_156 w854 (by decide) (by decide) q607 ?_
            refine v_bipush G (48 : Int32) dX7_nextToken_159 (by decide) ?_
            refine v_isub G dX7_nextToken_161 ?_
            obtain ⟨M608, q609, h⟩ := bi_ h
            refine v_putI (f := 15) G cl7 dX7_nextToken_162 w854 (by decide) (by decide) (by decide) rfl rfl q609 ?_
            refine v_mask [true] rfl ?_
            refine e_X7_nextToken_L165 G (Nat.zero_le _) (Nat.zero_le _) _ (fun M610 h => ?_) FU _ h
            refine v_aload_n G dX7_nextToken_255 rfl ?_
            refine v_aload_n G dX7_nextToken_256 rfl ?_
            obtain ⟨v611, q612, h⟩ := bi_ h
            refine v_getI (f := 12) G cl7 dX7_nextToken_257 w851 (by decide) (by decide) q612 ?_
            refine v_aload_n G dX7_nextToken_260 rfl ?_
            obtain ⟨v613, q614, h⟩ := bi_ h
            refine v_getI (f := 13) G cl7 dX7_nextToken_261 w852 (by decide) (by decide) q614 ?_
            refine v_isub G dX7_nextToken_264 ?_
            refine v_iconst G (2 : Int32) dX7_nextToken_265 (by decide) ?_
            refine v_ic_le 273 G dX7_nextToken_266 (by decide) (fun q615 => ?_) (fun q615 => ?_)
            · rw [if_pos q615] at h
              refine v_iconst G (3 : Int32) dX7_nextToken_273 (by decide) ?_
              obtain ⟨M616, q617, h⟩ := bi_ h
              refine v_putI (f := 14) G cl7 dX7_nextToken_274 w853 (by decide) (by decide) (by decide) rfl rfl q617 ?_
              cases h
              exact v_vret G F dX7_nextToken_277 rfl (Nat.le_refl _)
            · rw [if_neg q615] at h
              refine v_iconst G (0 : Int32) dX7_nextToken_269 (by decide) ?_
              refine v_goto 274 G dX7_nextToken_270 (by decide) ?_
              obtain ⟨M618, q619, h⟩ := bi_ h
              refine v_putI (f := 14) G cl7 dX7_nextToken_274 w853 (by decide) (by decide) (by decide) rfl rfl q619 ?_
              cases h
              exact v_vret G F dX7_nextToken_277 rfl (Nat.le_refl _)
    · rw [if_pos q368] at h
      refine v_iconst G (1 : Int32) dX7_nextToken_49 (by decide) ?_
      refine v_goto 118 G dX7_nextToken_50 (by decide) ?_
      obtain ⟨M620, q621, h⟩ := bi_ h
      refine v_putI (f := 14) G cl7 dX7_nextToken_118 w853 (by decide) (by decide) (by decide) rfl rfl q621 ?_
      refine v_aload_n G dX7_nextToken_121 rfl ?_
      refine v_dup G dX7_nextToken_122 rfl ?_
      obtain ⟨v622, q623, h⟩ := bi_ h
      refine v_getI (f := 12) G cl7 dX7_nextToken_123 w851 (by decide) (by decide) q623 ?_
      refine v_aload_n G dX7_nextToken_126 rfl ?_
      obtain ⟨v624, q625, h⟩ := bi_ h
      refine v_getI (f := 12) G cl7 dX7_nextToken_127 w851 (by decide) (by decide) q625 ?_
      refine v_aload_n G dX7_nextToken_130 rfl ?_
      obtain ⟨v626, q627, h⟩ := bi_ h
      refine v_getI (f := 11) G cl7 dX7_nextToken_131 w850 (by decide) (by decide) q627 ?_
      refine v_ic_ge 141 G dX7_nextToken_134 (by decide) (fun q628 => ?_) (fun q628 => ?_)
      · rw [if_pos q628] at h
        refine v_iconst G (0 : Int32) dX7_nextToken_141 (by decide) ?_
        refine v_iadd G dX7_nextToken_142 ?_
        obtain ⟨M629, q630, h⟩ := bi_ h
        refine v_putI (f := 12) G cl7 dX7_nextToken_143 w851 (by decide) (by decide) (by decide) rfl rfl q630 ?_
        refine v_aload_n G dX7_nextToken_146 rfl ?_
        obtain ⟨v631, q632, h⟩ := bi_ h
        refine v_getI (f := 14) G cl7 dX7_nextToken_147 w853 (by decide) (by decide) q632 ?_
        refine v_iconst G (3 : Int32) dX7_nextToken_150 (by decide) ?_
        refine v_ic_ne 277 G dX7_nextToken_151 (by decide) (fun q633 => ?_) (fun q633 => ?_)
        · rw [if_neg q633] at h
          cases h
          exact v_vret G F dX7_nextToken_277 rfl (Nat.le_refl _)
        · rw [if_pos q633] at h
          refine v_aload_n G dX7_nextToken_154 rfl ?_
          refine v_dup G dX7_nextToken_155 rfl ?_
          obtain ⟨v634, q635, h⟩ := bi_ h
          refine v_getI (f := 15) G cl7 dX7_nextToken_156 w854 (by decide) (by decide) q635 ?_
          refine v_bipush G (48 : Int32) dX7_nextToken_159 (by decide) ?_
          refine v_isub G dX7_nextToken_161 ?_
          obtain ⟨M636, q637, h⟩ := bi_ h
          refine v_putI (f := 15) G cl7 dX7_nextToken_162 w854 (by decide) (by decide) (by decide) rfl rfl q637 ?_
          refine v_mask [true] rfl ?_
          refine e_X7_nextToken_L165 G (Nat.zero_le _) (Nat.zero_le _) _ (fun M638 h => ?_) FU _ h
          refine v_aload_n G dX7_nextToken_255 rfl ?_
          refine v_aload_n G dX7_nextToken_256 rfl ?_
          obtain ⟨v639, q640, h⟩ := bi_ h
          refine v_getI (f := 12) G cl7 dX7_nextToken_257 w851 (by decide) (by decide) q640 ?_
          refine v_aload_n G dX7_nextToken_260 rfl ?_
          obtain ⟨v641, q642, h⟩ := bi_ h
          refine v_getI (f := 13) G cl7 dX7_nextToken_261 w852 (by decide) (by decide) q642 ?_
          refine v_isub G dX7_nextToken_264 ?_
          refine v_iconst G (2 : Int32) dX7_nextToken_265 (by decide) ?_
          refine v_ic_le 273 G dX7_nextToken_266 (by decide) (fun q643 => ?_) (fun q643 => ?_)
          · rw [if_pos q643] at h
            refine v_iconst G (3 : Int32) dX7_nextToken_273 (by decide) ?_
            obtain ⟨M644, q645, h⟩ := bi_ h
            refine v_putI (f := 14) G cl7 dX7_nextToken_274 w853 (by decide) (by decide) (by decide) rfl rfl q645 ?_
            cases h
            exact v_vret G F dX7_nextToken_277 rfl (Nat.le_refl _)
          · rw [if_neg q643] at h
            refine v_iconst G (0 : Int32) dX7_nextToken_269 (by decide) ?_
            refine v_goto 274 G dX7_nextToken_270 (by decide) ?_
            obtain ⟨M646, q647, h⟩ := bi_ h
            refine v_putI (f := 14) G cl7 dX7_nextToken_274 w853 (by decide) (by decide) (by decide) rfl rfl q647 ?_
            cases h
            exact v_vret G F dX7_nextToken_277 rfl (Nat.le_refl _)
      · rw [if_neg q628] at h
        refine v_iconst G (1 : Int32) dX7_nextToken_137 (by decide) ?_
        refine v_goto 142 G dX7_nextToken_138 (by decide) ?_
        refine v_iadd G dX7_nextToken_142 ?_
        obtain ⟨M648, q649, h⟩ := bi_ h
        refine v_putI (f := 12) G cl7 dX7_nextToken_143 w851 (by decide) (by decide) (by decide) rfl rfl q649 ?_
        refine v_aload_n G dX7_nextToken_146 rfl ?_
        obtain ⟨v650, q651, h⟩ := bi_ h
        refine v_getI (f := 14) G cl7 dX7_nextToken_147 w853 (by decide) (by decide) q651 ?_
        refine v_iconst G (3 : Int32) dX7_nextToken_150 (by decide) ?_
        refine v_ic_ne 277 G dX7_nextToken_151 (by decide) (fun q652 => ?_) (fun q652 => ?_)
        · rw [if_neg q652] at h
          cases h
          exact v_vret G F dX7_nextToken_277 rfl (Nat.le_refl _)
        · rw [if_pos q652] at h
          refine v_aload_n G dX7_nextToken_154 rfl ?_
          refine v_dup G dX7_nextToken_155 rfl ?_
          obtain ⟨v653, q654, h⟩ := bi_ h
          refine v_getI (f := 15) G cl7 dX7_nextToken_156 w854 (by decide) (by decide) q654 ?_
          refine v_bipush G (48 : Int32) dX7_nextToken_159 (by decide) ?_
          refine v_isub G dX7_nextToken_161 ?_
          obtain ⟨M655, q656, h⟩ := bi_ h
          refine v_putI (f := 15) G cl7 dX7_nextToken_162 w854 (by decide) (by decide) (by decide) rfl rfl q656 ?_
          refine v_mask [true] rfl ?_
          refine e_X7_nextToken_L165 G (Nat.zero_le _) (Nat.zero_le _) _ (fun M657 h => ?_) FU _ h
          refine v_aload_n G dX7_nextToken_255 rfl ?_
          refine v_aload_n G dX7_nextToken_256 rfl ?_
          obtain ⟨v658, q659, h⟩ := bi_ h
          refine v_getI (f := 12) G cl7 dX7_nextToken_257 w851 (by decide) (by decide) q659 ?_
          refine v_aload_n G dX7_nextToken_260 rfl ?_
          obtain ⟨v660, q661, h⟩ := bi_ h
          refine v_getI (f := 13) G cl7 dX7_nextToken_261 w852 (by decide) (by decide) q661 ?_
          refine v_isub G dX7_nextToken_264 ?_
          refine v_iconst G (2 : Int32) dX7_nextToken_265 (by decide) ?_
          refine v_ic_le 273 G dX7_nextToken_266 (by decide) (fun q662 => ?_) (fun q662 => ?_)
          · rw [if_pos q662] at h
            refine v_iconst G (3 : Int32) dX7_nextToken_273 (by decide) ?_
            obtain ⟨M663, q664, h⟩ := bi_ h
            refine v_putI (f := 14) G cl7 dX7_nextToken_274 w853 (by decide) (by decide) (by decide) rfl rfl q664 ?_
            cases h
            exact v_vret G F dX7_nextToken_277 rfl (Nat.le_refl _)
          · rw [if_neg q662] at h
            refine v_iconst G (0 : Int32) dX7_nextToken_269 (by decide) ?_
            refine v_goto 274 G dX7_nextToken_270 (by decide) ?_
            obtain ⟨M665, q666, h⟩ := bi_ h
            refine v_putI (f := 14) G cl7 dX7_nextToken_274 w853 (by decide) (by decide) (by decide) rfl rfl q666 ?_
            cases h
            exact v_vret G F dX7_nextToken_277 rfl (Nat.le_refl _)
