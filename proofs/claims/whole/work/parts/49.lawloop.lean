def m_L_law_L18 {ρ : Type} (k0 : mM → Option ρ) (Z : zZ) (x1 : Nat) (x2 : Nat) : Nat → mM → Int32 → Option ρ
  | 0, _, _ => none
  | n + 1, M, x3 =>
    if ((nI (zL Z)) - (6 : Int32)) < x3 then (
      k0 M
    ) else (
      (ldX Z 2 x3).bind fun v3 =>
      if (v3 &&& (63 : Int32)) = (0 : Int32) then (
        (ldX Z 2 (x3 + (1 : Int32))).bind fun v6 =>
        (ldX Z 2 (x3 + (2 : Int32))).bind fun v8 =>
        (ldX Z 2 (x3 + (3 : Int32))).bind fun v10 =>
        if isO M x1 6 = true then
        bd2 (m_X6_row M x1 v6 v8 v10) fun M12 v13 =>
        (ldX Z 2 (x3 + (1 : Int32))).bind fun v15 =>
        (ldX Z 2 (x3 + (2 : Int32))).bind fun v17 =>
        (ldX Z 2 (x3 + (3 : Int32))).bind fun v19 =>
        if isO M12 x2 7 = true then
        bd2 (m_X7_row M12 x2 v15 v17 v19) fun M21 v22 =>
        if v13 = v22 then (
          m_L_law_L18 k0 Z x1 x2 n M21 (x3 + (6 : Int32))
        ) else (
          none
        )
        else none
        else none
      ) else
      if (v3 &&& (63 : Int32)) = (1 : Int32) then (
        (ldX Z 2 (x3 + (1 : Int32))).bind fun v28 =>
        (ldX Z 2 (x3 + (2 : Int32))).bind fun v30 =>
        (ldX Z 2 (x3 + (3 : Int32))).bind fun v32 =>
        if isO M x1 6 = true then
        bd2 (m_X6_set M x1 v28 v30 v32) fun M34 v35 =>
        (ldX Z 2 (x3 + (1 : Int32))).bind fun v37 =>
        (ldX Z 2 (x3 + (2 : Int32))).bind fun v39 =>
        (ldX Z 2 (x3 + (3 : Int32))).bind fun v41 =>
        if isO M34 x2 7 = true then
        bd2 (m_X7_set M34 x2 v37 v39 v41) fun M43 v44 =>
        if v35 = v44 then (
          m_L_law_L18 k0 Z x1 x2 n M43 (x3 + (6 : Int32))
        ) else (
          none
        )
        else none
        else none
      ) else
      if (v3 &&& (63 : Int32)) = (2 : Int32) then (
        (ldX Z 2 (x3 + (1 : Int32))).bind fun v50 =>
        (ldX Z 2 (x3 + (2 : Int32))).bind fun v52 =>
        (ldX Z 2 (x3 + (3 : Int32))).bind fun v54 =>
        (ldX Z 2 (x3 + (4 : Int32))).bind fun v56 =>
        (ldX Z 2 (x3 + (5 : Int32))).bind fun v58 =>
        if isO M x1 6 = true then
        bd2 (m_X6_copy M x1 v50 v52 v54 v56 v58) fun M60 v61 =>
        (ldX Z 2 (x3 + (1 : Int32))).bind fun v63 =>
        (ldX Z 2 (x3 + (2 : Int32))).bind fun v65 =>
        (ldX Z 2 (x3 + (3 : Int32))).bind fun v67 =>
        (ldX Z 2 (x3 + (4 : Int32))).bind fun v69 =>
        (ldX Z 2 (x3 + (5 : Int32))).bind fun v71 =>
        if isO M60 x2 7 = true then
        bd2 (m_X7_copy M60 x2 v63 v65 v67 v69 v71) fun M73 v74 =>
        if v61 = v74 then (
          m_L_law_L18 k0 Z x1 x2 n M73 (x3 + (6 : Int32))
        ) else (
          none
        )
        else none
        else none
      ) else
      if (v3 &&& (63 : Int32)) = (3 : Int32) then (
        (ldX Z 2 (x3 + (1 : Int32))).bind fun v80 =>
        if isO M x1 6 = true then
        bd2 (m_X6_drop M x1 v80) fun M82 v83 =>
        (ldX Z 2 (x3 + (1 : Int32))).bind fun v85 =>
        if isO M82 x2 7 = true then
        bd2 (m_X7_drop M82 x2 v85) fun M87 v88 =>
        if v83 = v88 then (
          m_L_law_L18 k0 Z x1 x2 n M87 (x3 + (6 : Int32))
        ) else (
          none
        )
        else none
        else none
      ) else
      if (v3 &&& (63 : Int32)) = (4 : Int32) then (
        (ldX Z 2 (x3 + (1 : Int32))).bind fun v94 =>
        if isO M x1 6 = true then
        bd2 (m_X6_feed M x1 v94) fun M96 v97 =>
        (ldX Z 2 (x3 + (1 : Int32))).bind fun v99 =>
        if isO M96 x2 7 = true then
        bd2 (m_X7_feed M96 x2 v99) fun M101 v102 =>
        if v97 = v102 then (
          m_L_law_L18 k0 Z x1 x2 n M101 (x3 + (6 : Int32))
        ) else (
          none
        )
        else none
        else none
      ) else
      if (v3 &&& (63 : Int32)) = (5 : Int32) then (
        if isO M x1 6 = true then
        bd2 (m_X6_school M x1) fun M108 v109 =>
        if isO M108 x2 7 = true then
        bd2 (m_X7_school M108 x2) fun M111 v112 =>
        if v109 = v112 then (
          m_L_law_L18 k0 Z x1 x2 n M111 (x3 + (6 : Int32))
        ) else (
          none
        )
        else none
        else none
      ) else
      if (v3 &&& (63 : Int32)) = (6 : Int32) then (
        if isO M x1 6 = true then
        (m_X6_fault M x1).bind fun v118 =>
        if isO M x2 7 = true then
        bd2 (m_X7_fault M x2) fun M120 v121 =>
        if v118 = v121 then (
          m_L_law_L18 k0 Z x1 x2 n M120 (x3 + (6 : Int32))
        ) else (
          none
        )
        else none
        else none
      ) else
      if (v3 &&& (63 : Int32)) = (7 : Int32) then (
        if isO M x1 6 = true then
        bd2 (m_X6_undo M x1) fun M127 v128 =>
        if isO M127 x2 7 = true then
        bd2 (m_X7_undo M127 x2) fun M130 v131 =>
        if v128 = v131 then (
          m_L_law_L18 k0 Z x1 x2 n M130 (x3 + (6 : Int32))
        ) else (
          none
        )
        else none
        else none
      ) else
      if (v3 &&& (63 : Int32)) = (8 : Int32) then (
        (ldX Z 2 (x3 + (1 : Int32))).bind fun v137 =>
        if isO M x1 6 = true then
        bd2 (m_X6_days M x1 v137) fun M139 v140 =>
        (ldX Z 2 (x3 + (1 : Int32))).bind fun v142 =>
        if isO M139 x2 7 = true then
        bd2 (m_X7_days M139 x2 v142) fun M144 v145 =>
        if v140 = v145 then (
          m_L_law_L18 k0 Z x1 x2 n M144 (x3 + (6 : Int32))
        ) else (
          none
        )
        else none
        else none
      ) else
      if (v3 &&& (63 : Int32)) = (9 : Int32) then (
        (ldX Z 2 (x3 + (1 : Int32))).bind fun v151 =>
        (ldX Z 2 (x3 + (2 : Int32))).bind fun v153 =>
        if isO M x1 6 = true then
        bd2 (m_X6_change M x1 v151 v153) fun M155 v156 =>
        (ldX Z 2 (x3 + (1 : Int32))).bind fun v158 =>
        (ldX Z 2 (x3 + (2 : Int32))).bind fun v160 =>
        if isO M155 x2 7 = true then
        bd2 (m_X7_change M155 x2 v158 v160) fun M162 v163 =>
        if v156 = v163 then (
          m_L_law_L18 k0 Z x1 x2 n M162 (x3 + (6 : Int32))
        ) else (
          none
        )
        else none
        else none
      ) else
      if (v3 &&& (63 : Int32)) = (10 : Int32) then (
        (ldX Z 2 (x3 + (1 : Int32))).bind fun v169 =>
        (ldX Z 2 (x3 + (2 : Int32))).bind fun v171 =>
        if isO M x1 6 = true then
        bd2 (m_X6_teach M x1 v169 v171) fun M173 v174 =>
        (ldX Z 2 (x3 + (1 : Int32))).bind fun v176 =>
        (ldX Z 2 (x3 + (2 : Int32))).bind fun v178 =>
        if isO M173 x2 7 = true then
        bd2 (m_X7_teach M173 x2 v176 v178) fun M180 v181 =>
        if v174 = v181 then (
          m_L_law_L18 k0 Z x1 x2 n M180 (x3 + (6 : Int32))
        ) else (
          none
        )
        else none
        else none
      ) else
      if (v3 &&& (63 : Int32)) = (11 : Int32) then (
        (ldX Z 2 (x3 + (1 : Int32))).bind fun v187 =>
        (ldX Z 2 (x3 + (2 : Int32))).bind fun v189 =>
        if isO M x1 6 = true then
        bd2 (m_X6_forget M x1 v187 v189) fun M191 v192 =>
        (ldX Z 2 (x3 + (1 : Int32))).bind fun v194 =>
        (ldX Z 2 (x3 + (2 : Int32))).bind fun v196 =>
        if isO M191 x2 7 = true then
        bd2 (m_X7_forget M191 x2 v194 v196) fun M198 v199 =>
        if v192 = v199 then (
          m_L_law_L18 k0 Z x1 x2 n M198 (x3 + (6 : Int32))
        ) else (
          none
        )
        else none
        else none
      ) else
      if (v3 &&& (63 : Int32)) = (12 : Int32) then (
        (ldX Z 2 (x3 + (1 : Int32))).bind fun v205 =>
        (ldX Z 2 (x3 + (2 : Int32))).bind fun v207 =>
        if isO M x1 6 = true then
        bd2 (m_X6_tell M x1 v205 v207) fun M209 v210 =>
        (ldX Z 2 (x3 + (1 : Int32))).bind fun v212 =>
        (ldX Z 2 (x3 + (2 : Int32))).bind fun v214 =>
        if isO M209 x2 7 = true then
        bd2 (m_X7_tell M209 x2 v212 v214) fun M216 v217 =>
        if v210 = v217 then (
          m_L_law_L18 k0 Z x1 x2 n M216 (x3 + (6 : Int32))
        ) else (
          none
        )
        else none
        else none
      ) else
      if (v3 &&& (63 : Int32)) = (13 : Int32) then (
        (ldX Z 2 (x3 + (1 : Int32))).bind fun v223 =>
        (ldX Z 2 (x3 + (2 : Int32))).bind fun v225 =>
        if isO M x1 6 = true then
        (m_X6_pupil M x1 v223 v225).bind fun v227 =>
        (ldX Z 2 (x3 + (1 : Int32))).bind fun v229 =>
        (ldX Z 2 (x3 + (2 : Int32))).bind fun v231 =>
        if isO M x2 7 = true then
        bd2 (m_X7_pupil M x2 v229 v231) fun M233 v234 =>
        if v227 = v234 then (
          m_L_law_L18 k0 Z x1 x2 n M233 (x3 + (6 : Int32))
        ) else (
          none
        )
        else none
        else none
      ) else
      if (v3 &&& (63 : Int32)) = (14 : Int32) then (
        (ldX Z 2 (x3 + (1 : Int32))).bind fun v240 =>
        (ldX Z 2 (x3 + (2 : Int32))).bind fun v242 =>
        if isO M x1 6 = true then
        (m_X6_heard M x1 v240 v242).bind fun v244 =>
        (ldX Z 2 (x3 + (1 : Int32))).bind fun v246 =>
        (ldX Z 2 (x3 + (2 : Int32))).bind fun v248 =>
        if isO M x2 7 = true then
        bd2 (m_X7_heard M x2 v246 v248) fun M250 v251 =>
        if v244 = v251 then (
          m_L_law_L18 k0 Z x1 x2 n M250 (x3 + (6 : Int32))
        ) else (
          none
        )
        else none
        else none
      ) else
      if (v3 &&& (63 : Int32)) = (15 : Int32) then (
        (ldX Z 2 (x3 + (1 : Int32))).bind fun v257 =>
        if isO M x1 6 = true then
        (m_X6_subject M x1 v257).bind fun v259 =>
        (ldX Z 2 (x3 + (1 : Int32))).bind fun v261 =>
        if isO M x2 7 = true then
        bd2 (m_X7_subject M x2 v261) fun M263 v264 =>
        if v259 = v264 then (
          m_L_law_L18 k0 Z x1 x2 n M263 (x3 + (6 : Int32))
        ) else (
          none
        )
        else none
        else none
      ) else
      if (v3 &&& (63 : Int32)) = (16 : Int32) then (
        (ldX Z 2 (x3 + (1 : Int32))).bind fun v270 =>
        if isO M x1 6 = true then
        (m_X6_lesson M x1 v270).bind fun v272 =>
        (ldX Z 2 (x3 + (1 : Int32))).bind fun v274 =>
        if isO M x2 7 = true then
        bd2 (m_X7_lesson M x2 v274) fun M276 v277 =>
        if v272 = v277 then (
          m_L_law_L18 k0 Z x1 x2 n M276 (x3 + (6 : Int32))
        ) else (
          none
        )
        else none
        else none
      ) else
      if (v3 &&& (63 : Int32)) = (17 : Int32) then (
        (ldX Z 2 (x3 + (1 : Int32))).bind fun v283 =>
        (ldX Z 2 (x3 + (2 : Int32))).bind fun v285 =>
        (ldX Z 2 (x3 + (3 : Int32))).bind fun v287 =>
        if isO M x1 6 = true then
        bd2 (m_X6_ahead M x1 v283 v285 v287) fun M289 v290 =>
        (ldX Z 2 (x3 + (1 : Int32))).bind fun v292 =>
        (ldX Z 2 (x3 + (2 : Int32))).bind fun v294 =>
        (ldX Z 2 (x3 + (3 : Int32))).bind fun v296 =>
        if isO M289 x2 7 = true then
        bd2 (m_X7_ahead M289 x2 v292 v294 v296) fun M298 v299 =>
        if v290 = v299 then (
          m_L_law_L18 k0 Z x1 x2 n M298 (x3 + (6 : Int32))
        ) else (
          none
        )
        else none
        else none
      ) else
      if (v3 &&& (63 : Int32)) = (18 : Int32) then (
        (ldX Z 2 (x3 + (1 : Int32))).bind fun v305 =>
        (ldX Z 2 (x3 + (2 : Int32))).bind fun v307 =>
        if isO M x1 6 = true then
        bd2 (m_X6_when M x1 v305 v307) fun M309 v310 =>
        (ldX Z 2 (x3 + (1 : Int32))).bind fun v312 =>
        (ldX Z 2 (x3 + (2 : Int32))).bind fun v314 =>
        if isO M309 x2 7 = true then
        bd2 (m_X7_when M309 x2 v312 v314) fun M316 v317 =>
        if v310 = v317 then (
          m_L_law_L18 k0 Z x1 x2 n M316 (x3 + (6 : Int32))
        ) else (
          none
        )
        else none
        else none
      ) else
      if (v3 &&& (63 : Int32)) = (19 : Int32) then (
        (ldX Z 2 (x3 + (1 : Int32))).bind fun v323 =>
        if isO M x1 6 = true then
        (m_X6_all M x1 v323).bind fun v325 =>
        (ldX Z 2 (x3 + (1 : Int32))).bind fun v327 =>
        if isO M x2 7 = true then
        bd2 (m_X7_all M x2 v327) fun M329 v330 =>
        if v325 = v330 then (
          m_L_law_L18 k0 Z x1 x2 n M329 (x3 + (6 : Int32))
        ) else (
          none
        )
        else none
        else none
      ) else
      if (v3 &&& (63 : Int32)) = (20 : Int32) then (
        (ldX Z 2 (x3 + (1 : Int32))).bind fun v336 =>
        if isO M x1 6 = true then
        (m_X6_follows M x1 v336).bind fun v338 =>
        (ldX Z 2 (x3 + (1 : Int32))).bind fun v340 =>
        if isO M x2 7 = true then
        bd2 (m_X7_follows M x2 v340) fun M342 v343 =>
        if v338 = v343 then (
          m_L_law_L18 k0 Z x1 x2 n M342 (x3 + (6 : Int32))
        ) else (
          none
        )
        else none
        else none
      ) else
      if (v3 &&& (63 : Int32)) = (21 : Int32) then (
        (ldX Z 2 (x3 + (1 : Int32))).bind fun v349 =>
        (ldX Z 2 (x3 + (2 : Int32))).bind fun v351 =>
        if isO M x1 6 = true then
        (m_X6_lacks M x1 v349 v351).bind fun v353 =>
        (ldX Z 2 (x3 + (1 : Int32))).bind fun v355 =>
        (ldX Z 2 (x3 + (2 : Int32))).bind fun v357 =>
        if isO M x2 7 = true then
        bd2 (m_X7_lacks M x2 v355 v357) fun M359 v360 =>
        if v353 = v360 then (
          m_L_law_L18 k0 Z x1 x2 n M359 (x3 + (6 : Int32))
        ) else (
          none
        )
        else none
        else none
      ) else
      if (v3 &&& (63 : Int32)) = (22 : Int32) then (
        (ldX Z 2 (x3 + (1 : Int32))).bind fun v366 =>
        (ldX Z 2 (x3 + (2 : Int32))).bind fun v368 =>
        (ldX Z 2 (x3 + (3 : Int32))).bind fun v370 =>
        if isO M x1 6 = true then
        (m_X6_shortest M x1 v366 v368 v370).bind fun v372 =>
        (ldX Z 2 (x3 + (1 : Int32))).bind fun v374 =>
        (ldX Z 2 (x3 + (2 : Int32))).bind fun v376 =>
        (ldX Z 2 (x3 + (3 : Int32))).bind fun v378 =>
        if isO M x2 7 = true then
        bd2 (m_X7_shortest M x2 v374 v376 v378) fun M380 v381 =>
        if v372 = v381 then (
          m_L_law_L18 k0 Z x1 x2 n M380 (x3 + (6 : Int32))
        ) else (
          none
        )
        else none
        else none
      ) else
      if (v3 &&& (63 : Int32)) = (23 : Int32) then (
        (ldX Z 2 (x3 + (1 : Int32))).bind fun v387 =>
        (ldX Z 2 (x3 + (2 : Int32))).bind fun v389 =>
        if isO M x1 6 = true then
        bd2 (m_X6_seating M x1 v387 v389) fun M391 v392 =>
        (ldX Z 2 (x3 + (1 : Int32))).bind fun v394 =>
        (ldX Z 2 (x3 + (2 : Int32))).bind fun v396 =>
        if isO M391 x2 7 = true then
        bd2 (m_X7_seating M391 x2 v394 v396) fun M398 v399 =>
        if v392 = v399 then (
          m_L_law_L18 k0 Z x1 x2 n M398 (x3 + (6 : Int32))
        ) else (
          none
        )
        else none
        else none
      ) else
      if (v3 &&& (63 : Int32)) = (24 : Int32) then (
        (ldX Z 2 (x3 + (1 : Int32))).bind fun v405 =>
        (ldX Z 2 (x3 + (2 : Int32))).bind fun v407 =>
        if isO M x1 6 = true then
        bd2 (m_X6_table M x1 v405 v407) fun M409 v410 =>
        (ldX Z 2 (x3 + (1 : Int32))).bind fun v412 =>
        (ldX Z 2 (x3 + (2 : Int32))).bind fun v414 =>
        if isO M409 x2 7 = true then
        bd2 (m_X7_table M409 x2 v412 v414) fun M416 v417 =>
        if v410 = v417 then (
          m_L_law_L18 k0 Z x1 x2 n M416 (x3 + (6 : Int32))
        ) else (
          none
        )
        else none
        else none
      ) else
      if (v3 &&& (63 : Int32)) = (25 : Int32) then (
        (ldX Z 2 (x3 + (1 : Int32))).bind fun v423 =>
        if isO M x1 6 = true then
        (m_X6_questions M x1 v423).bind fun v425 =>
        (ldX Z 2 (x3 + (1 : Int32))).bind fun v427 =>
        if isO M x2 7 = true then
        bd2 (m_X7_questions M x2 v427) fun M429 v430 =>
        if v425 = v430 then (
          m_L_law_L18 k0 Z x1 x2 n M429 (x3 + (6 : Int32))
        ) else (
          none
        )
        else none
        else none
      ) else
      if (v3 &&& (63 : Int32)) = (26 : Int32) then (
        (ldX Z 2 (x3 + (1 : Int32))).bind fun v436 =>
        if isO M x1 6 = true then
        (m_X6_top M x1 v436).bind fun v438 =>
        (ldX Z 2 (x3 + (1 : Int32))).bind fun v440 =>
        if isO M x2 7 = true then
        bd2 (m_X7_top M x2 v440) fun M442 v443 =>
        if v438 = v443 then (
          m_L_law_L18 k0 Z x1 x2 n M442 (x3 + (6 : Int32))
        ) else (
          none
        )
        else none
        else none
      ) else
      if (v3 &&& (63 : Int32)) = (27 : Int32) then (
        (ldX Z 2 (x3 + (1 : Int32))).bind fun v449 =>
        if isO M x1 6 = true then
        (m_X6_fellows M x1 v449).bind fun v451 =>
        (ldX Z 2 (x3 + (1 : Int32))).bind fun v453 =>
        if isO M x2 7 = true then
        bd2 (m_X7_fellows M x2 v453) fun M455 v456 =>
        if v451 = v456 then (
          m_L_law_L18 k0 Z x1 x2 n M455 (x3 + (6 : Int32))
        ) else (
          none
        )
        else none
        else none
      ) else
      if (v3 &&& (63 : Int32)) = (28 : Int32) then (
        (ldX Z 2 (x3 + (1 : Int32))).bind fun v462 =>
        (ldX Z 2 (x3 + (2 : Int32))).bind fun v464 =>
        (ldX Z 2 (x3 + (3 : Int32))).bind fun v466 =>
        (ldX Z 2 (x3 + (4 : Int32))).bind fun v468 =>
        (ldX Z 2 (x3 + (5 : Int32))).bind fun v470 =>
        if isO M x1 6 = true then
        bd2 (m_X6_who M x1 v462 v464 v466 v468 v470) fun M472 v473 =>
        (ldX Z 2 (x3 + (1 : Int32))).bind fun v475 =>
        (ldX Z 2 (x3 + (2 : Int32))).bind fun v477 =>
        (ldX Z 2 (x3 + (3 : Int32))).bind fun v479 =>
        (ldX Z 2 (x3 + (4 : Int32))).bind fun v481 =>
        (ldX Z 2 (x3 + (5 : Int32))).bind fun v483 =>
        if isO M472 x2 7 = true then
        bd2 (m_X7_who M472 x2 v475 v477 v479 v481 v483) fun M485 v486 =>
        if v473 = v486 then (
          m_L_law_L18 k0 Z x1 x2 n M485 (x3 + (6 : Int32))
        ) else (
          none
        )
        else none
        else none
      ) else
      if (v3 &&& (63 : Int32)) = (29 : Int32) then (
        (ldX Z 2 (x3 + (1 : Int32))).bind fun v492 =>
        (ldX Z 2 (x3 + (2 : Int32))).bind fun v494 =>
        (ldX Z 2 (x3 + (3 : Int32))).bind fun v496 =>
        (ldX Z 2 (x3 + (4 : Int32))).bind fun v498 =>
        (ldX Z 2 (x3 + (5 : Int32))).bind fun v500 =>
        if isO M x1 6 = true then
        bd2 (m_X6_what M x1 v492 v494 v496 v498 v500) fun M502 v503 =>
        (ldX Z 2 (x3 + (1 : Int32))).bind fun v505 =>
        (ldX Z 2 (x3 + (2 : Int32))).bind fun v507 =>
        (ldX Z 2 (x3 + (3 : Int32))).bind fun v509 =>
        (ldX Z 2 (x3 + (4 : Int32))).bind fun v511 =>
        (ldX Z 2 (x3 + (5 : Int32))).bind fun v513 =>
        if isO M502 x2 7 = true then
        bd2 (m_X7_what M502 x2 v505 v507 v509 v511 v513) fun M515 v516 =>
        if v503 = v516 then (
          m_L_law_L18 k0 Z x1 x2 n M515 (x3 + (6 : Int32))
        ) else (
          none
        )
        else none
        else none
      ) else
      if (v3 &&& (63 : Int32)) = (30 : Int32) then (
        (ldX Z 2 (x3 + (1 : Int32))).bind fun v522 =>
        (ldX Z 2 (x3 + (2 : Int32))).bind fun v524 =>
        (ldX Z 2 (x3 + (3 : Int32))).bind fun v526 =>
        (ldX Z 2 (x3 + (4 : Int32))).bind fun v528 =>
        (ldX Z 2 (x3 + (5 : Int32))).bind fun v530 =>
        if isO M x1 6 = true then
        bd2 (m_X6_thought M x1 v522 v524 v526 v528 v530) fun M532 v533 =>
        (ldX Z 2 (x3 + (1 : Int32))).bind fun v535 =>
        (ldX Z 2 (x3 + (2 : Int32))).bind fun v537 =>
        (ldX Z 2 (x3 + (3 : Int32))).bind fun v539 =>
        (ldX Z 2 (x3 + (4 : Int32))).bind fun v541 =>
        (ldX Z 2 (x3 + (5 : Int32))).bind fun v543 =>
        if isO M532 x2 7 = true then
        bd2 (m_X7_thought M532 x2 v535 v537 v539 v541 v543) fun M545 v546 =>
        if (lg_cmp v533 v546) = (0 : Int32) then (
          m_L_law_L18 k0 Z x1 x2 n M545 (x3 + (6 : Int32))
        ) else (
          none
        )
        else none
        else none
      ) else
      if (v3 &&& (63 : Int32)) = (31 : Int32) then (
        (ldX Z 2 (x3 + (1 : Int32))).bind fun v552 =>
        (ldX Z 2 (x3 + (2 : Int32))).bind fun v554 =>
        (ldX Z 2 (x3 + (3 : Int32))).bind fun v556 =>
        if isO M x1 6 = true then
        bd2 (m_X6_drawn M x1 v552 v554 v556) fun M558 v559 =>
        (ldX Z 2 (x3 + (1 : Int32))).bind fun v561 =>
        (ldX Z 2 (x3 + (2 : Int32))).bind fun v563 =>
        (ldX Z 2 (x3 + (3 : Int32))).bind fun v565 =>
        if isO M558 x2 7 = true then
        bd2 (m_X7_drawn M558 x2 v561 v563 v565) fun M567 v568 =>
        if v559 = v568 then (
          m_L_law_L18 k0 Z x1 x2 n M567 (x3 + (6 : Int32))
        ) else (
          none
        )
        else none
        else none
      ) else
      if (v3 &&& (63 : Int32)) = (32 : Int32) then (
        (ldX Z 2 (x3 + (1 : Int32))).bind fun v574 =>
        if isO M x1 6 = true then
        bd2 (m_X6_image M x1 v574) fun M576 v577 =>
        (ldX Z 2 (x3 + (1 : Int32))).bind fun v579 =>
        if isO M576 x2 7 = true then
        bd2 (m_X7_image M576 x2 v579) fun M581 v582 =>
        if v577 = v582 then (
          m_L_law_L18 k0 Z x1 x2 n M581 (x3 + (6 : Int32))
        ) else (
          none
        )
        else none
        else none
      ) else
      if (v3 &&& (63 : Int32)) = (33 : Int32) then (
        (ldX Z 2 (x3 + (1 : Int32))).bind fun v588 =>
        if isO M x1 6 = true then
        bd2 (m_X6_restore M x1 v588) fun M590 v591 =>
        (ldX Z 2 (x3 + (1 : Int32))).bind fun v593 =>
        if isO M590 x2 7 = true then
        bd2 (m_X7_restore M590 x2 v593) fun M595 v596 =>
        if v591 = v596 then (
          m_L_law_L18 k0 Z x1 x2 n M595 (x3 + (6 : Int32))
        ) else (
          none
        )
        else none
        else none
      ) else
      if (v3 &&& (63 : Int32)) = (34 : Int32) then (
        (ldX Z 2 (x3 + (1 : Int32))).bind fun v602 =>
        if isO M x1 6 = true then
        (m_X6_kind M x1 v602).bind fun v604 =>
        (ldX Z 2 (x3 + (1 : Int32))).bind fun v606 =>
        if isO M x2 7 = true then
        bd2 (m_X7_kind M x2 v606) fun M608 v609 =>
        if v604 = v609 then (
          m_L_law_L18 k0 Z x1 x2 n M608 (x3 + (6 : Int32))
        ) else (
          none
        )
        else none
        else none
      ) else
      if (v3 &&& (63 : Int32)) = (35 : Int32) then (
        (ldX Z 2 (x3 + (1 : Int32))).bind fun v615 =>
        (ldX Z 2 (x3 + (2 : Int32))).bind fun v617 =>
        if isO M x1 6 = true then
        bd2 (m_X6_as M x1 v615 v617) fun M619 v620 =>
        (ldX Z 2 (x3 + (1 : Int32))).bind fun v622 =>
        (ldX Z 2 (x3 + (2 : Int32))).bind fun v624 =>
        if isO M619 x2 7 = true then
        bd2 (m_X7_as M619 x2 v622 v624) fun M626 v627 =>
        if v620 = v627 then (
          m_L_law_L18 k0 Z x1 x2 n M626 (x3 + (6 : Int32))
        ) else (
          none
        )
        else none
        else none
      ) else
      if (v3 &&& (63 : Int32)) = (36 : Int32) then (
        (ldX Z 2 (x3 + (1 : Int32))).bind fun v633 =>
        (ldX Z 2 (x3 + (2 : Int32))).bind fun v635 =>
        if isO M x1 6 = true then
        bd2 (m_X6_ask M x1 v633 v635) fun M637 v638 =>
        (ldX Z 2 (x3 + (1 : Int32))).bind fun v640 =>
        (ldX Z 2 (x3 + (2 : Int32))).bind fun v642 =>
        if isO M637 x2 7 = true then
        bd2 (m_X7_ask M637 x2 v640 v642) fun M644 v645 =>
        if v638 = v645 then (
          m_L_law_L18 k0 Z x1 x2 n M644 (x3 + (6 : Int32))
        ) else (
          none
        )
        else none
        else none
      ) else
      if (v3 &&& (63 : Int32)) = (37 : Int32) then (
        (ldX Z 2 (x3 + (1 : Int32))).bind fun v651 =>
        if isO M x1 6 = true then
        (m_X6_trace M x1 v651).bind fun v653 =>
        (ldX Z 2 (x3 + (1 : Int32))).bind fun v655 =>
        if isO M x2 7 = true then
        bd2 (m_X7_trace M x2 v655) fun M657 v658 =>
        if v653 = v658 then (
          m_L_law_L18 k0 Z x1 x2 n M657 (x3 + (6 : Int32))
        ) else (
          none
        )
        else none
        else none
      ) else
      if (v3 &&& (63 : Int32)) = (38 : Int32) then (
        (ldX Z 2 (x3 + (1 : Int32))).bind fun v664 =>
        if isO M x1 6 = true then
        (m_X6_count M x1 v664).bind fun v666 =>
        (ldX Z 2 (x3 + (1 : Int32))).bind fun v668 =>
        if isO M x2 7 = true then
        bd2 (m_X7_count M x2 v668) fun M670 v671 =>
        if v666 = v671 then (
          m_L_law_L18 k0 Z x1 x2 n M670 (x3 + (6 : Int32))
        ) else (
          none
        )
        else none
        else none
      ) else
      if (v3 &&& (63 : Int32)) = (39 : Int32) then (
        if isO M x1 6 = true then
        (m_X6_status M x1).bind fun v677 =>
        if isO M x2 7 = true then
        bd2 (m_X7_status M x2) fun M679 v680 =>
        if v677 = v680 then (
          m_L_law_L18 k0 Z x1 x2 n M679 (x3 + (6 : Int32))
        ) else (
          none
        )
        else none
        else none
      ) else
      (
        m_L_law_L18 k0 Z x1 x2 n M (x3 + (6 : Int32))
      )
    )
set_option maxHeartbeats 8000000 in
set_option maxRecDepth 20000 in
theorem e_L_law_L18 {X : xX} {Z : zZ} {cn sn : Nat} {mc ms : Nat} {ρ : Type} {r : ρ} {k0 : mM → Option ρ} (G : ok_ X Z yL_law cL_law 4 24 mc ms) (hcn : cn ≤ mc) (hsn : sn ≤ ms) (x1 : Nat) (x2 : Nat)
    (hx0 : ∀ (N : mM), k0 N = some r → V X Z N cn sn 1475 [none, none, none, none] []) :
    ∀ (n : Nat) (M : mM) (x3 : Int32), m_L_law_L18 k0 Z x1 x2 n M x3 = some r → V X Z M cn sn 18 [some (.float 2), some (.ref x1), some (.ref x2), some (.int x3)] [] := by
  intro n
  induction n with
  | zero => intro M x3 h; rw [m_L_law_L18] at h; cases h
  | succ n ih =>
    intro M x3 h
    rw [m_L_law_L18] at h
    refine v_iload_n G dL_law_18 rfl ?_
    refine v_aload_nx G dL_law_19 rfl ?_
    refine v_xlen G dL_law_20 ?_
    refine v_bipush G (6 : Int32) dL_law_21 (by decide) ?_
    refine v_isub G dL_law_23 ?_
    refine v_ic_gt 1475 G dL_law_24 (by decide) (fun q1 => ?_) (fun q1 => ?_)
    · rw [if_pos q1] at h
      exact v_mask [false, false, false, false] rfl (hx0 _ h)
    · rw [if_neg q1] at h
      refine v_aload_nx G dL_law_27 rfl ?_
      refine v_iload_n G dL_law_28 rfl ?_
      obtain ⟨v3, q2, h⟩ := bi_ h
      refine v_xald G dL_law_29 q2 ?_
      refine v_bipush G (63 : Int32) dL_law_30 (by decide) ?_
      refine v_iand G dL_law_32 ?_
      rcases Decidable.em ((v3 &&& (63 : Int32)) = (0 : Int32)) with q4 | q4
      · rw [if_pos q4] at h
        refine v_tabI (off := 175) 208 G dL_law_33 (by rw [q4]; decide) (by rw [q4]; decide) (by rw [q4]; rfl) (by decide) ?_
        refine v_aload_n G dL_law_208 rfl ?_
        refine v_aload_nx G dL_law_209 rfl ?_
        refine v_iload_n G dL_law_210 rfl ?_
        refine v_iconst G (1 : Int32) dL_law_211 (by decide) ?_
        refine v_iadd G dL_law_212 ?_
        obtain ⟨v6, q5, h⟩ := bi_ h
        refine v_xald G dL_law_213 q5 ?_
        refine v_aload_nx G dL_law_214 rfl ?_
        refine v_iload_n G dL_law_215 rfl ?_
        refine v_iconst G (2 : Int32) dL_law_216 (by decide) ?_
        refine v_iadd G dL_law_217 ?_
        obtain ⟨v8, q7, h⟩ := bi_ h
        refine v_xald G dL_law_218 q7 ?_
        refine v_aload_nx G dL_law_219 rfl ?_
        refine v_iload_n G dL_law_220 rfl ?_
        refine v_iconst G (3 : Int32) dL_law_221 (by decide) ?_
        refine v_iadd G dL_law_222 ?_
        obtain ⟨v10, q9, h⟩ := bi_ h
        refine v_xald G dL_law_223 q9 ?_
        obtain ⟨q25, h⟩ := if_s h
        obtain ⟨M12, v13, q11, h⟩ := bi2_ h
        refine v_callV0 (e_X6_row q11) G cl6 my_X6_row rfl w317 w318 w316 dL_law_224 q25 rfl (Nat.le_of_ble_eq_true rfl) rfl (Nat.le_of_ble_eq_true rfl) hcn hsn ?_
        refine v_aload_n G dL_law_227 rfl ?_
        refine v_aload_nx G dL_law_228 rfl ?_
        refine v_iload_n G dL_law_229 rfl ?_
        refine v_iconst G (1 : Int32) dL_law_230 (by decide) ?_
        refine v_iadd G dL_law_231 ?_
        obtain ⟨v15, q14, h⟩ := bi_ h
        refine v_xald G dL_law_232 q14 ?_
        refine v_aload_nx G dL_law_233 rfl ?_
        refine v_iload_n G dL_law_234 rfl ?_
        refine v_iconst G (2 : Int32) dL_law_235 (by decide) ?_
        refine v_iadd G dL_law_236 ?_
        obtain ⟨v17, q16, h⟩ := bi_ h
        refine v_xald G dL_law_237 q16 ?_
        refine v_aload_nx G dL_law_238 rfl ?_
        refine v_iload_n G dL_law_239 rfl ?_
        refine v_iconst G (3 : Int32) dL_law_240 (by decide) ?_
        refine v_iadd G dL_law_241 ?_
        obtain ⟨v19, q18, h⟩ := bi_ h
        refine v_xald G dL_law_242 q18 ?_
        obtain ⟨q24, h⟩ := if_s h
        obtain ⟨M21, v22, q20, h⟩ := bi2_ h
        refine v_callV0 (e_X7_row q20) G cl7 my_X7_row rfl w920 w921 w919 dL_law_243 q24 rfl (Nat.le_of_ble_eq_true rfl) rfl (Nat.le_of_ble_eq_true rfl) hcn hsn ?_
        refine v_ic_eq 1469 G dL_law_246 (by decide) (fun q23 => ?_) (fun q23 => ?_)
        · rw [if_pos q23] at h
          refine v_iinc (x3 + (6 : Int32)) [some (.float 2), some (.ref x1), some (.ref x2), some (.int (x3 + (6 : Int32)))] G dL_law_1469 rfl rfl (Nat.le_of_ble_eq_true rfl) rfl rfl ?_
          refine v_goto 18 G dL_law_1472 (by decide) ?_
          exact v_mask [true, true, true, true] rfl (ih _ _ h)
        · rw [if_neg q23] at h
          cases h
      · rw [if_neg q4] at h
        rcases Decidable.em ((v3 &&& (63 : Int32)) = (1 : Int32)) with q26 | q26
        · rw [if_pos q26] at h
          refine v_tabI (off := 218) 251 G dL_law_33 (by rw [q26]; decide) (by rw [q26]; decide) (by rw [q26]; rfl) (by decide) ?_
          refine v_aload_n G dL_law_251 rfl ?_
          refine v_aload_nx G dL_law_252 rfl ?_
          refine v_iload_n G dL_law_253 rfl ?_
          refine v_iconst G (1 : Int32) dL_law_254 (by decide) ?_
          refine v_iadd G dL_law_255 ?_
          obtain ⟨v28, q27, h⟩ := bi_ h
          refine v_xald G dL_law_256 q27 ?_
          refine v_aload_nx G dL_law_257 rfl ?_
          refine v_iload_n G dL_law_258 rfl ?_
          refine v_iconst G (2 : Int32) dL_law_259 (by decide) ?_
          refine v_iadd G dL_law_260 ?_
          obtain ⟨v30, q29, h⟩ := bi_ h
          refine v_xald G dL_law_261 q29 ?_
          refine v_aload_nx G dL_law_262 rfl ?_
          refine v_iload_n G dL_law_263 rfl ?_
          refine v_iconst G (3 : Int32) dL_law_264 (by decide) ?_
          refine v_iadd G dL_law_265 ?_
          obtain ⟨v32, q31, h⟩ := bi_ h
          refine v_xald G dL_law_266 q31 ?_
          obtain ⟨q47, h⟩ := if_s h
          obtain ⟨M34, v35, q33, h⟩ := bi2_ h
          refine v_callV0 (e_X6_set q33) G cl6 my_X6_set rfl w341 w342 w340 dL_law_267 q47 rfl (Nat.le_of_ble_eq_true rfl) rfl (Nat.le_of_ble_eq_true rfl) hcn hsn ?_
          refine v_aload_n G dL_law_270 rfl ?_
          refine v_aload_nx G dL_law_271 rfl ?_
          refine v_iload_n G dL_law_272 rfl ?_
          refine v_iconst G (1 : Int32) dL_law_273 (by decide) ?_
          refine v_iadd G dL_law_274 ?_
          obtain ⟨v37, q36, h⟩ := bi_ h
          refine v_xald G dL_law_275 q36 ?_
          refine v_aload_nx G dL_law_276 rfl ?_
          refine v_iload_n G dL_law_277 rfl ?_
          refine v_iconst G (2 : Int32) dL_law_278 (by decide) ?_
          refine v_iadd G dL_law_279 ?_
          obtain ⟨v39, q38, h⟩ := bi_ h
          refine v_xald G dL_law_280 q38 ?_
          refine v_aload_nx G dL_law_281 rfl ?_
          refine v_iload_n G dL_law_282 rfl ?_
          refine v_iconst G (3 : Int32) dL_law_283 (by decide) ?_
          refine v_iadd G dL_law_284 ?_
          obtain ⟨v41, q40, h⟩ := bi_ h
          refine v_xald G dL_law_285 q40 ?_
          obtain ⟨q46, h⟩ := if_s h
          obtain ⟨M43, v44, q42, h⟩ := bi2_ h
          refine v_callV0 (e_X7_set q42) G cl7 my_X7_set rfl w938 w939 w937 dL_law_286 q46 rfl (Nat.le_of_ble_eq_true rfl) rfl (Nat.le_of_ble_eq_true rfl) hcn hsn ?_
          refine v_ic_eq 1469 G dL_law_289 (by decide) (fun q45 => ?_) (fun q45 => ?_)
          · rw [if_pos q45] at h
            refine v_iinc (x3 + (6 : Int32)) [some (.float 2), some (.ref x1), some (.ref x2), some (.int (x3 + (6 : Int32)))] G dL_law_1469 rfl rfl (Nat.le_of_ble_eq_true rfl) rfl rfl ?_
            refine v_goto 18 G dL_law_1472 (by decide) ?_
            exact v_mask [true, true, true, true] rfl (ih _ _ h)
          · rw [if_neg q45] at h
            cases h
        · rw [if_neg q26] at h
          rcases Decidable.em ((v3 &&& (63 : Int32)) = (2 : Int32)) with q48 | q48
          · rw [if_pos q48] at h
            refine v_tabI (off := 261) 294 G dL_law_33 (by rw [q48]; decide) (by rw [q48]; decide) (by rw [q48]; rfl) (by decide) ?_
            refine v_aload_n G dL_law_294 rfl ?_
            refine v_aload_nx G dL_law_295 rfl ?_
            refine v_iload_n G dL_law_296 rfl ?_
            refine v_iconst G (1 : Int32) dL_law_297 (by decide) ?_
            refine v_iadd G dL_law_298 ?_
            obtain ⟨v50, q49, h⟩ := bi_ h
            refine v_xald G dL_law_299 q49 ?_
            refine v_aload_nx G dL_law_300 rfl ?_
            refine v_iload_n G dL_law_301 rfl ?_
            refine v_iconst G (2 : Int32) dL_law_302 (by decide) ?_
            refine v_iadd G dL_law_303 ?_
            obtain ⟨v52, q51, h⟩ := bi_ h
            refine v_xald G dL_law_304 q51 ?_
            refine v_aload_nx G dL_law_305 rfl ?_
            refine v_iload_n G dL_law_306 rfl ?_
            refine v_iconst G (3 : Int32) dL_law_307 (by decide) ?_
            refine v_iadd G dL_law_308 ?_
            obtain ⟨v54, q53, h⟩ := bi_ h
            refine v_xald G dL_law_309 q53 ?_
            refine v_aload_nx G dL_law_310 rfl ?_
            refine v_iload_n G dL_law_311 rfl ?_
            refine v_iconst G (4 : Int32) dL_law_312 (by decide) ?_
            refine v_iadd G dL_law_313 ?_
            obtain ⟨v56, q55, h⟩ := bi_ h
            refine v_xald G dL_law_314 q55 ?_
            refine v_aload_nx G dL_law_315 rfl ?_
            refine v_iload_n G dL_law_316 rfl ?_
            refine v_iconst G (5 : Int32) dL_law_317 (by decide) ?_
            refine v_iadd G dL_law_318 ?_
            obtain ⟨v58, q57, h⟩ := bi_ h
            refine v_xald G dL_law_319 q57 ?_
            obtain ⟨q77, h⟩ := if_s h
            obtain ⟨M60, v61, q59, h⟩ := bi2_ h
            refine v_callV0 (e_X6_copy q59) G cl6 my_X6_copy rfl w357 w358 w356 dL_law_320 q77 rfl (Nat.le_of_ble_eq_true rfl) rfl (Nat.le_of_ble_eq_true rfl) hcn hsn ?_
            refine v_aload_n G dL_law_323 rfl ?_
            refine v_aload_nx G dL_law_324 rfl ?_
            refine v_iload_n G dL_law_325 rfl ?_
            refine v_iconst G (1 : Int32) dL_law_326 (by decide) ?_
            refine v_iadd G dL_law_327 ?_
            obtain ⟨v63, q62, h⟩ := bi_ h
            refine v_xald G dL_law_328 q62 ?_
            refine v_aload_nx G dL_law_329 rfl ?_
            refine v_iload_n G dL_law_330 rfl ?_
            refine v_iconst G (2 : Int32) dL_law_331 (by decide) ?_
            refine v_iadd G dL_law_332 ?_
            obtain ⟨v65, q64, h⟩ := bi_ h
            refine v_xald G dL_law_333 q64 ?_
            refine v_aload_nx G dL_law_334 rfl ?_
            refine v_iload_n G dL_law_335 rfl ?_
            refine v_iconst G (3 : Int32) dL_law_336 (by decide) ?_
            refine v_iadd G dL_law_337 ?_
            obtain ⟨v67, q66, h⟩ := bi_ h
            refine v_xald G dL_law_338 q66 ?_
            refine v_aload_nx G dL_law_339 rfl ?_
            refine v_iload_n G dL_law_340 rfl ?_
            refine v_iconst G (4 : Int32) dL_law_341 (by decide) ?_
            refine v_iadd G dL_law_342 ?_
            obtain ⟨v69, q68, h⟩ := bi_ h
            refine v_xald G dL_law_343 q68 ?_
            refine v_aload_nx G dL_law_344 rfl ?_
            refine v_iload_n G dL_law_345 rfl ?_
            refine v_iconst G (5 : Int32) dL_law_346 (by decide) ?_
            refine v_iadd G dL_law_347 ?_
            obtain ⟨v71, q70, h⟩ := bi_ h
            refine v_xald G dL_law_348 q70 ?_
            obtain ⟨q76, h⟩ := if_s h
            obtain ⟨M73, v74, q72, h⟩ := bi2_ h
            refine v_callV0 (e_X7_copy q72) G cl7 my_X7_copy rfl w942 w943 w941 dL_law_349 q76 rfl (Nat.le_of_ble_eq_true rfl) rfl (Nat.le_of_ble_eq_true rfl) hcn hsn ?_
            refine v_ic_eq 1469 G dL_law_352 (by decide) (fun q75 => ?_) (fun q75 => ?_)
            · rw [if_pos q75] at h
              refine v_iinc (x3 + (6 : Int32)) [some (.float 2), some (.ref x1), some (.ref x2), some (.int (x3 + (6 : Int32)))] G dL_law_1469 rfl rfl (Nat.le_of_ble_eq_true rfl) rfl rfl ?_
              refine v_goto 18 G dL_law_1472 (by decide) ?_
              exact v_mask [true, true, true, true] rfl (ih _ _ h)
            · rw [if_neg q75] at h
              cases h
          · rw [if_neg q48] at h
            rcases Decidable.em ((v3 &&& (63 : Int32)) = (3 : Int32)) with q78 | q78
            · rw [if_pos q78] at h
              refine v_tabI (off := 324) 357 G dL_law_33 (by rw [q78]; decide) (by rw [q78]; decide) (by rw [q78]; rfl) (by decide) ?_
              refine v_aload_n G dL_law_357 rfl ?_
              refine v_aload_nx G dL_law_358 rfl ?_
              refine v_iload_n G dL_law_359 rfl ?_
              refine v_iconst G (1 : Int32) dL_law_360 (by decide) ?_
              refine v_iadd G dL_law_361 ?_
              obtain ⟨v80, q79, h⟩ := bi_ h
              refine v_xald G dL_law_362 q79 ?_
              obtain ⟨q91, h⟩ := if_s h
              obtain ⟨M82, v83, q81, h⟩ := bi2_ h
              refine v_callV0 (e_X6_drop q81) G cl6 my_X6_drop rfl w364 w365 w363 dL_law_363 q91 rfl (Nat.le_of_ble_eq_true rfl) rfl (Nat.le_of_ble_eq_true rfl) hcn hsn ?_
              refine v_aload_n G dL_law_366 rfl ?_
              refine v_aload_nx G dL_law_367 rfl ?_
              refine v_iload_n G dL_law_368 rfl ?_
              refine v_iconst G (1 : Int32) dL_law_369 (by decide) ?_
              refine v_iadd G dL_law_370 ?_
              obtain ⟨v85, q84, h⟩ := bi_ h
              refine v_xald G dL_law_371 q84 ?_
              obtain ⟨q90, h⟩ := if_s h
              obtain ⟨M87, v88, q86, h⟩ := bi2_ h
              refine v_callV0 (e_X7_drop q86) G cl7 my_X7_drop rfl w946 w947 w945 dL_law_372 q90 rfl (Nat.le_of_ble_eq_true rfl) rfl (Nat.le_of_ble_eq_true rfl) hcn hsn ?_
              refine v_ic_eq 1469 G dL_law_375 (by decide) (fun q89 => ?_) (fun q89 => ?_)
              · rw [if_pos q89] at h
                refine v_iinc (x3 + (6 : Int32)) [some (.float 2), some (.ref x1), some (.ref x2), some (.int (x3 + (6 : Int32)))] G dL_law_1469 rfl rfl (Nat.le_of_ble_eq_true rfl) rfl rfl ?_
                refine v_goto 18 G dL_law_1472 (by decide) ?_
                exact v_mask [true, true, true, true] rfl (ih _ _ h)
              · rw [if_neg q89] at h
                cases h
            · rw [if_neg q78] at h
              rcases Decidable.em ((v3 &&& (63 : Int32)) = (4 : Int32)) with q92 | q92
              · rw [if_pos q92] at h
                refine v_tabI (off := 347) 380 G dL_law_33 (by rw [q92]; decide) (by rw [q92]; decide) (by rw [q92]; rfl) (by decide) ?_
                refine v_aload_n G dL_law_380 rfl ?_
                refine v_aload_nx G dL_law_381 rfl ?_
                refine v_iload_n G dL_law_382 rfl ?_
                refine v_iconst G (1 : Int32) dL_law_383 (by decide) ?_
                refine v_iadd G dL_law_384 ?_
                obtain ⟨v94, q93, h⟩ := bi_ h
                refine v_xald G dL_law_385 q93 ?_
                obtain ⟨q105, h⟩ := if_s h
                obtain ⟨M96, v97, q95, h⟩ := bi2_ h
                refine v_callV0 (e_X6_feed q95) G cl6 my_X6_feed rfl w368 w369 w367 dL_law_386 q105 rfl (Nat.le_of_ble_eq_true rfl) rfl (Nat.le_of_ble_eq_true rfl) hcn hsn ?_
                refine v_aload_n G dL_law_389 rfl ?_
                refine v_aload_nx G dL_law_390 rfl ?_
                refine v_iload_n G dL_law_391 rfl ?_
                refine v_iconst G (1 : Int32) dL_law_392 (by decide) ?_
                refine v_iadd G dL_law_393 ?_
                obtain ⟨v99, q98, h⟩ := bi_ h
                refine v_xald G dL_law_394 q98 ?_
                obtain ⟨q104, h⟩ := if_s h
                obtain ⟨M101, v102, q100, h⟩ := bi2_ h
                refine v_callV0 (e_X7_feed q100) G cl7 my_X7_feed rfl w950 w951 w949 dL_law_395 q104 rfl (Nat.le_of_ble_eq_true rfl) rfl (Nat.le_of_ble_eq_true rfl) hcn hsn ?_
                refine v_ic_eq 1469 G dL_law_398 (by decide) (fun q103 => ?_) (fun q103 => ?_)
                · rw [if_pos q103] at h
                  refine v_iinc (x3 + (6 : Int32)) [some (.float 2), some (.ref x1), some (.ref x2), some (.int (x3 + (6 : Int32)))] G dL_law_1469 rfl rfl (Nat.le_of_ble_eq_true rfl) rfl rfl ?_
                  refine v_goto 18 G dL_law_1472 (by decide) ?_
                  exact v_mask [true, true, true, true] rfl (ih _ _ h)
                · rw [if_neg q103] at h
                  cases h
              · rw [if_neg q92] at h
                rcases Decidable.em ((v3 &&& (63 : Int32)) = (5 : Int32)) with q106 | q106
                · rw [if_pos q106] at h
                  refine v_tabI (off := 370) 403 G dL_law_33 (by rw [q106]; decide) (by rw [q106]; decide) (by rw [q106]; rfl) (by decide) ?_
                  refine v_aload_n G dL_law_403 rfl ?_
                  obtain ⟨q115, h⟩ := if_s h
                  obtain ⟨M108, v109, q107, h⟩ := bi2_ h
                  refine v_callV0 (e_X6_school q107) G cl6 my_X6_school rfl w377 w378 w376 dL_law_404 q115 rfl (Nat.le_of_ble_eq_true rfl) rfl (Nat.le_of_ble_eq_true rfl) hcn hsn ?_
                  refine v_aload_n G dL_law_407 rfl ?_
                  obtain ⟨q114, h⟩ := if_s h
                  obtain ⟨M111, v112, q110, h⟩ := bi2_ h
                  refine v_callV0 (e_X7_school q110) G cl7 my_X7_school rfl w960 w961 w959 dL_law_408 q114 rfl (Nat.le_of_ble_eq_true rfl) rfl (Nat.le_of_ble_eq_true rfl) hcn hsn ?_
                  refine v_ic_eq 1469 G dL_law_411 (by decide) (fun q113 => ?_) (fun q113 => ?_)
                  · rw [if_pos q113] at h
                    refine v_iinc (x3 + (6 : Int32)) [some (.float 2), some (.ref x1), some (.ref x2), some (.int (x3 + (6 : Int32)))] G dL_law_1469 rfl rfl (Nat.le_of_ble_eq_true rfl) rfl rfl ?_
                    refine v_goto 18 G dL_law_1472 (by decide) ?_
                    exact v_mask [true, true, true, true] rfl (ih _ _ h)
                  · rw [if_neg q113] at h
                    cases h
                · rw [if_neg q106] at h
                  rcases Decidable.em ((v3 &&& (63 : Int32)) = (6 : Int32)) with q116 | q116
                  · rw [if_pos q116] at h
                    refine v_tabI (off := 383) 416 G dL_law_33 (by rw [q116]; decide) (by rw [q116]; decide) (by rw [q116]; rfl) (by decide) ?_
                    refine v_aload_n G dL_law_416 rfl ?_
                    obtain ⟨q124, h⟩ := if_s h
                    obtain ⟨v118, q117, h⟩ := bi_ h
                    refine v_callV0 (e_X6_fault q117) G cl6 my_X6_fault rfl w428 w429 w427 dL_law_417 q124 rfl (Nat.le_of_ble_eq_true rfl) rfl (Nat.le_of_ble_eq_true rfl) hcn hsn ?_
                    refine v_aload_n G dL_law_420 rfl ?_
                    obtain ⟨q123, h⟩ := if_s h
                    obtain ⟨M120, v121, q119, h⟩ := bi2_ h
                    refine v_callV0 (e_X7_fault q119) G cl7 my_X7_fault rfl w956 w957 w955 dL_law_421 q123 rfl (Nat.le_of_ble_eq_true rfl) rfl (Nat.le_of_ble_eq_true rfl) hcn hsn ?_
                    refine v_ic_eq 1469 G dL_law_424 (by decide) (fun q122 => ?_) (fun q122 => ?_)
                    · rw [if_pos q122] at h
                      refine v_iinc (x3 + (6 : Int32)) [some (.float 2), some (.ref x1), some (.ref x2), some (.int (x3 + (6 : Int32)))] G dL_law_1469 rfl rfl (Nat.le_of_ble_eq_true rfl) rfl rfl ?_
                      refine v_goto 18 G dL_law_1472 (by decide) ?_
                      exact v_mask [true, true, true, true] rfl (ih _ _ h)
                    · rw [if_neg q122] at h
                      cases h
                  · rw [if_neg q116] at h
                    rcases Decidable.em ((v3 &&& (63 : Int32)) = (7 : Int32)) with q125 | q125
                    · rw [if_pos q125] at h
                      refine v_tabI (off := 396) 429 G dL_law_33 (by rw [q125]; decide) (by rw [q125]; decide) (by rw [q125]; rfl) (by decide) ?_
                      refine v_aload_n G dL_law_429 rfl ?_
                      obtain ⟨q134, h⟩ := if_s h
                      obtain ⟨M127, v128, q126, h⟩ := bi2_ h
                      refine v_callV0 (e_X6_undo q126) G cl6 my_X6_undo rfl w432 w433 w431 dL_law_430 q134 rfl (Nat.le_of_ble_eq_true rfl) rfl (Nat.le_of_ble_eq_true rfl) hcn hsn ?_
                      refine v_aload_n G dL_law_433 rfl ?_
                      obtain ⟨q133, h⟩ := if_s h
                      obtain ⟨M130, v131, q129, h⟩ := bi2_ h
                      refine v_callV0 (e_X7_undo q129) G cl7 my_X7_undo rfl w1104 w1105 w1103 dL_law_434 q133 rfl (Nat.le_of_ble_eq_true rfl) rfl (Nat.le_of_ble_eq_true rfl) hcn hsn ?_
                      refine v_ic_eq 1469 G dL_law_437 (by decide) (fun q132 => ?_) (fun q132 => ?_)
                      · rw [if_pos q132] at h
                        refine v_iinc (x3 + (6 : Int32)) [some (.float 2), some (.ref x1), some (.ref x2), some (.int (x3 + (6 : Int32)))] G dL_law_1469 rfl rfl (Nat.le_of_ble_eq_true rfl) rfl rfl ?_
                        refine v_goto 18 G dL_law_1472 (by decide) ?_
                        exact v_mask [true, true, true, true] rfl (ih _ _ h)
                      · rw [if_neg q132] at h
                        cases h
                    · rw [if_neg q125] at h
                      rcases Decidable.em ((v3 &&& (63 : Int32)) = (8 : Int32)) with q135 | q135
                      · rw [if_pos q135] at h
                        refine v_tabI (off := 409) 442 G dL_law_33 (by rw [q135]; decide) (by rw [q135]; decide) (by rw [q135]; rfl) (by decide) ?_
                        refine v_aload_n G dL_law_442 rfl ?_
                        refine v_aload_nx G dL_law_443 rfl ?_
                        refine v_iload_n G dL_law_444 rfl ?_
                        refine v_iconst G (1 : Int32) dL_law_445 (by decide) ?_
                        refine v_iadd G dL_law_446 ?_
                        obtain ⟨v137, q136, h⟩ := bi_ h
                        refine v_xald G dL_law_447 q136 ?_
                        obtain ⟨q148, h⟩ := if_s h
                        obtain ⟨M139, v140, q138, h⟩ := bi2_ h
                        refine v_callV0 (e_X6_days q138) G cl6 my_X6_days rfl w442 w443 w441 dL_law_448 q148 rfl (Nat.le_of_ble_eq_true rfl) rfl (Nat.le_of_ble_eq_true rfl) hcn hsn ?_
                        refine v_aload_n G dL_law_451 rfl ?_
                        refine v_aload_nx G dL_law_452 rfl ?_
                        refine v_iload_n G dL_law_453 rfl ?_
                        refine v_iconst G (1 : Int32) dL_law_454 (by decide) ?_
                        refine v_iadd G dL_law_455 ?_
                        obtain ⟨v142, q141, h⟩ := bi_ h
                        refine v_xald G dL_law_456 q141 ?_
                        obtain ⟨q147, h⟩ := if_s h
                        obtain ⟨M144, v145, q143, h⟩ := bi2_ h
                        refine v_callV0 (e_X7_days q143) G cl7 my_X7_days rfl w1021 w1022 w1020 dL_law_457 q147 rfl (Nat.le_of_ble_eq_true rfl) rfl (Nat.le_of_ble_eq_true rfl) hcn hsn ?_
                        refine v_ic_eq 1469 G dL_law_460 (by decide) (fun q146 => ?_) (fun q146 => ?_)
                        · rw [if_pos q146] at h
                          refine v_iinc (x3 + (6 : Int32)) [some (.float 2), some (.ref x1), some (.ref x2), some (.int (x3 + (6 : Int32)))] G dL_law_1469 rfl rfl (Nat.le_of_ble_eq_true rfl) rfl rfl ?_
                          refine v_goto 18 G dL_law_1472 (by decide) ?_
                          exact v_mask [true, true, true, true] rfl (ih _ _ h)
                        · rw [if_neg q146] at h
                          cases h
                      · rw [if_neg q135] at h
                        rcases Decidable.em ((v3 &&& (63 : Int32)) = (9 : Int32)) with q149 | q149
                        · rw [if_pos q149] at h
                          refine v_tabI (off := 432) 465 G dL_law_33 (by rw [q149]; decide) (by rw [q149]; decide) (by rw [q149]; rfl) (by decide) ?_
                          refine v_aload_n G dL_law_465 rfl ?_
                          refine v_aload_nx G dL_law_466 rfl ?_
                          refine v_iload_n G dL_law_467 rfl ?_
                          refine v_iconst G (1 : Int32) dL_law_468 (by decide) ?_
                          refine v_iadd G dL_law_469 ?_
                          obtain ⟨v151, q150, h⟩ := bi_ h
                          refine v_xald G dL_law_470 q150 ?_
                          refine v_aload_nx G dL_law_471 rfl ?_
                          refine v_iload_n G dL_law_472 rfl ?_
                          refine v_iconst G (2 : Int32) dL_law_473 (by decide) ?_
                          refine v_iadd G dL_law_474 ?_
                          obtain ⟨v153, q152, h⟩ := bi_ h
                          refine v_xald G dL_law_475 q152 ?_
                          obtain ⟨q166, h⟩ := if_s h
                          obtain ⟨M155, v156, q154, h⟩ := bi2_ h
                          refine v_callV0 (e_X6_change q154) G cl6 my_X6_change rfl w507 w508 w506 dL_law_476 q166 rfl (Nat.le_of_ble_eq_true rfl) rfl (Nat.le_of_ble_eq_true rfl) hcn hsn ?_
                          refine v_aload_n G dL_law_479 rfl ?_
                          refine v_aload_nx G dL_law_480 rfl ?_
                          refine v_iload_n G dL_law_481 rfl ?_
                          refine v_iconst G (1 : Int32) dL_law_482 (by decide) ?_
                          refine v_iadd G dL_law_483 ?_
                          obtain ⟨v158, q157, h⟩ := bi_ h
                          refine v_xald G dL_law_484 q157 ?_
                          refine v_aload_nx G dL_law_485 rfl ?_
                          refine v_iload_n G dL_law_486 rfl ?_
                          refine v_iconst G (2 : Int32) dL_law_487 (by decide) ?_
                          refine v_iadd G dL_law_488 ?_
                          obtain ⟨v160, q159, h⟩ := bi_ h
                          refine v_xald G dL_law_489 q159 ?_
                          obtain ⟨q165, h⟩ := if_s h
                          obtain ⟨M162, v163, q161, h⟩ := bi2_ h
                          refine v_callV0 (e_X7_change q161) G cl7 my_X7_change rfl w1069 w1070 w1068 dL_law_490 q165 rfl (Nat.le_of_ble_eq_true rfl) rfl (Nat.le_of_ble_eq_true rfl) hcn hsn ?_
                          refine v_ic_eq 1469 G dL_law_493 (by decide) (fun q164 => ?_) (fun q164 => ?_)
                          · rw [if_pos q164] at h
                            refine v_iinc (x3 + (6 : Int32)) [some (.float 2), some (.ref x1), some (.ref x2), some (.int (x3 + (6 : Int32)))] G dL_law_1469 rfl rfl (Nat.le_of_ble_eq_true rfl) rfl rfl ?_
                            refine v_goto 18 G dL_law_1472 (by decide) ?_
                            exact v_mask [true, true, true, true] rfl (ih _ _ h)
                          · rw [if_neg q164] at h
                            cases h
                        · rw [if_neg q149] at h
                          rcases Decidable.em ((v3 &&& (63 : Int32)) = (10 : Int32)) with q167 | q167
                          · rw [if_pos q167] at h
                            refine v_tabI (off := 465) 498 G dL_law_33 (by rw [q167]; decide) (by rw [q167]; decide) (by rw [q167]; rfl) (by decide) ?_
                            refine v_aload_n G dL_law_498 rfl ?_
                            refine v_aload_nx G dL_law_499 rfl ?_
                            refine v_iload_n G dL_law_500 rfl ?_
                            refine v_iconst G (1 : Int32) dL_law_501 (by decide) ?_
                            refine v_iadd G dL_law_502 ?_
                            obtain ⟨v169, q168, h⟩ := bi_ h
                            refine v_xald G dL_law_503 q168 ?_
                            refine v_aload_nx G dL_law_504 rfl ?_
                            refine v_iload_n G dL_law_505 rfl ?_
                            refine v_iconst G (2 : Int32) dL_law_506 (by decide) ?_
                            refine v_iadd G dL_law_507 ?_
                            obtain ⟨v171, q170, h⟩ := bi_ h
                            refine v_xald G dL_law_508 q170 ?_
                            obtain ⟨q184, h⟩ := if_s h
                            obtain ⟨M173, v174, q172, h⟩ := bi2_ h
                            refine v_callV0 (e_X6_teach q172) G cl6 my_X6_teach rfl w523 w524 w522 dL_law_509 q184 rfl (Nat.le_of_ble_eq_true rfl) rfl (Nat.le_of_ble_eq_true rfl) hcn hsn ?_
                            refine v_aload_n G dL_law_512 rfl ?_
                            refine v_aload_nx G dL_law_513 rfl ?_
                            refine v_iload_n G dL_law_514 rfl ?_
                            refine v_iconst G (1 : Int32) dL_law_515 (by decide) ?_
                            refine v_iadd G dL_law_516 ?_
                            obtain ⟨v176, q175, h⟩ := bi_ h
                            refine v_xald G dL_law_517 q175 ?_
                            refine v_aload_nx G dL_law_518 rfl ?_
                            refine v_iload_n G dL_law_519 rfl ?_
                            refine v_iconst G (2 : Int32) dL_law_520 (by decide) ?_
                            refine v_iadd G dL_law_521 ?_
                            obtain ⟨v178, q177, h⟩ := bi_ h
                            refine v_xald G dL_law_522 q177 ?_
                            obtain ⟨q183, h⟩ := if_s h
                            obtain ⟨M180, v181, q179, h⟩ := bi2_ h
                            refine v_callV0 (e_X7_teach q179) G cl7 my_X7_teach rfl w1080 w1081 w1079 dL_law_523 q183 rfl (Nat.le_of_ble_eq_true rfl) rfl (Nat.le_of_ble_eq_true rfl) hcn hsn ?_
                            refine v_ic_eq 1469 G dL_law_526 (by decide) (fun q182 => ?_) (fun q182 => ?_)
                            · rw [if_pos q182] at h
                              refine v_iinc (x3 + (6 : Int32)) [some (.float 2), some (.ref x1), some (.ref x2), some (.int (x3 + (6 : Int32)))] G dL_law_1469 rfl rfl (Nat.le_of_ble_eq_true rfl) rfl rfl ?_
                              refine v_goto 18 G dL_law_1472 (by decide) ?_
                              exact v_mask [true, true, true, true] rfl (ih _ _ h)
                            · rw [if_neg q182] at h
                              cases h
                          · rw [if_neg q167] at h
                            rcases Decidable.em ((v3 &&& (63 : Int32)) = (11 : Int32)) with q185 | q185
                            · rw [if_pos q185] at h
                              refine v_tabI (off := 498) 531 G dL_law_33 (by rw [q185]; decide) (by rw [q185]; decide) (by rw [q185]; rfl) (by decide) ?_
                              refine v_aload_n G dL_law_531 rfl ?_
                              refine v_aload_nx G dL_law_532 rfl ?_
                              refine v_iload_n G dL_law_533 rfl ?_
                              refine v_iconst G (1 : Int32) dL_law_534 (by decide) ?_
                              refine v_iadd G dL_law_535 ?_
                              obtain ⟨v187, q186, h⟩ := bi_ h
                              refine v_xald G dL_law_536 q186 ?_
                              refine v_aload_nx G dL_law_537 rfl ?_
                              refine v_iload_n G dL_law_538 rfl ?_
                              refine v_iconst G (2 : Int32) dL_law_539 (by decide) ?_
                              refine v_iadd G dL_law_540 ?_
                              obtain ⟨v189, q188, h⟩ := bi_ h
                              refine v_xald G dL_law_541 q188 ?_
                              obtain ⟨q202, h⟩ := if_s h
                              obtain ⟨M191, v192, q190, h⟩ := bi2_ h
                              refine v_callV0 (e_X6_forget q190) G cl6 my_X6_forget rfl w535 w536 w534 dL_law_542 q202 rfl (Nat.le_of_ble_eq_true rfl) rfl (Nat.le_of_ble_eq_true rfl) hcn hsn ?_
                              refine v_aload_n G dL_law_545 rfl ?_
                              refine v_aload_nx G dL_law_546 rfl ?_
                              refine v_iload_n G dL_law_547 rfl ?_
                              refine v_iconst G (1 : Int32) dL_law_548 (by decide) ?_
                              refine v_iadd G dL_law_549 ?_
                              obtain ⟨v194, q193, h⟩ := bi_ h
                              refine v_xald G dL_law_550 q193 ?_
                              refine v_aload_nx G dL_law_551 rfl ?_
                              refine v_iload_n G dL_law_552 rfl ?_
                              refine v_iconst G (2 : Int32) dL_law_553 (by decide) ?_
                              refine v_iadd G dL_law_554 ?_
                              obtain ⟨v196, q195, h⟩ := bi_ h
                              refine v_xald G dL_law_555 q195 ?_
                              obtain ⟨q201, h⟩ := if_s h
                              obtain ⟨M198, v199, q197, h⟩ := bi2_ h
                              refine v_callV0 (e_X7_forget q197) G cl7 my_X7_forget rfl w1092 w1093 w1091 dL_law_556 q201 rfl (Nat.le_of_ble_eq_true rfl) rfl (Nat.le_of_ble_eq_true rfl) hcn hsn ?_
                              refine v_ic_eq 1469 G dL_law_559 (by decide) (fun q200 => ?_) (fun q200 => ?_)
                              · rw [if_pos q200] at h
                                refine v_iinc (x3 + (6 : Int32)) [some (.float 2), some (.ref x1), some (.ref x2), some (.int (x3 + (6 : Int32)))] G dL_law_1469 rfl rfl (Nat.le_of_ble_eq_true rfl) rfl rfl ?_
                                refine v_goto 18 G dL_law_1472 (by decide) ?_
                                exact v_mask [true, true, true, true] rfl (ih _ _ h)
                              · rw [if_neg q200] at h
                                cases h
                            · rw [if_neg q185] at h
                              rcases Decidable.em ((v3 &&& (63 : Int32)) = (12 : Int32)) with q203 | q203
                              · rw [if_pos q203] at h
                                refine v_tabI (off := 531) 564 G dL_law_33 (by rw [q203]; decide) (by rw [q203]; decide) (by rw [q203]; rfl) (by decide) ?_
                                refine v_aload_n G dL_law_564 rfl ?_
                                refine v_aload_nx G dL_law_565 rfl ?_
                                refine v_iload_n G dL_law_566 rfl ?_
                                refine v_iconst G (1 : Int32) dL_law_567 (by decide) ?_
                                refine v_iadd G dL_law_568 ?_
                                obtain ⟨v205, q204, h⟩ := bi_ h
                                refine v_xald G dL_law_569 q204 ?_
                                refine v_aload_nx G dL_law_570 rfl ?_
                                refine v_iload_n G dL_law_571 rfl ?_
                                refine v_iconst G (2 : Int32) dL_law_572 (by decide) ?_
                                refine v_iadd G dL_law_573 ?_
                                obtain ⟨v207, q206, h⟩ := bi_ h
                                refine v_xald G dL_law_574 q206 ?_
                                obtain ⟨q220, h⟩ := if_s h
                                obtain ⟨M209, v210, q208, h⟩ := bi2_ h
                                refine v_callV0 (e_X6_tell q208) G cl6 my_X6_tell rfl w540 w541 w539 dL_law_575 q220 rfl (Nat.le_of_ble_eq_true rfl) rfl (Nat.le_of_ble_eq_true rfl) hcn hsn ?_
                                refine v_aload_n G dL_law_578 rfl ?_
                                refine v_aload_nx G dL_law_579 rfl ?_
                                refine v_iload_n G dL_law_580 rfl ?_
                                refine v_iconst G (1 : Int32) dL_law_581 (by decide) ?_
                                refine v_iadd G dL_law_582 ?_
                                obtain ⟨v212, q211, h⟩ := bi_ h
                                refine v_xald G dL_law_583 q211 ?_
                                refine v_aload_nx G dL_law_584 rfl ?_
                                refine v_iload_n G dL_law_585 rfl ?_
                                refine v_iconst G (2 : Int32) dL_law_586 (by decide) ?_
                                refine v_iadd G dL_law_587 ?_
                                obtain ⟨v214, q213, h⟩ := bi_ h
                                refine v_xald G dL_law_588 q213 ?_
                                obtain ⟨q219, h⟩ := if_s h
                                obtain ⟨M216, v217, q215, h⟩ := bi2_ h
                                refine v_callV0 (e_X7_tell q215) G cl7 my_X7_tell rfl w1100 w1101 w1099 dL_law_589 q219 rfl (Nat.le_of_ble_eq_true rfl) rfl (Nat.le_of_ble_eq_true rfl) hcn hsn ?_
                                refine v_ic_eq 1469 G dL_law_592 (by decide) (fun q218 => ?_) (fun q218 => ?_)
                                · rw [if_pos q218] at h
                                  refine v_iinc (x3 + (6 : Int32)) [some (.float 2), some (.ref x1), some (.ref x2), some (.int (x3 + (6 : Int32)))] G dL_law_1469 rfl rfl (Nat.le_of_ble_eq_true rfl) rfl rfl ?_
                                  refine v_goto 18 G dL_law_1472 (by decide) ?_
                                  exact v_mask [true, true, true, true] rfl (ih _ _ h)
                                · rw [if_neg q218] at h
                                  cases h
                              · rw [if_neg q203] at h
                                rcases Decidable.em ((v3 &&& (63 : Int32)) = (13 : Int32)) with q221 | q221
                                · rw [if_pos q221] at h
                                  refine v_tabI (off := 564) 597 G dL_law_33 (by rw [q221]; decide) (by rw [q221]; decide) (by rw [q221]; rfl) (by decide) ?_
                                  refine v_aload_n G dL_law_597 rfl ?_
                                  refine v_aload_nx G dL_law_598 rfl ?_
                                  refine v_iload_n G dL_law_599 rfl ?_
                                  refine v_iconst G (1 : Int32) dL_law_600 (by decide) ?_
                                  refine v_iadd G dL_law_601 ?_
                                  obtain ⟨v223, q222, h⟩ := bi_ h
                                  refine v_xald G dL_law_602 q222 ?_
                                  refine v_aload_nx G dL_law_603 rfl ?_
                                  refine v_iload_n G dL_law_604 rfl ?_
                                  refine v_iconst G (2 : Int32) dL_law_605 (by decide) ?_
                                  refine v_iadd G dL_law_606 ?_
                                  obtain ⟨v225, q224, h⟩ := bi_ h
                                  refine v_xald G dL_law_607 q224 ?_
                                  obtain ⟨q237, h⟩ := if_s h
                                  obtain ⟨v227, q226, h⟩ := bi_ h
                                  refine v_callV0 (e_X6_pupil q226) G cl6 my_X6_pupil rfl w544 w545 w543 dL_law_608 q237 rfl (Nat.le_of_ble_eq_true rfl) rfl (Nat.le_of_ble_eq_true rfl) hcn hsn ?_
                                  refine v_aload_n G dL_law_611 rfl ?_
                                  refine v_aload_nx G dL_law_612 rfl ?_
                                  refine v_iload_n G dL_law_613 rfl ?_
                                  refine v_iconst G (1 : Int32) dL_law_614 (by decide) ?_
                                  refine v_iadd G dL_law_615 ?_
                                  obtain ⟨v229, q228, h⟩ := bi_ h
                                  refine v_xald G dL_law_616 q228 ?_
                                  refine v_aload_nx G dL_law_617 rfl ?_
                                  refine v_iload_n G dL_law_618 rfl ?_
                                  refine v_iconst G (2 : Int32) dL_law_619 (by decide) ?_
                                  refine v_iadd G dL_law_620 ?_
                                  obtain ⟨v231, q230, h⟩ := bi_ h
                                  refine v_xald G dL_law_621 q230 ?_
                                  obtain ⟨q236, h⟩ := if_s h
                                  obtain ⟨M233, v234, q232, h⟩ := bi2_ h
                                  refine v_callV0 (e_X7_pupil q232) G cl7 my_X7_pupil rfl w1108 w1109 w1107 dL_law_622 q236 rfl (Nat.le_of_ble_eq_true rfl) rfl (Nat.le_of_ble_eq_true rfl) hcn hsn ?_
                                  refine v_ic_eq 1469 G dL_law_625 (by decide) (fun q235 => ?_) (fun q235 => ?_)
                                  · rw [if_pos q235] at h
                                    refine v_iinc (x3 + (6 : Int32)) [some (.float 2), some (.ref x1), some (.ref x2), some (.int (x3 + (6 : Int32)))] G dL_law_1469 rfl rfl (Nat.le_of_ble_eq_true rfl) rfl rfl ?_
                                    refine v_goto 18 G dL_law_1472 (by decide) ?_
                                    exact v_mask [true, true, true, true] rfl (ih _ _ h)
                                  · rw [if_neg q235] at h
                                    cases h
                                · rw [if_neg q221] at h
                                  rcases Decidable.em ((v3 &&& (63 : Int32)) = (14 : Int32)) with q238 | q238
                                  · rw [if_pos q238] at h
                                    refine v_tabI (off := 597) 630 G dL_law_33 (by rw [q238]; decide) (by rw [q238]; decide) (by rw [q238]; rfl) (by decide) ?_
                                    refine v_aload_n G dL_law_630 rfl ?_
                                    refine v_aload_nx G dL_law_631 rfl ?_
                                    refine v_iload_n G dL_law_632 rfl ?_
                                    refine v_iconst G (1 : Int32) dL_law_633 (by decide) ?_
                                    refine v_iadd G dL_law_634 ?_
                                    obtain ⟨v240, q239, h⟩ := bi_ h
                                    refine v_xald G dL_law_635 q239 ?_
                                    refine v_aload_nx G dL_law_636 rfl ?_
                                    refine v_iload_n G dL_law_637 rfl ?_
                                    refine v_iconst G (2 : Int32) dL_law_638 (by decide) ?_
                                    refine v_iadd G dL_law_639 ?_
                                    obtain ⟨v242, q241, h⟩ := bi_ h
                                    refine v_xald G dL_law_640 q241 ?_
                                    obtain ⟨q254, h⟩ := if_s h
                                    obtain ⟨v244, q243, h⟩ := bi_ h
                                    refine v_callV0 (e_X6_heard q243) G cl6 my_X6_heard rfl w558 w559 w557 dL_law_641 q254 rfl (Nat.le_of_ble_eq_true rfl) rfl (Nat.le_of_ble_eq_true rfl) hcn hsn ?_
                                    refine v_aload_n G dL_law_644 rfl ?_
                                    refine v_aload_nx G dL_law_645 rfl ?_
                                    refine v_iload_n G dL_law_646 rfl ?_
                                    refine v_iconst G (1 : Int32) dL_law_647 (by decide) ?_
                                    refine v_iadd G dL_law_648 ?_
                                    obtain ⟨v246, q245, h⟩ := bi_ h
                                    refine v_xald G dL_law_649 q245 ?_
                                    refine v_aload_nx G dL_law_650 rfl ?_
                                    refine v_iload_n G dL_law_651 rfl ?_
                                    refine v_iconst G (2 : Int32) dL_law_652 (by decide) ?_
                                    refine v_iadd G dL_law_653 ?_
                                    obtain ⟨v248, q247, h⟩ := bi_ h
                                    refine v_xald G dL_law_654 q247 ?_
                                    obtain ⟨q253, h⟩ := if_s h
                                    obtain ⟨M250, v251, q249, h⟩ := bi2_ h
                                    refine v_callV0 (e_X7_heard q249) G cl7 my_X7_heard rfl w1116 w1117 w1115 dL_law_655 q253 rfl (Nat.le_of_ble_eq_true rfl) rfl (Nat.le_of_ble_eq_true rfl) hcn hsn ?_
                                    refine v_ic_eq 1469 G dL_law_658 (by decide) (fun q252 => ?_) (fun q252 => ?_)
                                    · rw [if_pos q252] at h
                                      refine v_iinc (x3 + (6 : Int32)) [some (.float 2), some (.ref x1), some (.ref x2), some (.int (x3 + (6 : Int32)))] G dL_law_1469 rfl rfl (Nat.le_of_ble_eq_true rfl) rfl rfl ?_
                                      refine v_goto 18 G dL_law_1472 (by decide) ?_
                                      exact v_mask [true, true, true, true] rfl (ih _ _ h)
                                    · rw [if_neg q252] at h
                                      cases h
                                  · rw [if_neg q238] at h
                                    rcases Decidable.em ((v3 &&& (63 : Int32)) = (15 : Int32)) with q255 | q255
                                    · rw [if_pos q255] at h
                                      refine v_tabI (off := 630) 663 G dL_law_33 (by rw [q255]; decide) (by rw [q255]; decide) (by rw [q255]; rfl) (by decide) ?_
                                      refine v_aload_n G dL_law_663 rfl ?_
                                      refine v_aload_nx G dL_law_664 rfl ?_
                                      refine v_iload_n G dL_law_665 rfl ?_
                                      refine v_iconst G (1 : Int32) dL_law_666 (by decide) ?_
                                      refine v_iadd G dL_law_667 ?_
                                      obtain ⟨v257, q256, h⟩ := bi_ h
                                      refine v_xald G dL_law_668 q256 ?_
                                      obtain ⟨q267, h⟩ := if_s h
                                      obtain ⟨v259, q258, h⟩ := bi_ h
                                      refine v_callV0 (e_X6_subject q258) G cl6 my_X6_subject rfl w563 w564 w562 dL_law_669 q267 rfl (Nat.le_of_ble_eq_true rfl) rfl (Nat.le_of_ble_eq_true rfl) hcn hsn ?_
                                      refine v_aload_n G dL_law_672 rfl ?_
                                      refine v_aload_nx G dL_law_673 rfl ?_
                                      refine v_iload_n G dL_law_674 rfl ?_
                                      refine v_iconst G (1 : Int32) dL_law_675 (by decide) ?_
                                      refine v_iadd G dL_law_676 ?_
                                      obtain ⟨v261, q260, h⟩ := bi_ h
                                      refine v_xald G dL_law_677 q260 ?_
                                      obtain ⟨q266, h⟩ := if_s h
                                      obtain ⟨M263, v264, q262, h⟩ := bi2_ h
                                      refine v_callV0 (e_X7_subject q262) G cl7 my_X7_subject rfl w1120 w1121 w1119 dL_law_678 q266 rfl (Nat.le_of_ble_eq_true rfl) rfl (Nat.le_of_ble_eq_true rfl) hcn hsn ?_
                                      refine v_ic_eq 1469 G dL_law_681 (by decide) (fun q265 => ?_) (fun q265 => ?_)
                                      · rw [if_pos q265] at h
                                        refine v_iinc (x3 + (6 : Int32)) [some (.float 2), some (.ref x1), some (.ref x2), some (.int (x3 + (6 : Int32)))] G dL_law_1469 rfl rfl (Nat.le_of_ble_eq_true rfl) rfl rfl ?_
                                        refine v_goto 18 G dL_law_1472 (by decide) ?_
                                        exact v_mask [true, true, true, true] rfl (ih _ _ h)
                                      · rw [if_neg q265] at h
                                        cases h
                                    · rw [if_neg q255] at h
                                      rcases Decidable.em ((v3 &&& (63 : Int32)) = (16 : Int32)) with q268 | q268
                                      · rw [if_pos q268] at h
                                        refine v_tabI (off := 653) 686 G dL_law_33 (by rw [q268]; decide) (by rw [q268]; decide) (by rw [q268]; rfl) (by decide) ?_
                                        refine v_aload_n G dL_law_686 rfl ?_
                                        refine v_aload_nx G dL_law_687 rfl ?_
                                        refine v_iload_n G dL_law_688 rfl ?_
                                        refine v_iconst G (1 : Int32) dL_law_689 (by decide) ?_
                                        refine v_iadd G dL_law_690 ?_
                                        obtain ⟨v270, q269, h⟩ := bi_ h
                                        refine v_xald G dL_law_691 q269 ?_
                                        obtain ⟨q280, h⟩ := if_s h
                                        obtain ⟨v272, q271, h⟩ := bi_ h
                                        refine v_callV0 (e_X6_lesson q271) G cl6 my_X6_lesson rfl w567 w568 w566 dL_law_692 q280 rfl (Nat.le_of_ble_eq_true rfl) rfl (Nat.le_of_ble_eq_true rfl) hcn hsn ?_
                                        refine v_aload_n G dL_law_695 rfl ?_
                                        refine v_aload_nx G dL_law_696 rfl ?_
                                        refine v_iload_n G dL_law_697 rfl ?_
                                        refine v_iconst G (1 : Int32) dL_law_698 (by decide) ?_
                                        refine v_iadd G dL_law_699 ?_
                                        obtain ⟨v274, q273, h⟩ := bi_ h
                                        refine v_xald G dL_law_700 q273 ?_
                                        obtain ⟨q279, h⟩ := if_s h
                                        obtain ⟨M276, v277, q275, h⟩ := bi2_ h
                                        refine v_callV0 (e_X7_lesson q275) G cl7 my_X7_lesson rfl w1124 w1125 w1123 dL_law_701 q279 rfl (Nat.le_of_ble_eq_true rfl) rfl (Nat.le_of_ble_eq_true rfl) hcn hsn ?_
                                        refine v_ic_eq 1469 G dL_law_704 (by decide) (fun q278 => ?_) (fun q278 => ?_)
                                        · rw [if_pos q278] at h
                                          refine v_iinc (x3 + (6 : Int32)) [some (.float 2), some (.ref x1), some (.ref x2), some (.int (x3 + (6 : Int32)))] G dL_law_1469 rfl rfl (Nat.le_of_ble_eq_true rfl) rfl rfl ?_
                                          refine v_goto 18 G dL_law_1472 (by decide) ?_
                                          exact v_mask [true, true, true, true] rfl (ih _ _ h)
                                        · rw [if_neg q278] at h
                                          cases h
                                      · rw [if_neg q268] at h
                                        rcases Decidable.em ((v3 &&& (63 : Int32)) = (17 : Int32)) with q281 | q281
                                        · rw [if_pos q281] at h
                                          refine v_tabI (off := 676) 709 G dL_law_33 (by rw [q281]; decide) (by rw [q281]; decide) (by rw [q281]; rfl) (by decide) ?_
                                          refine v_aload_n G dL_law_709 rfl ?_
                                          refine v_aload_nx G dL_law_710 rfl ?_
                                          refine v_iload_n G dL_law_711 rfl ?_
                                          refine v_iconst G (1 : Int32) dL_law_712 (by decide) ?_
                                          refine v_iadd G dL_law_713 ?_
                                          obtain ⟨v283, q282, h⟩ := bi_ h
                                          refine v_xald G dL_law_714 q282 ?_
                                          refine v_aload_nx G dL_law_715 rfl ?_
                                          refine v_iload_n G dL_law_716 rfl ?_
                                          refine v_iconst G (2 : Int32) dL_law_717 (by decide) ?_
                                          refine v_iadd G dL_law_718 ?_
                                          obtain ⟨v285, q284, h⟩ := bi_ h
                                          refine v_xald G dL_law_719 q284 ?_
                                          refine v_aload_nx G dL_law_720 rfl ?_
                                          refine v_iload_n G dL_law_721 rfl ?_
                                          refine v_iconst G (3 : Int32) dL_law_722 (by decide) ?_
                                          refine v_iadd G dL_law_723 ?_
                                          obtain ⟨v287, q286, h⟩ := bi_ h
                                          refine v_xald G dL_law_724 q286 ?_
                                          obtain ⟨q302, h⟩ := if_s h
                                          obtain ⟨M289, v290, q288, h⟩ := bi2_ h
                                          refine v_callV0 (e_X6_ahead q288) G cl6 my_X6_ahead rfl w572 w573 w571 dL_law_725 q302 rfl (Nat.le_of_ble_eq_true rfl) rfl (Nat.le_of_ble_eq_true rfl) hcn hsn ?_
                                          refine v_aload_n G dL_law_728 rfl ?_
                                          refine v_aload_nx G dL_law_729 rfl ?_
                                          refine v_iload_n G dL_law_730 rfl ?_
                                          refine v_iconst G (1 : Int32) dL_law_731 (by decide) ?_
                                          refine v_iadd G dL_law_732 ?_
                                          obtain ⟨v292, q291, h⟩ := bi_ h
                                          refine v_xald G dL_law_733 q291 ?_
                                          refine v_aload_nx G dL_law_734 rfl ?_
                                          refine v_iload_n G dL_law_735 rfl ?_
                                          refine v_iconst G (2 : Int32) dL_law_736 (by decide) ?_
                                          refine v_iadd G dL_law_737 ?_
                                          obtain ⟨v294, q293, h⟩ := bi_ h
                                          refine v_xald G dL_law_738 q293 ?_
                                          refine v_aload_nx G dL_law_739 rfl ?_
                                          refine v_iload_n G dL_law_740 rfl ?_
                                          refine v_iconst G (3 : Int32) dL_law_741 (by decide) ?_
                                          refine v_iadd G dL_law_742 ?_
                                          obtain ⟨v296, q295, h⟩ := bi_ h
                                          refine v_xald G dL_law_743 q295 ?_
                                          obtain ⟨q301, h⟩ := if_s h
                                          obtain ⟨M298, v299, q297, h⟩ := bi2_ h
                                          refine v_callV0 (e_X7_ahead q297) G cl7 my_X7_ahead rfl w1129 w1130 w1128 dL_law_744 q301 rfl (Nat.le_of_ble_eq_true rfl) rfl (Nat.le_of_ble_eq_true rfl) hcn hsn ?_
                                          refine v_ic_eq 1469 G dL_law_747 (by decide) (fun q300 => ?_) (fun q300 => ?_)
                                          · rw [if_pos q300] at h
                                            refine v_iinc (x3 + (6 : Int32)) [some (.float 2), some (.ref x1), some (.ref x2), some (.int (x3 + (6 : Int32)))] G dL_law_1469 rfl rfl (Nat.le_of_ble_eq_true rfl) rfl rfl ?_
                                            refine v_goto 18 G dL_law_1472 (by decide) ?_
                                            exact v_mask [true, true, true, true] rfl (ih _ _ h)
                                          · rw [if_neg q300] at h
                                            cases h
                                        · rw [if_neg q281] at h
                                          rcases Decidable.em ((v3 &&& (63 : Int32)) = (18 : Int32)) with q303 | q303
                                          · rw [if_pos q303] at h
                                            refine v_tabI (off := 719) 752 G dL_law_33 (by rw [q303]; decide) (by rw [q303]; decide) (by rw [q303]; rfl) (by decide) ?_
                                            refine v_aload_n G dL_law_752 rfl ?_
                                            refine v_aload_nx G dL_law_753 rfl ?_
                                            refine v_iload_n G dL_law_754 rfl ?_
                                            refine v_iconst G (1 : Int32) dL_law_755 (by decide) ?_
                                            refine v_iadd G dL_law_756 ?_
                                            obtain ⟨v305, q304, h⟩ := bi_ h
                                            refine v_xald G dL_law_757 q304 ?_
                                            refine v_aload_nx G dL_law_758 rfl ?_
                                            refine v_iload_n G dL_law_759 rfl ?_
                                            refine v_iconst G (2 : Int32) dL_law_760 (by decide) ?_
                                            refine v_iadd G dL_law_761 ?_
                                            obtain ⟨v307, q306, h⟩ := bi_ h
                                            refine v_xald G dL_law_762 q306 ?_
                                            obtain ⟨q320, h⟩ := if_s h
                                            obtain ⟨M309, v310, q308, h⟩ := bi2_ h
                                            refine v_callV0 (e_X6_when q308) G cl6 my_X6_when rfl w582 w583 w581 dL_law_763 q320 rfl (Nat.le_of_ble_eq_true rfl) rfl (Nat.le_of_ble_eq_true rfl) hcn hsn ?_
                                            refine v_aload_n G dL_law_766 rfl ?_
                                            refine v_aload_nx G dL_law_767 rfl ?_
                                            refine v_iload_n G dL_law_768 rfl ?_
                                            refine v_iconst G (1 : Int32) dL_law_769 (by decide) ?_
                                            refine v_iadd G dL_law_770 ?_
                                            obtain ⟨v312, q311, h⟩ := bi_ h
                                            refine v_xald G dL_law_771 q311 ?_
                                            refine v_aload_nx G dL_law_772 rfl ?_
                                            refine v_iload_n G dL_law_773 rfl ?_
                                            refine v_iconst G (2 : Int32) dL_law_774 (by decide) ?_
                                            refine v_iadd G dL_law_775 ?_
                                            obtain ⟨v314, q313, h⟩ := bi_ h
                                            refine v_xald G dL_law_776 q313 ?_
                                            obtain ⟨q319, h⟩ := if_s h
                                            obtain ⟨M316, v317, q315, h⟩ := bi2_ h
                                            refine v_callV0 (e_X7_when q315) G cl7 my_X7_when rfl w1141 w1142 w1140 dL_law_777 q319 rfl (Nat.le_of_ble_eq_true rfl) rfl (Nat.le_of_ble_eq_true rfl) hcn hsn ?_
                                            refine v_ic_eq 1469 G dL_law_780 (by decide) (fun q318 => ?_) (fun q318 => ?_)
                                            · rw [if_pos q318] at h
                                              refine v_iinc (x3 + (6 : Int32)) [some (.float 2), some (.ref x1), some (.ref x2), some (.int (x3 + (6 : Int32)))] G dL_law_1469 rfl rfl (Nat.le_of_ble_eq_true rfl) rfl rfl ?_
                                              refine v_goto 18 G dL_law_1472 (by decide) ?_
                                              exact v_mask [true, true, true, true] rfl (ih _ _ h)
                                            · rw [if_neg q318] at h
                                              cases h
                                          · rw [if_neg q303] at h
                                            rcases Decidable.em ((v3 &&& (63 : Int32)) = (19 : Int32)) with q321 | q321
                                            · rw [if_pos q321] at h
                                              refine v_tabI (off := 752) 785 G dL_law_33 (by rw [q321]; decide) (by rw [q321]; decide) (by rw [q321]; rfl) (by decide) ?_
                                              refine v_aload_n G dL_law_785 rfl ?_
                                              refine v_aload_nx G dL_law_786 rfl ?_
                                              refine v_iload_n G dL_law_787 rfl ?_
                                              refine v_iconst G (1 : Int32) dL_law_788 (by decide) ?_
                                              refine v_iadd G dL_law_789 ?_
                                              obtain ⟨v323, q322, h⟩ := bi_ h
                                              refine v_xald G dL_law_790 q322 ?_
                                              obtain ⟨q333, h⟩ := if_s h
                                              obtain ⟨v325, q324, h⟩ := bi_ h
                                              refine v_callV0 (e_X6_all q324) G cl6 my_X6_all rfl w592 w593 w591 dL_law_791 q333 rfl (Nat.le_of_ble_eq_true rfl) rfl (Nat.le_of_ble_eq_true rfl) hcn hsn ?_
                                              refine v_aload_n G dL_law_794 rfl ?_
                                              refine v_aload_nx G dL_law_795 rfl ?_
                                              refine v_iload_n G dL_law_796 rfl ?_
                                              refine v_iconst G (1 : Int32) dL_law_797 (by decide) ?_
                                              refine v_iadd G dL_law_798 ?_
                                              obtain ⟨v327, q326, h⟩ := bi_ h
                                              refine v_xald G dL_law_799 q326 ?_
                                              obtain ⟨q332, h⟩ := if_s h
                                              obtain ⟨M329, v330, q328, h⟩ := bi2_ h
                                              refine v_callV0 (e_X7_all q328) G cl7 my_X7_all rfl w1145 w1146 w1144 dL_law_800 q332 rfl (Nat.le_of_ble_eq_true rfl) rfl (Nat.le_of_ble_eq_true rfl) hcn hsn ?_
                                              refine v_ic_eq 1469 G dL_law_803 (by decide) (fun q331 => ?_) (fun q331 => ?_)
                                              · rw [if_pos q331] at h
                                                refine v_iinc (x3 + (6 : Int32)) [some (.float 2), some (.ref x1), some (.ref x2), some (.int (x3 + (6 : Int32)))] G dL_law_1469 rfl rfl (Nat.le_of_ble_eq_true rfl) rfl rfl ?_
                                                refine v_goto 18 G dL_law_1472 (by decide) ?_
                                                exact v_mask [true, true, true, true] rfl (ih _ _ h)
                                              · rw [if_neg q331] at h
                                                cases h
                                            · rw [if_neg q321] at h
                                              rcases Decidable.em ((v3 &&& (63 : Int32)) = (20 : Int32)) with q334 | q334
                                              · rw [if_pos q334] at h
                                                refine v_tabI (off := 775) 808 G dL_law_33 (by rw [q334]; decide) (by rw [q334]; decide) (by rw [q334]; rfl) (by decide) ?_
                                                refine v_aload_n G dL_law_808 rfl ?_
                                                refine v_aload_nx G dL_law_809 rfl ?_
                                                refine v_iload_n G dL_law_810 rfl ?_
                                                refine v_iconst G (1 : Int32) dL_law_811 (by decide) ?_
                                                refine v_iadd G dL_law_812 ?_
                                                obtain ⟨v336, q335, h⟩ := bi_ h
                                                refine v_xald G dL_law_813 q335 ?_
                                                obtain ⟨q346, h⟩ := if_s h
                                                obtain ⟨v338, q337, h⟩ := bi_ h
                                                refine v_callV0 (e_X6_follows q337) G cl6 my_X6_follows rfl w604 w605 w603 dL_law_814 q346 rfl (Nat.le_of_ble_eq_true rfl) rfl (Nat.le_of_ble_eq_true rfl) hcn hsn ?_
                                                refine v_aload_n G dL_law_817 rfl ?_
                                                refine v_aload_nx G dL_law_818 rfl ?_
                                                refine v_iload_n G dL_law_819 rfl ?_
                                                refine v_iconst G (1 : Int32) dL_law_820 (by decide) ?_
                                                refine v_iadd G dL_law_821 ?_
                                                obtain ⟨v340, q339, h⟩ := bi_ h
                                                refine v_xald G dL_law_822 q339 ?_
                                                obtain ⟨q345, h⟩ := if_s h
                                                obtain ⟨M342, v343, q341, h⟩ := bi2_ h
                                                refine v_callV0 (e_X7_follows q341) G cl7 my_X7_follows rfl w1152 w1153 w1151 dL_law_823 q345 rfl (Nat.le_of_ble_eq_true rfl) rfl (Nat.le_of_ble_eq_true rfl) hcn hsn ?_
                                                refine v_ic_eq 1469 G dL_law_826 (by decide) (fun q344 => ?_) (fun q344 => ?_)
                                                · rw [if_pos q344] at h
                                                  refine v_iinc (x3 + (6 : Int32)) [some (.float 2), some (.ref x1), some (.ref x2), some (.int (x3 + (6 : Int32)))] G dL_law_1469 rfl rfl (Nat.le_of_ble_eq_true rfl) rfl rfl ?_
                                                  refine v_goto 18 G dL_law_1472 (by decide) ?_
                                                  exact v_mask [true, true, true, true] rfl (ih _ _ h)
                                                · rw [if_neg q344] at h
                                                  cases h
                                              · rw [if_neg q334] at h
                                                rcases Decidable.em ((v3 &&& (63 : Int32)) = (21 : Int32)) with q347 | q347
                                                · rw [if_pos q347] at h
                                                  refine v_tabI (off := 798) 831 G dL_law_33 (by rw [q347]; decide) (by rw [q347]; decide) (by rw [q347]; rfl) (by decide) ?_
                                                  refine v_aload_n G dL_law_831 rfl ?_
                                                  refine v_aload_nx G dL_law_832 rfl ?_
                                                  refine v_iload_n G dL_law_833 rfl ?_
                                                  refine v_iconst G (1 : Int32) dL_law_834 (by decide) ?_
                                                  refine v_iadd G dL_law_835 ?_
                                                  obtain ⟨v349, q348, h⟩ := bi_ h
                                                  refine v_xald G dL_law_836 q348 ?_
                                                  refine v_aload_nx G dL_law_837 rfl ?_
                                                  refine v_iload_n G dL_law_838 rfl ?_
                                                  refine v_iconst G (2 : Int32) dL_law_839 (by decide) ?_
                                                  refine v_iadd G dL_law_840 ?_
                                                  obtain ⟨v351, q350, h⟩ := bi_ h
                                                  refine v_xald G dL_law_841 q350 ?_
                                                  obtain ⟨q363, h⟩ := if_s h
                                                  obtain ⟨v353, q352, h⟩ := bi_ h
                                                  refine v_callV0 (e_X6_lacks q352) G cl6 my_X6_lacks rfl w613 w614 w612 dL_law_842 q363 rfl (Nat.le_of_ble_eq_true rfl) rfl (Nat.le_of_ble_eq_true rfl) hcn hsn ?_
                                                  refine v_aload_n G dL_law_845 rfl ?_
                                                  refine v_aload_nx G dL_law_846 rfl ?_
                                                  refine v_iload_n G dL_law_847 rfl ?_
                                                  refine v_iconst G (1 : Int32) dL_law_848 (by decide) ?_
                                                  refine v_iadd G dL_law_849 ?_
                                                  obtain ⟨v355, q354, h⟩ := bi_ h
                                                  refine v_xald G dL_law_850 q354 ?_
                                                  refine v_aload_nx G dL_law_851 rfl ?_
                                                  refine v_iload_n G dL_law_852 rfl ?_
                                                  refine v_iconst G (2 : Int32) dL_law_853 (by decide) ?_
                                                  refine v_iadd G dL_law_854 ?_
                                                  obtain ⟨v357, q356, h⟩ := bi_ h
                                                  refine v_xald G dL_law_855 q356 ?_
                                                  obtain ⟨q362, h⟩ := if_s h
                                                  obtain ⟨M359, v360, q358, h⟩ := bi2_ h
                                                  refine v_callV0 (e_X7_lacks q358) G cl7 my_X7_lacks rfl w1156 w1157 w1155 dL_law_856 q362 rfl (Nat.le_of_ble_eq_true rfl) rfl (Nat.le_of_ble_eq_true rfl) hcn hsn ?_
                                                  refine v_ic_eq 1469 G dL_law_859 (by decide) (fun q361 => ?_) (fun q361 => ?_)
                                                  · rw [if_pos q361] at h
                                                    refine v_iinc (x3 + (6 : Int32)) [some (.float 2), some (.ref x1), some (.ref x2), some (.int (x3 + (6 : Int32)))] G dL_law_1469 rfl rfl (Nat.le_of_ble_eq_true rfl) rfl rfl ?_
                                                    refine v_goto 18 G dL_law_1472 (by decide) ?_
                                                    exact v_mask [true, true, true, true] rfl (ih _ _ h)
                                                  · rw [if_neg q361] at h
                                                    cases h
                                                · rw [if_neg q347] at h
                                                  rcases Decidable.em ((v3 &&& (63 : Int32)) = (22 : Int32)) with q364 | q364
                                                  · rw [if_pos q364] at h
                                                    refine v_tabI (off := 831) 864 G dL_law_33 (by rw [q364]; decide) (by rw [q364]; decide) (by rw [q364]; rfl) (by decide) ?_
                                                    refine v_aload_n G dL_law_864 rfl ?_
                                                    refine v_aload_nx G dL_law_865 rfl ?_
                                                    refine v_iload_n G dL_law_866 rfl ?_
                                                    refine v_iconst G (1 : Int32) dL_law_867 (by decide) ?_
                                                    refine v_iadd G dL_law_868 ?_
                                                    obtain ⟨v366, q365, h⟩ := bi_ h
                                                    refine v_xald G dL_law_869 q365 ?_
                                                    refine v_aload_nx G dL_law_870 rfl ?_
                                                    refine v_iload_n G dL_law_871 rfl ?_
                                                    refine v_iconst G (2 : Int32) dL_law_872 (by decide) ?_
                                                    refine v_iadd G dL_law_873 ?_
                                                    obtain ⟨v368, q367, h⟩ := bi_ h
                                                    refine v_xald G dL_law_874 q367 ?_
                                                    refine v_aload_nx G dL_law_875 rfl ?_
                                                    refine v_iload_n G dL_law_876 rfl ?_
                                                    refine v_iconst G (3 : Int32) dL_law_877 (by decide) ?_
                                                    refine v_iadd G dL_law_878 ?_
                                                    obtain ⟨v370, q369, h⟩ := bi_ h
                                                    refine v_xald G dL_law_879 q369 ?_
                                                    obtain ⟨q384, h⟩ := if_s h
                                                    obtain ⟨v372, q371, h⟩ := bi_ h
                                                    refine v_callV0 (e_X6_shortest q371) G cl6 my_X6_shortest rfl w621 w622 w620 dL_law_880 q384 rfl (Nat.le_of_ble_eq_true rfl) rfl (Nat.le_of_ble_eq_true rfl) hcn hsn ?_
                                                    refine v_aload_n G dL_law_883 rfl ?_
                                                    refine v_aload_nx G dL_law_884 rfl ?_
                                                    refine v_iload_n G dL_law_885 rfl ?_
                                                    refine v_iconst G (1 : Int32) dL_law_886 (by decide) ?_
                                                    refine v_iadd G dL_law_887 ?_
                                                    obtain ⟨v374, q373, h⟩ := bi_ h
                                                    refine v_xald G dL_law_888 q373 ?_
                                                    refine v_aload_nx G dL_law_889 rfl ?_
                                                    refine v_iload_n G dL_law_890 rfl ?_
                                                    refine v_iconst G (2 : Int32) dL_law_891 (by decide) ?_
                                                    refine v_iadd G dL_law_892 ?_
                                                    obtain ⟨v376, q375, h⟩ := bi_ h
                                                    refine v_xald G dL_law_893 q375 ?_
                                                    refine v_aload_nx G dL_law_894 rfl ?_
                                                    refine v_iload_n G dL_law_895 rfl ?_
                                                    refine v_iconst G (3 : Int32) dL_law_896 (by decide) ?_
                                                    refine v_iadd G dL_law_897 ?_
                                                    obtain ⟨v378, q377, h⟩ := bi_ h
                                                    refine v_xald G dL_law_898 q377 ?_
                                                    obtain ⟨q383, h⟩ := if_s h
                                                    obtain ⟨M380, v381, q379, h⟩ := bi2_ h
                                                    refine v_callV0 (e_X7_shortest q379) G cl7 my_X7_shortest rfl w1164 w1165 w1163 dL_law_899 q383 rfl (Nat.le_of_ble_eq_true rfl) rfl (Nat.le_of_ble_eq_true rfl) hcn hsn ?_
                                                    refine v_ic_eq 1469 G dL_law_902 (by decide) (fun q382 => ?_) (fun q382 => ?_)
                                                    · rw [if_pos q382] at h
                                                      refine v_iinc (x3 + (6 : Int32)) [some (.float 2), some (.ref x1), some (.ref x2), some (.int (x3 + (6 : Int32)))] G dL_law_1469 rfl rfl (Nat.le_of_ble_eq_true rfl) rfl rfl ?_
                                                      refine v_goto 18 G dL_law_1472 (by decide) ?_
                                                      exact v_mask [true, true, true, true] rfl (ih _ _ h)
                                                    · rw [if_neg q382] at h
                                                      cases h
                                                  · rw [if_neg q364] at h
                                                    rcases Decidable.em ((v3 &&& (63 : Int32)) = (23 : Int32)) with q385 | q385
                                                    · rw [if_pos q385] at h
                                                      refine v_tabI (off := 874) 907 G dL_law_33 (by rw [q385]; decide) (by rw [q385]; decide) (by rw [q385]; rfl) (by decide) ?_
                                                      refine v_aload_n G dL_law_907 rfl ?_
                                                      refine v_aload_nx G dL_law_908 rfl ?_
                                                      refine v_iload_n G dL_law_909 rfl ?_
                                                      refine v_iconst G (1 : Int32) dL_law_910 (by decide) ?_
                                                      refine v_iadd G dL_law_911 ?_
                                                      obtain ⟨v387, q386, h⟩ := bi_ h
                                                      refine v_xald G dL_law_912 q386 ?_
                                                      refine v_aload_nx G dL_law_913 rfl ?_
                                                      refine v_iload_n G dL_law_914 rfl ?_
                                                      refine v_iconst G (2 : Int32) dL_law_915 (by decide) ?_
                                                      refine v_iadd G dL_law_916 ?_
                                                      obtain ⟨v389, q388, h⟩ := bi_ h
                                                      refine v_xald G dL_law_917 q388 ?_
                                                      obtain ⟨q402, h⟩ := if_s h
                                                      obtain ⟨M391, v392, q390, h⟩ := bi2_ h
                                                      refine v_callV0 (e_X6_seating q390) G cl6 my_X6_seating rfl w630 w631 w629 dL_law_918 q402 rfl (Nat.le_of_ble_eq_true rfl) rfl (Nat.le_of_ble_eq_true rfl) hcn hsn ?_
                                                      refine v_aload_n G dL_law_921 rfl ?_
                                                      refine v_aload_nx G dL_law_922 rfl ?_
                                                      refine v_iload_n G dL_law_923 rfl ?_
                                                      refine v_iconst G (1 : Int32) dL_law_924 (by decide) ?_
                                                      refine v_iadd G dL_law_925 ?_
                                                      obtain ⟨v394, q393, h⟩ := bi_ h
                                                      refine v_xald G dL_law_926 q393 ?_
                                                      refine v_aload_nx G dL_law_927 rfl ?_
                                                      refine v_iload_n G dL_law_928 rfl ?_
                                                      refine v_iconst G (2 : Int32) dL_law_929 (by decide) ?_
                                                      refine v_iadd G dL_law_930 ?_
                                                      obtain ⟨v396, q395, h⟩ := bi_ h
                                                      refine v_xald G dL_law_931 q395 ?_
                                                      obtain ⟨q401, h⟩ := if_s h
                                                      obtain ⟨M398, v399, q397, h⟩ := bi2_ h
                                                      refine v_callV0 (e_X7_seating q397) G cl7 my_X7_seating rfl w1168 w1169 w1167 dL_law_932 q401 rfl (Nat.le_of_ble_eq_true rfl) rfl (Nat.le_of_ble_eq_true rfl) hcn hsn ?_
                                                      refine v_ic_eq 1469 G dL_law_935 (by decide) (fun q400 => ?_) (fun q400 => ?_)
                                                      · rw [if_pos q400] at h
                                                        refine v_iinc (x3 + (6 : Int32)) [some (.float 2), some (.ref x1), some (.ref x2), some (.int (x3 + (6 : Int32)))] G dL_law_1469 rfl rfl (Nat.le_of_ble_eq_true rfl) rfl rfl ?_
                                                        refine v_goto 18 G dL_law_1472 (by decide) ?_
                                                        exact v_mask [true, true, true, true] rfl (ih _ _ h)
                                                      · rw [if_neg q400] at h
                                                        cases h
                                                    · rw [if_neg q385] at h
                                                      rcases Decidable.em ((v3 &&& (63 : Int32)) = (24 : Int32)) with q403 | q403
                                                      · rw [if_pos q403] at h
                                                        refine v_tabI (off := 907) 940 G dL_law_33 (by rw [q403]; decide) (by rw [q403]; decide) (by rw [q403]; rfl) (by decide) ?_
                                                        refine v_aload_n G dL_law_940 rfl ?_
                                                        refine v_aload_nx G dL_law_941 rfl ?_
                                                        refine v_iload_n G dL_law_942 rfl ?_
                                                        refine v_iconst G (1 : Int32) dL_law_943 (by decide) ?_
                                                        refine v_iadd G dL_law_944 ?_
                                                        obtain ⟨v405, q404, h⟩ := bi_ h
                                                        refine v_xald G dL_law_945 q404 ?_
                                                        refine v_aload_nx G dL_law_946 rfl ?_
                                                        refine v_iload_n G dL_law_947 rfl ?_
                                                        refine v_iconst G (2 : Int32) dL_law_948 (by decide) ?_
                                                        refine v_iadd G dL_law_949 ?_
                                                        obtain ⟨v407, q406, h⟩ := bi_ h
                                                        refine v_xald G dL_law_950 q406 ?_
                                                        obtain ⟨q420, h⟩ := if_s h
                                                        obtain ⟨M409, v410, q408, h⟩ := bi2_ h
                                                        refine v_callV0 (e_X6_table q408) G cl6 my_X6_table rfl w658 w659 w657 dL_law_951 q420 rfl (Nat.le_of_ble_eq_true rfl) rfl (Nat.le_of_ble_eq_true rfl) hcn hsn ?_
                                                        refine v_aload_n G dL_law_954 rfl ?_
                                                        refine v_aload_nx G dL_law_955 rfl ?_
                                                        refine v_iload_n G dL_law_956 rfl ?_
                                                        refine v_iconst G (1 : Int32) dL_law_957 (by decide) ?_
                                                        refine v_iadd G dL_law_958 ?_
                                                        obtain ⟨v412, q411, h⟩ := bi_ h
                                                        refine v_xald G dL_law_959 q411 ?_
                                                        refine v_aload_nx G dL_law_960 rfl ?_
                                                        refine v_iload_n G dL_law_961 rfl ?_
                                                        refine v_iconst G (2 : Int32) dL_law_962 (by decide) ?_
                                                        refine v_iadd G dL_law_963 ?_
                                                        obtain ⟨v414, q413, h⟩ := bi_ h
                                                        refine v_xald G dL_law_964 q413 ?_
                                                        obtain ⟨q419, h⟩ := if_s h
                                                        obtain ⟨M416, v417, q415, h⟩ := bi2_ h
                                                        refine v_callV0 (e_X7_table q415) G cl7 my_X7_table rfl w1177 w1178 w1176 dL_law_965 q419 rfl (Nat.le_of_ble_eq_true rfl) rfl (Nat.le_of_ble_eq_true rfl) hcn hsn ?_
                                                        refine v_ic_eq 1469 G dL_law_968 (by decide) (fun q418 => ?_) (fun q418 => ?_)
                                                        · rw [if_pos q418] at h
                                                          refine v_iinc (x3 + (6 : Int32)) [some (.float 2), some (.ref x1), some (.ref x2), some (.int (x3 + (6 : Int32)))] G dL_law_1469 rfl rfl (Nat.le_of_ble_eq_true rfl) rfl rfl ?_
                                                          refine v_goto 18 G dL_law_1472 (by decide) ?_
                                                          exact v_mask [true, true, true, true] rfl (ih _ _ h)
                                                        · rw [if_neg q418] at h
                                                          cases h
                                                      · rw [if_neg q403] at h
                                                        rcases Decidable.em ((v3 &&& (63 : Int32)) = (25 : Int32)) with q421 | q421
                                                        · rw [if_pos q421] at h
                                                          refine v_tabI (off := 940) 973 G dL_law_33 (by rw [q421]; decide) (by rw [q421]; decide) (by rw [q421]; rfl) (by decide) ?_
                                                          refine v_aload_n G dL_law_973 rfl ?_
                                                          refine v_aload_nx G dL_law_974 rfl ?_
                                                          refine v_iload_n G dL_law_975 rfl ?_
                                                          refine v_iconst G (1 : Int32) dL_law_976 (by decide) ?_
                                                          refine v_iadd G dL_law_977 ?_
                                                          obtain ⟨v423, q422, h⟩ := bi_ h
                                                          refine v_xald G dL_law_978 q422 ?_
                                                          obtain ⟨q433, h⟩ := if_s h
                                                          obtain ⟨v425, q424, h⟩ := bi_ h
                                                          refine v_callV0 (e_X6_questions q424) G cl6 my_X6_questions rfl w676 w677 w675 dL_law_979 q433 rfl (Nat.le_of_ble_eq_true rfl) rfl (Nat.le_of_ble_eq_true rfl) hcn hsn ?_
                                                          refine v_aload_n G dL_law_982 rfl ?_
                                                          refine v_aload_nx G dL_law_983 rfl ?_
                                                          refine v_iload_n G dL_law_984 rfl ?_
                                                          refine v_iconst G (1 : Int32) dL_law_985 (by decide) ?_
                                                          refine v_iadd G dL_law_986 ?_
                                                          obtain ⟨v427, q426, h⟩ := bi_ h
                                                          refine v_xald G dL_law_987 q426 ?_
                                                          obtain ⟨q432, h⟩ := if_s h
                                                          obtain ⟨M429, v430, q428, h⟩ := bi2_ h
                                                          refine v_callV0 (e_X7_questions q428) G cl7 my_X7_questions rfl w1182 w1183 w1181 dL_law_988 q432 rfl (Nat.le_of_ble_eq_true rfl) rfl (Nat.le_of_ble_eq_true rfl) hcn hsn ?_
                                                          refine v_ic_eq 1469 G dL_law_991 (by decide) (fun q431 => ?_) (fun q431 => ?_)
                                                          · rw [if_pos q431] at h
                                                            refine v_iinc (x3 + (6 : Int32)) [some (.float 2), some (.ref x1), some (.ref x2), some (.int (x3 + (6 : Int32)))] G dL_law_1469 rfl rfl (Nat.le_of_ble_eq_true rfl) rfl rfl ?_
                                                            refine v_goto 18 G dL_law_1472 (by decide) ?_
                                                            exact v_mask [true, true, true, true] rfl (ih _ _ h)
                                                          · rw [if_neg q431] at h
                                                            cases h
                                                        · rw [if_neg q421] at h
                                                          rcases Decidable.em ((v3 &&& (63 : Int32)) = (26 : Int32)) with q434 | q434
                                                          · rw [if_pos q434] at h
                                                            refine v_tabI (off := 963) 996 G dL_law_33 (by rw [q434]; decide) (by rw [q434]; decide) (by rw [q434]; rfl) (by decide) ?_
                                                            refine v_aload_n G dL_law_996 rfl ?_
                                                            refine v_aload_nx G dL_law_997 rfl ?_
                                                            refine v_iload_n G dL_law_998 rfl ?_
                                                            refine v_iconst G (1 : Int32) dL_law_999 (by decide) ?_
                                                            refine v_iadd G dL_law_1000 ?_
                                                            obtain ⟨v436, q435, h⟩ := bi_ h
                                                            refine v_xald G dL_law_1001 q435 ?_
                                                            obtain ⟨q446, h⟩ := if_s h
                                                            obtain ⟨v438, q437, h⟩ := bi_ h
                                                            refine v_callV0 (e_X6_top q437) G cl6 my_X6_top rfl w688 w689 w687 dL_law_1002 q446 rfl (Nat.le_of_ble_eq_true rfl) rfl (Nat.le_of_ble_eq_true rfl) hcn hsn ?_
                                                            refine v_aload_n G dL_law_1005 rfl ?_
                                                            refine v_aload_nx G dL_law_1006 rfl ?_
                                                            refine v_iload_n G dL_law_1007 rfl ?_
                                                            refine v_iconst G (1 : Int32) dL_law_1008 (by decide) ?_
                                                            refine v_iadd G dL_law_1009 ?_
                                                            obtain ⟨v440, q439, h⟩ := bi_ h
                                                            refine v_xald G dL_law_1010 q439 ?_
                                                            obtain ⟨q445, h⟩ := if_s h
                                                            obtain ⟨M442, v443, q441, h⟩ := bi2_ h
                                                            refine v_callV0 (e_X7_top q441) G cl7 my_X7_top rfl w1190 w1191 w1189 dL_law_1011 q445 rfl (Nat.le_of_ble_eq_true rfl) rfl (Nat.le_of_ble_eq_true rfl) hcn hsn ?_
                                                            refine v_ic_eq 1469 G dL_law_1014 (by decide) (fun q444 => ?_) (fun q444 => ?_)
                                                            · rw [if_pos q444] at h
                                                              refine v_iinc (x3 + (6 : Int32)) [some (.float 2), some (.ref x1), some (.ref x2), some (.int (x3 + (6 : Int32)))] G dL_law_1469 rfl rfl (Nat.le_of_ble_eq_true rfl) rfl rfl ?_
                                                              refine v_goto 18 G dL_law_1472 (by decide) ?_
                                                              exact v_mask [true, true, true, true] rfl (ih _ _ h)
                                                            · rw [if_neg q444] at h
                                                              cases h
                                                          · rw [if_neg q434] at h
                                                            rcases Decidable.em ((v3 &&& (63 : Int32)) = (27 : Int32)) with q447 | q447
                                                            · rw [if_pos q447] at h
                                                              refine v_tabI (off := 986) 1019 G dL_law_33 (by rw [q447]; decide) (by rw [q447]; decide) (by rw [q447]; rfl) (by decide) ?_
                                                              refine v_aload_n G dL_law_1019 rfl ?_
                                                              refine v_aload_nx G dL_law_1020 rfl ?_
                                                              refine v_iload_n G dL_law_1021 rfl ?_
                                                              refine v_iconst G (1 : Int32) dL_law_1022 (by decide) ?_
                                                              refine v_iadd G dL_law_1023 ?_
                                                              obtain ⟨v449, q448, h⟩ := bi_ h
                                                              refine v_xald G dL_law_1024 q448 ?_
                                                              obtain ⟨q459, h⟩ := if_s h
                                                              obtain ⟨v451, q450, h⟩ := bi_ h
                                                              refine v_callV0 (e_X6_fellows q450) G cl6 my_X6_fellows rfl w696 w697 w695 dL_law_1025 q459 rfl (Nat.le_of_ble_eq_true rfl) rfl (Nat.le_of_ble_eq_true rfl) hcn hsn ?_
                                                              refine v_aload_n G dL_law_1028 rfl ?_
                                                              refine v_aload_nx G dL_law_1029 rfl ?_
                                                              refine v_iload_n G dL_law_1030 rfl ?_
                                                              refine v_iconst G (1 : Int32) dL_law_1031 (by decide) ?_
                                                              refine v_iadd G dL_law_1032 ?_
                                                              obtain ⟨v453, q452, h⟩ := bi_ h
                                                              refine v_xald G dL_law_1033 q452 ?_
                                                              obtain ⟨q458, h⟩ := if_s h
                                                              obtain ⟨M455, v456, q454, h⟩ := bi2_ h
                                                              refine v_callV0 (e_X7_fellows q454) G cl7 my_X7_fellows rfl w1194 w1195 w1193 dL_law_1034 q458 rfl (Nat.le_of_ble_eq_true rfl) rfl (Nat.le_of_ble_eq_true rfl) hcn hsn ?_
                                                              refine v_ic_eq 1469 G dL_law_1037 (by decide) (fun q457 => ?_) (fun q457 => ?_)
                                                              · rw [if_pos q457] at h
                                                                refine v_iinc (x3 + (6 : Int32)) [some (.float 2), some (.ref x1), some (.ref x2), some (.int (x3 + (6 : Int32)))] G dL_law_1469 rfl rfl (Nat.le_of_ble_eq_true rfl) rfl rfl ?_
                                                                refine v_goto 18 G dL_law_1472 (by decide) ?_
                                                                exact v_mask [true, true, true, true] rfl (ih _ _ h)
                                                              · rw [if_neg q457] at h
                                                                cases h
                                                            · rw [if_neg q447] at h
                                                              rcases Decidable.em ((v3 &&& (63 : Int32)) = (28 : Int32)) with q460 | q460
                                                              · rw [if_pos q460] at h
                                                                refine v_tabI (off := 1009) 1042 G dL_law_33 (by rw [q460]; decide) (by rw [q460]; decide) (by rw [q460]; rfl) (by decide) ?_
                                                                refine v_aload_n G dL_law_1042 rfl ?_
                                                                refine v_aload_nx G dL_law_1043 rfl ?_
                                                                refine v_iload_n G dL_law_1044 rfl ?_
                                                                refine v_iconst G (1 : Int32) dL_law_1045 (by decide) ?_
                                                                refine v_iadd G dL_law_1046 ?_
                                                                obtain ⟨v462, q461, h⟩ := bi_ h
                                                                refine v_xald G dL_law_1047 q461 ?_
                                                                refine v_aload_nx G dL_law_1048 rfl ?_
                                                                refine v_iload_n G dL_law_1049 rfl ?_
                                                                refine v_iconst G (2 : Int32) dL_law_1050 (by decide) ?_
                                                                refine v_iadd G dL_law_1051 ?_
                                                                obtain ⟨v464, q463, h⟩ := bi_ h
                                                                refine v_xald G dL_law_1052 q463 ?_
                                                                refine v_aload_nx G dL_law_1053 rfl ?_
                                                                refine v_iload_n G dL_law_1054 rfl ?_
                                                                refine v_iconst G (3 : Int32) dL_law_1055 (by decide) ?_
                                                                refine v_iadd G dL_law_1056 ?_
                                                                obtain ⟨v466, q465, h⟩ := bi_ h
                                                                refine v_xald G dL_law_1057 q465 ?_
                                                                refine v_aload_nx G dL_law_1058 rfl ?_
                                                                refine v_iload_n G dL_law_1059 rfl ?_
                                                                refine v_iconst G (4 : Int32) dL_law_1060 (by decide) ?_
                                                                refine v_iadd G dL_law_1061 ?_
                                                                obtain ⟨v468, q467, h⟩ := bi_ h
                                                                refine v_xald G dL_law_1062 q467 ?_
                                                                refine v_aload_nx G dL_law_1063 rfl ?_
                                                                refine v_iload_n G dL_law_1064 rfl ?_
                                                                refine v_iconst G (5 : Int32) dL_law_1065 (by decide) ?_
                                                                refine v_iadd G dL_law_1066 ?_
                                                                obtain ⟨v470, q469, h⟩ := bi_ h
                                                                refine v_xald G dL_law_1067 q469 ?_
                                                                obtain ⟨q489, h⟩ := if_s h
                                                                obtain ⟨M472, v473, q471, h⟩ := bi2_ h
                                                                refine v_callV0 (e_X6_who q471) G cl6 my_X6_who rfl w704 w705 w703 dL_law_1068 q489 rfl (Nat.le_of_ble_eq_true rfl) rfl (Nat.le_of_ble_eq_true rfl) hcn hsn ?_
                                                                refine v_aload_n G dL_law_1071 rfl ?_
                                                                refine v_aload_nx G dL_law_1072 rfl ?_
                                                                refine v_iload_n G dL_law_1073 rfl ?_
                                                                refine v_iconst G (1 : Int32) dL_law_1074 (by decide) ?_
                                                                refine v_iadd G dL_law_1075 ?_
                                                                obtain ⟨v475, q474, h⟩ := bi_ h
                                                                refine v_xald G dL_law_1076 q474 ?_
                                                                refine v_aload_nx G dL_law_1077 rfl ?_
                                                                refine v_iload_n G dL_law_1078 rfl ?_
                                                                refine v_iconst G (2 : Int32) dL_law_1079 (by decide) ?_
                                                                refine v_iadd G dL_law_1080 ?_
                                                                obtain ⟨v477, q476, h⟩ := bi_ h
                                                                refine v_xald G dL_law_1081 q476 ?_
                                                                refine v_aload_nx G dL_law_1082 rfl ?_
                                                                refine v_iload_n G dL_law_1083 rfl ?_
                                                                refine v_iconst G (3 : Int32) dL_law_1084 (by decide) ?_
                                                                refine v_iadd G dL_law_1085 ?_
                                                                obtain ⟨v479, q478, h⟩ := bi_ h
                                                                refine v_xald G dL_law_1086 q478 ?_
                                                                refine v_aload_nx G dL_law_1087 rfl ?_
                                                                refine v_iload_n G dL_law_1088 rfl ?_
                                                                refine v_iconst G (4 : Int32) dL_law_1089 (by decide) ?_
                                                                refine v_iadd G dL_law_1090 ?_
                                                                obtain ⟨v481, q480, h⟩ := bi_ h
                                                                refine v_xald G dL_law_1091 q480 ?_
                                                                refine v_aload_nx G dL_law_1092 rfl ?_
                                                                refine v_iload_n G dL_law_1093 rfl ?_
                                                                refine v_iconst G (5 : Int32) dL_law_1094 (by decide) ?_
                                                                refine v_iadd G dL_law_1095 ?_
                                                                obtain ⟨v483, q482, h⟩ := bi_ h
                                                                refine v_xald G dL_law_1096 q482 ?_
                                                                obtain ⟨q488, h⟩ := if_s h
                                                                obtain ⟨M485, v486, q484, h⟩ := bi2_ h
                                                                refine v_callV0 (e_X7_who q484) G cl7 my_X7_who rfl w1198 w1199 w1197 dL_law_1097 q488 rfl (Nat.le_of_ble_eq_true rfl) rfl (Nat.le_of_ble_eq_true rfl) hcn hsn ?_
                                                                refine v_ic_eq 1469 G dL_law_1100 (by decide) (fun q487 => ?_) (fun q487 => ?_)
                                                                · rw [if_pos q487] at h
                                                                  refine v_iinc (x3 + (6 : Int32)) [some (.float 2), some (.ref x1), some (.ref x2), some (.int (x3 + (6 : Int32)))] G dL_law_1469 rfl rfl (Nat.le_of_ble_eq_true rfl) rfl rfl ?_
                                                                  refine v_goto 18 G dL_law_1472 (by decide) ?_
                                                                  exact v_mask [true, true, true, true] rfl (ih _ _ h)
                                                                · rw [if_neg q487] at h
                                                                  cases h
                                                              · rw [if_neg q460] at h
                                                                rcases Decidable.em ((v3 &&& (63 : Int32)) = (29 : Int32)) with q490 | q490
                                                                · rw [if_pos q490] at h
                                                                  refine v_tabI (off := 1072) 1105 G dL_law_33 (by rw [q490]; decide) (by rw [q490]; decide) (by rw [q490]; rfl) (by decide) ?_
                                                                  refine v_aload_n G dL_law_1105 rfl ?_
                                                                  refine v_aload_nx G dL_law_1106 rfl ?_
                                                                  refine v_iload_n G dL_law_1107 rfl ?_
                                                                  refine v_iconst G (1 : Int32) dL_law_1108 (by decide) ?_
                                                                  refine v_iadd G dL_law_1109 ?_
                                                                  obtain ⟨v492, q491, h⟩ := bi_ h
                                                                  refine v_xald G dL_law_1110 q491 ?_
                                                                  refine v_aload_nx G dL_law_1111 rfl ?_
                                                                  refine v_iload_n G dL_law_1112 rfl ?_
                                                                  refine v_iconst G (2 : Int32) dL_law_1113 (by decide) ?_
                                                                  refine v_iadd G dL_law_1114 ?_
                                                                  obtain ⟨v494, q493, h⟩ := bi_ h
                                                                  refine v_xald G dL_law_1115 q493 ?_
                                                                  refine v_aload_nx G dL_law_1116 rfl ?_
                                                                  refine v_iload_n G dL_law_1117 rfl ?_
                                                                  refine v_iconst G (3 : Int32) dL_law_1118 (by decide) ?_
                                                                  refine v_iadd G dL_law_1119 ?_
                                                                  obtain ⟨v496, q495, h⟩ := bi_ h
                                                                  refine v_xald G dL_law_1120 q495 ?_
                                                                  refine v_aload_nx G dL_law_1121 rfl ?_
                                                                  refine v_iload_n G dL_law_1122 rfl ?_
                                                                  refine v_iconst G (4 : Int32) dL_law_1123 (by decide) ?_
                                                                  refine v_iadd G dL_law_1124 ?_
                                                                  obtain ⟨v498, q497, h⟩ := bi_ h
                                                                  refine v_xald G dL_law_1125 q497 ?_
                                                                  refine v_aload_nx G dL_law_1126 rfl ?_
                                                                  refine v_iload_n G dL_law_1127 rfl ?_
                                                                  refine v_iconst G (5 : Int32) dL_law_1128 (by decide) ?_
                                                                  refine v_iadd G dL_law_1129 ?_
                                                                  obtain ⟨v500, q499, h⟩ := bi_ h
                                                                  refine v_xald G dL_law_1130 q499 ?_
                                                                  obtain ⟨q519, h⟩ := if_s h
                                                                  obtain ⟨M502, v503, q501, h⟩ := bi2_ h
                                                                  refine v_callV0 (e_X6_what q501) G cl6 my_X6_what rfl w727 w728 w726 dL_law_1131 q519 rfl (Nat.le_of_ble_eq_true rfl) rfl (Nat.le_of_ble_eq_true rfl) hcn hsn ?_
                                                                  refine v_aload_n G dL_law_1134 rfl ?_
                                                                  refine v_aload_nx G dL_law_1135 rfl ?_
                                                                  refine v_iload_n G dL_law_1136 rfl ?_
                                                                  refine v_iconst G (1 : Int32) dL_law_1137 (by decide) ?_
                                                                  refine v_iadd G dL_law_1138 ?_
                                                                  obtain ⟨v505, q504, h⟩ := bi_ h
                                                                  refine v_xald G dL_law_1139 q504 ?_
                                                                  refine v_aload_nx G dL_law_1140 rfl ?_
                                                                  refine v_iload_n G dL_law_1141 rfl ?_
                                                                  refine v_iconst G (2 : Int32) dL_law_1142 (by decide) ?_
                                                                  refine v_iadd G dL_law_1143 ?_
                                                                  obtain ⟨v507, q506, h⟩ := bi_ h
                                                                  refine v_xald G dL_law_1144 q506 ?_
                                                                  refine v_aload_nx G dL_law_1145 rfl ?_
                                                                  refine v_iload_n G dL_law_1146 rfl ?_
                                                                  refine v_iconst G (3 : Int32) dL_law_1147 (by decide) ?_
                                                                  refine v_iadd G dL_law_1148 ?_
                                                                  obtain ⟨v509, q508, h⟩ := bi_ h
                                                                  refine v_xald G dL_law_1149 q508 ?_
                                                                  refine v_aload_nx G dL_law_1150 rfl ?_
                                                                  refine v_iload_n G dL_law_1151 rfl ?_
                                                                  refine v_iconst G (4 : Int32) dL_law_1152 (by decide) ?_
                                                                  refine v_iadd G dL_law_1153 ?_
                                                                  obtain ⟨v511, q510, h⟩ := bi_ h
                                                                  refine v_xald G dL_law_1154 q510 ?_
                                                                  refine v_aload_nx G dL_law_1155 rfl ?_
                                                                  refine v_iload_n G dL_law_1156 rfl ?_
                                                                  refine v_iconst G (5 : Int32) dL_law_1157 (by decide) ?_
                                                                  refine v_iadd G dL_law_1158 ?_
                                                                  obtain ⟨v513, q512, h⟩ := bi_ h
                                                                  refine v_xald G dL_law_1159 q512 ?_
                                                                  obtain ⟨q518, h⟩ := if_s h
                                                                  obtain ⟨M515, v516, q514, h⟩ := bi2_ h
                                                                  refine v_callV0 (e_X7_what q514) G cl7 my_X7_what rfl w1213 w1214 w1212 dL_law_1160 q518 rfl (Nat.le_of_ble_eq_true rfl) rfl (Nat.le_of_ble_eq_true rfl) hcn hsn ?_
                                                                  refine v_ic_eq 1469 G dL_law_1163 (by decide) (fun q517 => ?_) (fun q517 => ?_)
                                                                  · rw [if_pos q517] at h
                                                                    refine v_iinc (x3 + (6 : Int32)) [some (.float 2), some (.ref x1), some (.ref x2), some (.int (x3 + (6 : Int32)))] G dL_law_1469 rfl rfl (Nat.le_of_ble_eq_true rfl) rfl rfl ?_
                                                                    refine v_goto 18 G dL_law_1472 (by decide) ?_
                                                                    exact v_mask [true, true, true, true] rfl (ih _ _ h)
                                                                  · rw [if_neg q517] at h
                                                                    cases h
                                                                · rw [if_neg q490] at h
                                                                  rcases Decidable.em ((v3 &&& (63 : Int32)) = (30 : Int32)) with q520 | q520
                                                                  · rw [if_pos q520] at h
                                                                    refine v_tabI (off := 1135) 1168 G dL_law_33 (by rw [q520]; decide) (by rw [q520]; decide) (by rw [q520]; rfl) (by decide) ?_
                                                                    refine v_aload_n G dL_law_1168 rfl ?_
                                                                    refine v_aload_nx G dL_law_1169 rfl ?_
                                                                    refine v_iload_n G dL_law_1170 rfl ?_
                                                                    refine v_iconst G (1 : Int32) dL_law_1171 (by decide) ?_
                                                                    refine v_iadd G dL_law_1172 ?_
                                                                    obtain ⟨v522, q521, h⟩ := bi_ h
                                                                    refine v_xald G dL_law_1173 q521 ?_
                                                                    refine v_aload_nx G dL_law_1174 rfl ?_
                                                                    refine v_iload_n G dL_law_1175 rfl ?_
                                                                    refine v_iconst G (2 : Int32) dL_law_1176 (by decide) ?_
                                                                    refine v_iadd G dL_law_1177 ?_
                                                                    obtain ⟨v524, q523, h⟩ := bi_ h
                                                                    refine v_xald G dL_law_1178 q523 ?_
                                                                    refine v_aload_nx G dL_law_1179 rfl ?_
                                                                    refine v_iload_n G dL_law_1180 rfl ?_
                                                                    refine v_iconst G (3 : Int32) dL_law_1181 (by decide) ?_
                                                                    refine v_iadd G dL_law_1182 ?_
                                                                    obtain ⟨v526, q525, h⟩ := bi_ h
                                                                    refine v_xald G dL_law_1183 q525 ?_
                                                                    refine v_aload_nx G dL_law_1184 rfl ?_
                                                                    refine v_iload_n G dL_law_1185 rfl ?_
                                                                    refine v_iconst G (4 : Int32) dL_law_1186 (by decide) ?_
                                                                    refine v_iadd G dL_law_1187 ?_
                                                                    obtain ⟨v528, q527, h⟩ := bi_ h
                                                                    refine v_xald G dL_law_1188 q527 ?_
                                                                    refine v_aload_nx G dL_law_1189 rfl ?_
                                                                    refine v_iload_n G dL_law_1190 rfl ?_
                                                                    refine v_iconst G (5 : Int32) dL_law_1191 (by decide) ?_
                                                                    refine v_iadd G dL_law_1192 ?_
                                                                    obtain ⟨v530, q529, h⟩ := bi_ h
                                                                    refine v_xald G dL_law_1193 q529 ?_
                                                                    obtain ⟨q549, h⟩ := if_s h
                                                                    obtain ⟨M532, v533, q531, h⟩ := bi2_ h
                                                                    refine v_callV0 (e_X6_thought q531) G cl6 my_X6_thought rfl w739 w740 w738 dL_law_1194 q549 rfl (Nat.le_of_ble_eq_true rfl) rfl (Nat.le_of_ble_eq_true rfl) hcn hsn ?_
                                                                    refine v_aload_n G dL_law_1197 rfl ?_
                                                                    refine v_aload_nx G dL_law_1198 rfl ?_
                                                                    refine v_iload_n G dL_law_1199 rfl ?_
                                                                    refine v_iconst G (1 : Int32) dL_law_1200 (by decide) ?_
                                                                    refine v_iadd G dL_law_1201 ?_
                                                                    obtain ⟨v535, q534, h⟩ := bi_ h
                                                                    refine v_xald G dL_law_1202 q534 ?_
                                                                    refine v_aload_nx G dL_law_1203 rfl ?_
                                                                    refine v_iload_n G dL_law_1204 rfl ?_
                                                                    refine v_iconst G (2 : Int32) dL_law_1205 (by decide) ?_
                                                                    refine v_iadd G dL_law_1206 ?_
                                                                    obtain ⟨v537, q536, h⟩ := bi_ h
                                                                    refine v_xald G dL_law_1207 q536 ?_
                                                                    refine v_aload_nx G dL_law_1208 rfl ?_
                                                                    refine v_iload_n G dL_law_1209 rfl ?_
                                                                    refine v_iconst G (3 : Int32) dL_law_1210 (by decide) ?_
                                                                    refine v_iadd G dL_law_1211 ?_
                                                                    obtain ⟨v539, q538, h⟩ := bi_ h
                                                                    refine v_xald G dL_law_1212 q538 ?_
                                                                    refine v_aload_nx G dL_law_1213 rfl ?_
                                                                    refine v_iload_n G dL_law_1214 rfl ?_
                                                                    refine v_iconst G (4 : Int32) dL_law_1215 (by decide) ?_
                                                                    refine v_iadd G dL_law_1216 ?_
                                                                    obtain ⟨v541, q540, h⟩ := bi_ h
                                                                    refine v_xald G dL_law_1217 q540 ?_
                                                                    refine v_aload_nx G dL_law_1218 rfl ?_
                                                                    refine v_iload_n G dL_law_1219 rfl ?_
                                                                    refine v_iconst G (5 : Int32) dL_law_1220 (by decide) ?_
                                                                    refine v_iadd G dL_law_1221 ?_
                                                                    obtain ⟨v543, q542, h⟩ := bi_ h
                                                                    refine v_xald G dL_law_1222 q542 ?_
                                                                    obtain ⟨q548, h⟩ := if_s h
                                                                    obtain ⟨M545, v546, q544, h⟩ := bi2_ h
                                                                    refine v_callV0 (e_X7_thought q544) G cl7 my_X7_thought rfl w1217 w1218 w1216 dL_law_1223 q548 rfl (Nat.le_of_ble_eq_true rfl) rfl (Nat.le_of_ble_eq_true rfl) hcn hsn ?_
                                                                    refine v_lcmp G dL_law_1226 ?_
                                                                    refine v_if_eq 1469 G dL_law_1227 (by decide) (fun q547 => ?_) (fun q547 => ?_)
                                                                    · rw [if_pos q547] at h
                                                                      refine v_iinc (x3 + (6 : Int32)) [some (.float 2), some (.ref x1), some (.ref x2), some (.int (x3 + (6 : Int32)))] G dL_law_1469 rfl rfl (Nat.le_of_ble_eq_true rfl) rfl rfl ?_
                                                                      refine v_goto 18 G dL_law_1472 (by decide) ?_
                                                                      exact v_mask [true, true, true, true] rfl (ih _ _ h)
                                                                    · rw [if_neg q547] at h
                                                                      cases h
                                                                  · rw [if_neg q520] at h
                                                                    rcases Decidable.em ((v3 &&& (63 : Int32)) = (31 : Int32)) with q550 | q550
                                                                    · rw [if_pos q550] at h
                                                                      refine v_tabI (off := 1199) 1232 G dL_law_33 (by rw [q550]; decide) (by rw [q550]; decide) (by rw [q550]; rfl) (by decide) ?_
                                                                      refine v_aload_n G dL_law_1232 rfl ?_
                                                                      refine v_aload_nx G dL_law_1233 rfl ?_
                                                                      refine v_iload_n G dL_law_1234 rfl ?_
                                                                      refine v_iconst G (1 : Int32) dL_law_1235 (by decide) ?_
                                                                      refine v_iadd G dL_law_1236 ?_
                                                                      obtain ⟨v552, q551, h⟩ := bi_ h
                                                                      refine v_xald G dL_law_1237 q551 ?_
                                                                      refine v_aload_nx G dL_law_1238 rfl ?_
                                                                      refine v_iload_n G dL_law_1239 rfl ?_
                                                                      refine v_iconst G (2 : Int32) dL_law_1240 (by decide) ?_
                                                                      refine v_iadd G dL_law_1241 ?_
                                                                      obtain ⟨v554, q553, h⟩ := bi_ h
                                                                      refine v_xald G dL_law_1242 q553 ?_
                                                                      refine v_aload_nx G dL_law_1243 rfl ?_
                                                                      refine v_iload_n G dL_law_1244 rfl ?_
                                                                      refine v_iconst G (3 : Int32) dL_law_1245 (by decide) ?_
                                                                      refine v_iadd G dL_law_1246 ?_
                                                                      obtain ⟨v556, q555, h⟩ := bi_ h
                                                                      refine v_xald G dL_law_1247 q555 ?_
                                                                      obtain ⟨q571, h⟩ := if_s h
                                                                      obtain ⟨M558, v559, q557, h⟩ := bi2_ h
                                                                      refine v_callV0 (e_X6_drawn q557) G cl6 my_X6_drawn rfl w761 w762 w760 dL_law_1248 q571 rfl (Nat.le_of_ble_eq_true rfl) rfl (Nat.le_of_ble_eq_true rfl) hcn hsn ?_
                                                                      refine v_aload_n G dL_law_1251 rfl ?_
                                                                      refine v_aload_nx G dL_law_1252 rfl ?_
                                                                      refine v_iload_n G dL_law_1253 rfl ?_
                                                                      refine v_iconst G (1 : Int32) dL_law_1254 (by decide) ?_
                                                                      refine v_iadd G dL_law_1255 ?_
                                                                      obtain ⟨v561, q560, h⟩ := bi_ h
                                                                      refine v_xald G dL_law_1256 q560 ?_
                                                                      refine v_aload_nx G dL_law_1257 rfl ?_
                                                                      refine v_iload_n G dL_law_1258 rfl ?_
                                                                      refine v_iconst G (2 : Int32) dL_law_1259 (by decide) ?_
                                                                      refine v_iadd G dL_law_1260 ?_
                                                                      obtain ⟨v563, q562, h⟩ := bi_ h
                                                                      refine v_xald G dL_law_1261 q562 ?_
                                                                      refine v_aload_nx G dL_law_1262 rfl ?_
                                                                      refine v_iload_n G dL_law_1263 rfl ?_
                                                                      refine v_iconst G (3 : Int32) dL_law_1264 (by decide) ?_
                                                                      refine v_iadd G dL_law_1265 ?_
                                                                      obtain ⟨v565, q564, h⟩ := bi_ h
                                                                      refine v_xald G dL_law_1266 q564 ?_
                                                                      obtain ⟨q570, h⟩ := if_s h
                                                                      obtain ⟨M567, v568, q566, h⟩ := bi2_ h
                                                                      refine v_callV0 (e_X7_drawn q566) G cl7 my_X7_drawn rfl w1224 w1225 w1223 dL_law_1267 q570 rfl (Nat.le_of_ble_eq_true rfl) rfl (Nat.le_of_ble_eq_true rfl) hcn hsn ?_
                                                                      refine v_ic_eq 1469 G dL_law_1270 (by decide) (fun q569 => ?_) (fun q569 => ?_)
                                                                      · rw [if_pos q569] at h
                                                                        refine v_iinc (x3 + (6 : Int32)) [some (.float 2), some (.ref x1), some (.ref x2), some (.int (x3 + (6 : Int32)))] G dL_law_1469 rfl rfl (Nat.le_of_ble_eq_true rfl) rfl rfl ?_
                                                                        refine v_goto 18 G dL_law_1472 (by decide) ?_
                                                                        exact v_mask [true, true, true, true] rfl (ih _ _ h)
                                                                      · rw [if_neg q569] at h
                                                                        cases h
                                                                    · rw [if_neg q550] at h
                                                                      rcases Decidable.em ((v3 &&& (63 : Int32)) = (32 : Int32)) with q572 | q572
                                                                      · rw [if_pos q572] at h
                                                                        refine v_tabI (off := 1242) 1275 G dL_law_33 (by rw [q572]; decide) (by rw [q572]; decide) (by rw [q572]; rfl) (by decide) ?_
                                                                        refine v_aload_n G dL_law_1275 rfl ?_
                                                                        refine v_aload_nx G dL_law_1276 rfl ?_
                                                                        refine v_iload_n G dL_law_1277 rfl ?_
                                                                        refine v_iconst G (1 : Int32) dL_law_1278 (by decide) ?_
                                                                        refine v_iadd G dL_law_1279 ?_
                                                                        obtain ⟨v574, q573, h⟩ := bi_ h
                                                                        refine v_xald G dL_law_1280 q573 ?_
                                                                        obtain ⟨q585, h⟩ := if_s h
                                                                        obtain ⟨M576, v577, q575, h⟩ := bi2_ h
                                                                        refine v_callV0 (e_X6_image q575) G cl6 my_X6_image rfl w778 w779 w777 dL_law_1281 q585 rfl (Nat.le_of_ble_eq_true rfl) rfl (Nat.le_of_ble_eq_true rfl) hcn hsn ?_
                                                                        refine v_aload_n G dL_law_1284 rfl ?_
                                                                        refine v_aload_nx G dL_law_1285 rfl ?_
                                                                        refine v_iload_n G dL_law_1286 rfl ?_
                                                                        refine v_iconst G (1 : Int32) dL_law_1287 (by decide) ?_
                                                                        refine v_iadd G dL_law_1288 ?_
                                                                        obtain ⟨v579, q578, h⟩ := bi_ h
                                                                        refine v_xald G dL_law_1289 q578 ?_
                                                                        obtain ⟨q584, h⟩ := if_s h
                                                                        obtain ⟨M581, v582, q580, h⟩ := bi2_ h
                                                                        refine v_callV0 (e_X7_image q580) G cl7 my_X7_image rfl w1233 w1234 w1232 dL_law_1290 q584 rfl (Nat.le_of_ble_eq_true rfl) rfl (Nat.le_of_ble_eq_true rfl) hcn hsn ?_
                                                                        refine v_ic_eq 1469 G dL_law_1293 (by decide) (fun q583 => ?_) (fun q583 => ?_)
                                                                        · rw [if_pos q583] at h
                                                                          refine v_iinc (x3 + (6 : Int32)) [some (.float 2), some (.ref x1), some (.ref x2), some (.int (x3 + (6 : Int32)))] G dL_law_1469 rfl rfl (Nat.le_of_ble_eq_true rfl) rfl rfl ?_
                                                                          refine v_goto 18 G dL_law_1472 (by decide) ?_
                                                                          exact v_mask [true, true, true, true] rfl (ih _ _ h)
                                                                        · rw [if_neg q583] at h
                                                                          cases h
                                                                      · rw [if_neg q572] at h
                                                                        rcases Decidable.em ((v3 &&& (63 : Int32)) = (33 : Int32)) with q586 | q586
                                                                        · rw [if_pos q586] at h
                                                                          refine v_tabI (off := 1265) 1298 G dL_law_33 (by rw [q586]; decide) (by rw [q586]; decide) (by rw [q586]; rfl) (by decide) ?_
                                                                          refine v_aload_n G dL_law_1298 rfl ?_
                                                                          refine v_aload_nx G dL_law_1299 rfl ?_
                                                                          refine v_iload_n G dL_law_1300 rfl ?_
                                                                          refine v_iconst G (1 : Int32) dL_law_1301 (by decide) ?_
                                                                          refine v_iadd G dL_law_1302 ?_
                                                                          obtain ⟨v588, q587, h⟩ := bi_ h
                                                                          refine v_xald G dL_law_1303 q587 ?_
                                                                          obtain ⟨q599, h⟩ := if_s h
                                                                          obtain ⟨M590, v591, q589, h⟩ := bi2_ h
                                                                          refine v_callV0 (e_X6_restore q589) G cl6 my_X6_restore rfl w782 w783 w781 dL_law_1304 q599 rfl (Nat.le_of_ble_eq_true rfl) rfl (Nat.le_of_ble_eq_true rfl) hcn hsn ?_
                                                                          refine v_aload_n G dL_law_1307 rfl ?_
                                                                          refine v_aload_nx G dL_law_1308 rfl ?_
                                                                          refine v_iload_n G dL_law_1309 rfl ?_
                                                                          refine v_iconst G (1 : Int32) dL_law_1310 (by decide) ?_
                                                                          refine v_iadd G dL_law_1311 ?_
                                                                          obtain ⟨v593, q592, h⟩ := bi_ h
                                                                          refine v_xald G dL_law_1312 q592 ?_
                                                                          obtain ⟨q598, h⟩ := if_s h
                                                                          obtain ⟨M595, v596, q594, h⟩ := bi2_ h
                                                                          refine v_callV0 (e_X7_restore q594) G cl7 my_X7_restore rfl w1237 w1238 w1236 dL_law_1313 q598 rfl (Nat.le_of_ble_eq_true rfl) rfl (Nat.le_of_ble_eq_true rfl) hcn hsn ?_
                                                                          refine v_ic_eq 1469 G dL_law_1316 (by decide) (fun q597 => ?_) (fun q597 => ?_)
                                                                          · rw [if_pos q597] at h
                                                                            refine v_iinc (x3 + (6 : Int32)) [some (.float 2), some (.ref x1), some (.ref x2), some (.int (x3 + (6 : Int32)))] G dL_law_1469 rfl rfl (Nat.le_of_ble_eq_true rfl) rfl rfl ?_
                                                                            refine v_goto 18 G dL_law_1472 (by decide) ?_
                                                                            exact v_mask [true, true, true, true] rfl (ih _ _ h)
                                                                          · rw [if_neg q597] at h
                                                                            cases h
                                                                        · rw [if_neg q586] at h
                                                                          rcases Decidable.em ((v3 &&& (63 : Int32)) = (34 : Int32)) with q600 | q600
                                                                          · rw [if_pos q600] at h
                                                                            refine v_tabI (off := 1288) 1321 G dL_law_33 (by rw [q600]; decide) (by rw [q600]; decide) (by rw [q600]; rfl) (by decide) ?_
                                                                            refine v_aload_n G dL_law_1321 rfl ?_
                                                                            refine v_aload_nx G dL_law_1322 rfl ?_
                                                                            refine v_iload_n G dL_law_1323 rfl ?_
                                                                            refine v_iconst G (1 : Int32) dL_law_1324 (by decide) ?_
                                                                            refine v_iadd G dL_law_1325 ?_
                                                                            obtain ⟨v602, q601, h⟩ := bi_ h
                                                                            refine v_xald G dL_law_1326 q601 ?_
                                                                            obtain ⟨q612, h⟩ := if_s h
                                                                            obtain ⟨v604, q603, h⟩ := bi_ h
                                                                            refine v_callV0 (e_X6_kind q603) G cl6 my_X6_kind rfl w786 w787 w785 dL_law_1327 q612 rfl (Nat.le_of_ble_eq_true rfl) rfl (Nat.le_of_ble_eq_true rfl) hcn hsn ?_
                                                                            refine v_aload_n G dL_law_1330 rfl ?_
                                                                            refine v_aload_nx G dL_law_1331 rfl ?_
                                                                            refine v_iload_n G dL_law_1332 rfl ?_
                                                                            refine v_iconst G (1 : Int32) dL_law_1333 (by decide) ?_
                                                                            refine v_iadd G dL_law_1334 ?_
                                                                            obtain ⟨v606, q605, h⟩ := bi_ h
                                                                            refine v_xald G dL_law_1335 q605 ?_
                                                                            obtain ⟨q611, h⟩ := if_s h
                                                                            obtain ⟨M608, v609, q607, h⟩ := bi2_ h
                                                                            refine v_callV0 (e_X7_kind q607) G cl7 my_X7_kind rfl w1241 w1242 w1240 dL_law_1336 q611 rfl (Nat.le_of_ble_eq_true rfl) rfl (Nat.le_of_ble_eq_true rfl) hcn hsn ?_
                                                                            refine v_ic_eq 1469 G dL_law_1339 (by decide) (fun q610 => ?_) (fun q610 => ?_)
                                                                            · rw [if_pos q610] at h
                                                                              refine v_iinc (x3 + (6 : Int32)) [some (.float 2), some (.ref x1), some (.ref x2), some (.int (x3 + (6 : Int32)))] G dL_law_1469 rfl rfl (Nat.le_of_ble_eq_true rfl) rfl rfl ?_
                                                                              refine v_goto 18 G dL_law_1472 (by decide) ?_
                                                                              exact v_mask [true, true, true, true] rfl (ih _ _ h)
                                                                            · rw [if_neg q610] at h
                                                                              cases h
                                                                          · rw [if_neg q600] at h
                                                                            rcases Decidable.em ((v3 &&& (63 : Int32)) = (35 : Int32)) with q613 | q613
                                                                            · rw [if_pos q613] at h
                                                                              refine v_tabI (off := 1311) 1344 G dL_law_33 (by rw [q613]; decide) (by rw [q613]; decide) (by rw [q613]; rfl) (by decide) ?_
                                                                              refine v_aload_n G dL_law_1344 rfl ?_
                                                                              refine v_aload_nx G dL_law_1345 rfl ?_
                                                                              refine v_iload_n G dL_law_1346 rfl ?_
                                                                              refine v_iconst G (1 : Int32) dL_law_1347 (by decide) ?_
                                                                              refine v_iadd G dL_law_1348 ?_
                                                                              obtain ⟨v615, q614, h⟩ := bi_ h
                                                                              refine v_xald G dL_law_1349 q614 ?_
                                                                              refine v_aload_nx G dL_law_1350 rfl ?_
                                                                              refine v_iload_n G dL_law_1351 rfl ?_
                                                                              refine v_iconst G (2 : Int32) dL_law_1352 (by decide) ?_
                                                                              refine v_iadd G dL_law_1353 ?_
                                                                              obtain ⟨v617, q616, h⟩ := bi_ h
                                                                              refine v_xald G dL_law_1354 q616 ?_
                                                                              obtain ⟨q630, h⟩ := if_s h
                                                                              obtain ⟨M619, v620, q618, h⟩ := bi2_ h
                                                                              refine v_callV0 (e_X6_as q618) G cl6 my_X6_as rfl w790 w791 w789 dL_law_1355 q630 rfl (Nat.le_of_ble_eq_true rfl) rfl (Nat.le_of_ble_eq_true rfl) hcn hsn ?_
                                                                              refine v_aload_n G dL_law_1358 rfl ?_
                                                                              refine v_aload_nx G dL_law_1359 rfl ?_
                                                                              refine v_iload_n G dL_law_1360 rfl ?_
                                                                              refine v_iconst G (1 : Int32) dL_law_1361 (by decide) ?_
                                                                              refine v_iadd G dL_law_1362 ?_
                                                                              obtain ⟨v622, q621, h⟩ := bi_ h
                                                                              refine v_xald G dL_law_1363 q621 ?_
                                                                              refine v_aload_nx G dL_law_1364 rfl ?_
                                                                              refine v_iload_n G dL_law_1365 rfl ?_
                                                                              refine v_iconst G (2 : Int32) dL_law_1366 (by decide) ?_
                                                                              refine v_iadd G dL_law_1367 ?_
                                                                              obtain ⟨v624, q623, h⟩ := bi_ h
                                                                              refine v_xald G dL_law_1368 q623 ?_
                                                                              obtain ⟨q629, h⟩ := if_s h
                                                                              obtain ⟨M626, v627, q625, h⟩ := bi2_ h
                                                                              refine v_callV0 (e_X7_as q625) G cl7 my_X7_as rfl w1245 w1246 w1244 dL_law_1369 q629 rfl (Nat.le_of_ble_eq_true rfl) rfl (Nat.le_of_ble_eq_true rfl) hcn hsn ?_
                                                                              refine v_ic_eq 1469 G dL_law_1372 (by decide) (fun q628 => ?_) (fun q628 => ?_)
                                                                              · rw [if_pos q628] at h
                                                                                refine v_iinc (x3 + (6 : Int32)) [some (.float 2), some (.ref x1), some (.ref x2), some (.int (x3 + (6 : Int32)))] G dL_law_1469 rfl rfl (Nat.le_of_ble_eq_true rfl) rfl rfl ?_
                                                                                refine v_goto 18 G dL_law_1472 (by decide) ?_
                                                                                exact v_mask [true, true, true, true] rfl (ih _ _ h)
                                                                              · rw [if_neg q628] at h
                                                                                cases h
                                                                            · rw [if_neg q613] at h
                                                                              rcases Decidable.em ((v3 &&& (63 : Int32)) = (36 : Int32)) with q631 | q631
                                                                              · rw [if_pos q631] at h
                                                                                refine v_tabI (off := 1344) 1377 G dL_law_33 (by rw [q631]; decide) (by rw [q631]; decide) (by rw [q631]; rfl) (by decide) ?_
                                                                                refine v_aload_n G dL_law_1377 rfl ?_
                                                                                refine v_aload_nx G dL_law_1378 rfl ?_
                                                                                refine v_iload_n G dL_law_1379 rfl ?_
                                                                                refine v_iconst G (1 : Int32) dL_law_1380 (by decide) ?_
                                                                                refine v_iadd G dL_law_1381 ?_
                                                                                obtain ⟨v633, q632, h⟩ := bi_ h
                                                                                refine v_xald G dL_law_1382 q632 ?_
                                                                                refine v_aload_nx G dL_law_1383 rfl ?_
                                                                                refine v_iload_n G dL_law_1384 rfl ?_
                                                                                refine v_iconst G (2 : Int32) dL_law_1385 (by decide) ?_
                                                                                refine v_iadd G dL_law_1386 ?_
                                                                                obtain ⟨v635, q634, h⟩ := bi_ h
                                                                                refine v_xald G dL_law_1387 q634 ?_
                                                                                obtain ⟨q648, h⟩ := if_s h
                                                                                obtain ⟨M637, v638, q636, h⟩ := bi2_ h
                                                                                refine v_callV0 (e_X6_ask q636) G cl6 my_X6_ask rfl w795 w796 w794 dL_law_1388 q648 rfl (Nat.le_of_ble_eq_true rfl) rfl (Nat.le_of_ble_eq_true rfl) hcn hsn ?_
                                                                                refine v_aload_n G dL_law_1391 rfl ?_
                                                                                refine v_aload_nx G dL_law_1392 rfl ?_
                                                                                refine v_iload_n G dL_law_1393 rfl ?_
                                                                                refine v_iconst G (1 : Int32) dL_law_1394 (by decide) ?_
                                                                                refine v_iadd G dL_law_1395 ?_
                                                                                obtain ⟨v640, q639, h⟩ := bi_ h
                                                                                refine v_xald G dL_law_1396 q639 ?_
                                                                                refine v_aload_nx G dL_law_1397 rfl ?_
                                                                                refine v_iload_n G dL_law_1398 rfl ?_
                                                                                refine v_iconst G (2 : Int32) dL_law_1399 (by decide) ?_
                                                                                refine v_iadd G dL_law_1400 ?_
                                                                                obtain ⟨v642, q641, h⟩ := bi_ h
                                                                                refine v_xald G dL_law_1401 q641 ?_
                                                                                obtain ⟨q647, h⟩ := if_s h
                                                                                obtain ⟨M644, v645, q643, h⟩ := bi2_ h
                                                                                refine v_callV0 (e_X7_ask q643) G cl7 my_X7_ask rfl w1253 w1254 w1252 dL_law_1402 q647 rfl (Nat.le_of_ble_eq_true rfl) rfl (Nat.le_of_ble_eq_true rfl) hcn hsn ?_
                                                                                refine v_ic_eq 1469 G dL_law_1405 (by decide) (fun q646 => ?_) (fun q646 => ?_)
                                                                                · rw [if_pos q646] at h
                                                                                  refine v_iinc (x3 + (6 : Int32)) [some (.float 2), some (.ref x1), some (.ref x2), some (.int (x3 + (6 : Int32)))] G dL_law_1469 rfl rfl (Nat.le_of_ble_eq_true rfl) rfl rfl ?_
                                                                                  refine v_goto 18 G dL_law_1472 (by decide) ?_
                                                                                  exact v_mask [true, true, true, true] rfl (ih _ _ h)
                                                                                · rw [if_neg q646] at h
                                                                                  cases h
                                                                              · rw [if_neg q631] at h
                                                                                rcases Decidable.em ((v3 &&& (63 : Int32)) = (37 : Int32)) with q649 | q649
                                                                                · rw [if_pos q649] at h
                                                                                  refine v_tabI (off := 1377) 1410 G dL_law_33 (by rw [q649]; decide) (by rw [q649]; decide) (by rw [q649]; rfl) (by decide) ?_
                                                                                  refine v_aload_n G dL_law_1410 rfl ?_
                                                                                  refine v_aload_nx G dL_law_1411 rfl ?_
                                                                                  refine v_iload_n G dL_law_1412 rfl ?_
                                                                                  refine v_iconst G (1 : Int32) dL_law_1413 (by decide) ?_
                                                                                  refine v_iadd G dL_law_1414 ?_
                                                                                  obtain ⟨v651, q650, h⟩ := bi_ h
                                                                                  refine v_xald G dL_law_1415 q650 ?_
                                                                                  obtain ⟨q661, h⟩ := if_s h
                                                                                  obtain ⟨v653, q652, h⟩ := bi_ h
                                                                                  refine v_callV0 (e_X6_trace q652) G cl6 my_X6_trace rfl w818 w819 w817 dL_law_1416 q661 rfl (Nat.le_of_ble_eq_true rfl) rfl (Nat.le_of_ble_eq_true rfl) hcn hsn ?_
                                                                                  refine v_aload_n G dL_law_1419 rfl ?_
                                                                                  refine v_aload_nx G dL_law_1420 rfl ?_
                                                                                  refine v_iload_n G dL_law_1421 rfl ?_
                                                                                  refine v_iconst G (1 : Int32) dL_law_1422 (by decide) ?_
                                                                                  refine v_iadd G dL_law_1423 ?_
                                                                                  obtain ⟨v655, q654, h⟩ := bi_ h
                                                                                  refine v_xald G dL_law_1424 q654 ?_
                                                                                  obtain ⟨q660, h⟩ := if_s h
                                                                                  obtain ⟨M657, v658, q656, h⟩ := bi2_ h
                                                                                  refine v_callV0 (e_X7_trace q656) G cl7 my_X7_trace rfl w1277 w1278 w1276 dL_law_1425 q660 rfl (Nat.le_of_ble_eq_true rfl) rfl (Nat.le_of_ble_eq_true rfl) hcn hsn ?_
                                                                                  refine v_ic_eq 1469 G dL_law_1428 (by decide) (fun q659 => ?_) (fun q659 => ?_)
                                                                                  · rw [if_pos q659] at h
                                                                                    refine v_iinc (x3 + (6 : Int32)) [some (.float 2), some (.ref x1), some (.ref x2), some (.int (x3 + (6 : Int32)))] G dL_law_1469 rfl rfl (Nat.le_of_ble_eq_true rfl) rfl rfl ?_
                                                                                    refine v_goto 18 G dL_law_1472 (by decide) ?_
                                                                                    exact v_mask [true, true, true, true] rfl (ih _ _ h)
                                                                                  · rw [if_neg q659] at h
                                                                                    cases h
                                                                                · rw [if_neg q649] at h
                                                                                  rcases Decidable.em ((v3 &&& (63 : Int32)) = (38 : Int32)) with q662 | q662
                                                                                  · rw [if_pos q662] at h
                                                                                    refine v_tabI (off := 1400) 1433 G dL_law_33 (by rw [q662]; decide) (by rw [q662]; decide) (by rw [q662]; rfl) (by decide) ?_
                                                                                    refine v_aload_n G dL_law_1433 rfl ?_
                                                                                    refine v_aload_nx G dL_law_1434 rfl ?_
                                                                                    refine v_iload_n G dL_law_1435 rfl ?_
                                                                                    refine v_iconst G (1 : Int32) dL_law_1436 (by decide) ?_
                                                                                    refine v_iadd G dL_law_1437 ?_
                                                                                    obtain ⟨v664, q663, h⟩ := bi_ h
                                                                                    refine v_xald G dL_law_1438 q663 ?_
                                                                                    obtain ⟨q674, h⟩ := if_s h
                                                                                    obtain ⟨v666, q665, h⟩ := bi_ h
                                                                                    refine v_callV0 (e_X6_count q665) G cl6 my_X6_count rfl w822 w823 w821 dL_law_1439 q674 rfl (Nat.le_of_ble_eq_true rfl) rfl (Nat.le_of_ble_eq_true rfl) hcn hsn ?_
                                                                                    refine v_aload_n G dL_law_1442 rfl ?_
                                                                                    refine v_aload_nx G dL_law_1443 rfl ?_
                                                                                    refine v_iload_n G dL_law_1444 rfl ?_
                                                                                    refine v_iconst G (1 : Int32) dL_law_1445 (by decide) ?_
                                                                                    refine v_iadd G dL_law_1446 ?_
                                                                                    obtain ⟨v668, q667, h⟩ := bi_ h
                                                                                    refine v_xald G dL_law_1447 q667 ?_
                                                                                    obtain ⟨q673, h⟩ := if_s h
                                                                                    obtain ⟨M670, v671, q669, h⟩ := bi2_ h
                                                                                    refine v_callV0 (e_X7_count q669) G cl7 my_X7_count rfl w1281 w1282 w1280 dL_law_1448 q673 rfl (Nat.le_of_ble_eq_true rfl) rfl (Nat.le_of_ble_eq_true rfl) hcn hsn ?_
                                                                                    refine v_ic_eq 1469 G dL_law_1451 (by decide) (fun q672 => ?_) (fun q672 => ?_)
                                                                                    · rw [if_pos q672] at h
                                                                                      refine v_iinc (x3 + (6 : Int32)) [some (.float 2), some (.ref x1), some (.ref x2), some (.int (x3 + (6 : Int32)))] G dL_law_1469 rfl rfl (Nat.le_of_ble_eq_true rfl) rfl rfl ?_
                                                                                      refine v_goto 18 G dL_law_1472 (by decide) ?_
                                                                                      exact v_mask [true, true, true, true] rfl (ih _ _ h)
                                                                                    · rw [if_neg q672] at h
                                                                                      cases h
                                                                                  · rw [if_neg q662] at h
                                                                                    rcases Decidable.em ((v3 &&& (63 : Int32)) = (39 : Int32)) with q675 | q675
                                                                                    · rw [if_pos q675] at h
                                                                                      refine v_tabI (off := 1423) 1456 G dL_law_33 (by rw [q675]; decide) (by rw [q675]; decide) (by rw [q675]; rfl) (by decide) ?_
                                                                                      refine v_aload_n G dL_law_1456 rfl ?_
                                                                                      obtain ⟨q683, h⟩ := if_s h
                                                                                      obtain ⟨v677, q676, h⟩ := bi_ h
                                                                                      refine v_callV0 (e_X6_status q676) G cl6 my_X6_status rfl w830 w831 w829 dL_law_1457 q683 rfl (Nat.le_of_ble_eq_true rfl) rfl (Nat.le_of_ble_eq_true rfl) hcn hsn ?_
                                                                                      refine v_aload_n G dL_law_1460 rfl ?_
                                                                                      obtain ⟨q682, h⟩ := if_s h
                                                                                      obtain ⟨M679, v680, q678, h⟩ := bi2_ h
                                                                                      refine v_callV0 (e_X7_status q678) G cl7 my_X7_status rfl w1285 w1286 w1284 dL_law_1461 q682 rfl (Nat.le_of_ble_eq_true rfl) rfl (Nat.le_of_ble_eq_true rfl) hcn hsn ?_
                                                                                      refine v_ic_eq 1469 G dL_law_1464 (by decide) (fun q681 => ?_) (fun q681 => ?_)
                                                                                      · rw [if_pos q681] at h
                                                                                        refine v_iinc (x3 + (6 : Int32)) [some (.float 2), some (.ref x1), some (.ref x2), some (.int (x3 + (6 : Int32)))] G dL_law_1469 rfl rfl (Nat.le_of_ble_eq_true rfl) rfl rfl ?_
                                                                                        refine v_goto 18 G dL_law_1472 (by decide) ?_
                                                                                        exact v_mask [true, true, true, true] rfl (ih _ _ h)
                                                                                      · rw [if_neg q681] at h
                                                                                        cases h
                                                                                    · rw [if_neg q675] at h
                                                                                      have eq4 : ((v3 &&& (63 : Int32))).toInt ≠ 0 := i32_ne q4
                                                                                      have eq26 : ((v3 &&& (63 : Int32))).toInt ≠ 1 := i32_ne q26
                                                                                      have eq48 : ((v3 &&& (63 : Int32))).toInt ≠ 2 := i32_ne q48
                                                                                      have eq78 : ((v3 &&& (63 : Int32))).toInt ≠ 3 := i32_ne q78
                                                                                      have eq92 : ((v3 &&& (63 : Int32))).toInt ≠ 4 := i32_ne q92
                                                                                      have eq106 : ((v3 &&& (63 : Int32))).toInt ≠ 5 := i32_ne q106
                                                                                      have eq116 : ((v3 &&& (63 : Int32))).toInt ≠ 6 := i32_ne q116
                                                                                      have eq125 : ((v3 &&& (63 : Int32))).toInt ≠ 7 := i32_ne q125
                                                                                      have eq135 : ((v3 &&& (63 : Int32))).toInt ≠ 8 := i32_ne q135
                                                                                      have eq149 : ((v3 &&& (63 : Int32))).toInt ≠ 9 := i32_ne q149
                                                                                      have eq167 : ((v3 &&& (63 : Int32))).toInt ≠ 10 := i32_ne q167
                                                                                      have eq185 : ((v3 &&& (63 : Int32))).toInt ≠ 11 := i32_ne q185
                                                                                      have eq203 : ((v3 &&& (63 : Int32))).toInt ≠ 12 := i32_ne q203
                                                                                      have eq221 : ((v3 &&& (63 : Int32))).toInt ≠ 13 := i32_ne q221
                                                                                      have eq238 : ((v3 &&& (63 : Int32))).toInt ≠ 14 := i32_ne q238
                                                                                      have eq255 : ((v3 &&& (63 : Int32))).toInt ≠ 15 := i32_ne q255
                                                                                      have eq268 : ((v3 &&& (63 : Int32))).toInt ≠ 16 := i32_ne q268
                                                                                      have eq281 : ((v3 &&& (63 : Int32))).toInt ≠ 17 := i32_ne q281
                                                                                      have eq303 : ((v3 &&& (63 : Int32))).toInt ≠ 18 := i32_ne q303
                                                                                      have eq321 : ((v3 &&& (63 : Int32))).toInt ≠ 19 := i32_ne q321
                                                                                      have eq334 : ((v3 &&& (63 : Int32))).toInt ≠ 20 := i32_ne q334
                                                                                      have eq347 : ((v3 &&& (63 : Int32))).toInt ≠ 21 := i32_ne q347
                                                                                      have eq364 : ((v3 &&& (63 : Int32))).toInt ≠ 22 := i32_ne q364
                                                                                      have eq385 : ((v3 &&& (63 : Int32))).toInt ≠ 23 := i32_ne q385
                                                                                      have eq403 : ((v3 &&& (63 : Int32))).toInt ≠ 24 := i32_ne q403
                                                                                      have eq421 : ((v3 &&& (63 : Int32))).toInt ≠ 25 := i32_ne q421
                                                                                      have eq434 : ((v3 &&& (63 : Int32))).toInt ≠ 26 := i32_ne q434
                                                                                      have eq447 : ((v3 &&& (63 : Int32))).toInt ≠ 27 := i32_ne q447
                                                                                      have eq460 : ((v3 &&& (63 : Int32))).toInt ≠ 28 := i32_ne q460
                                                                                      have eq490 : ((v3 &&& (63 : Int32))).toInt ≠ 29 := i32_ne q490
                                                                                      have eq520 : ((v3 &&& (63 : Int32))).toInt ≠ 30 := i32_ne q520
                                                                                      have eq550 : ((v3 &&& (63 : Int32))).toInt ≠ 31 := i32_ne q550
                                                                                      have eq572 : ((v3 &&& (63 : Int32))).toInt ≠ 32 := i32_ne q572
                                                                                      have eq586 : ((v3 &&& (63 : Int32))).toInt ≠ 33 := i32_ne q586
                                                                                      have eq600 : ((v3 &&& (63 : Int32))).toInt ≠ 34 := i32_ne q600
                                                                                      have eq613 : ((v3 &&& (63 : Int32))).toInt ≠ 35 := i32_ne q613
                                                                                      have eq631 : ((v3 &&& (63 : Int32))).toInt ≠ 36 := i32_ne q631
                                                                                      have eq649 : ((v3 &&& (63 : Int32))).toInt ≠ 37 := i32_ne q649
                                                                                      have eq662 : ((v3 &&& (63 : Int32))).toInt ≠ 38 := i32_ne q662
                                                                                      have eq675 : ((v3 &&& (63 : Int32))).toInt ≠ 39 := i32_ne q675
                                                                                      refine v_tabO 1469 G dL_law_33 (by omega) (by decide) ?_
                                                                                      refine v_iinc (x3 + (6 : Int32)) [some (.float 2), some (.ref x1), some (.ref x2), some (.int (x3 + (6 : Int32)))] G dL_law_1469 rfl rfl (Nat.le_of_ble_eq_true rfl) rfl rfl ?_
                                                                                      refine v_goto 18 G dL_law_1472 (by decide) ?_
                                                                                      exact v_mask [true, true, true, true] rfl (ih _ _ h)
