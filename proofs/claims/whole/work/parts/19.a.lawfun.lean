/-! the law's loop as a pure function (printed by wip/whole/gen/lawgen.py) -/
noncomputable def b_law (xs : Nat → Int32) (Ls : Nat) (k18 : oa_I3 → oa_J2 → oa_I2 → oa_J2 → Int32 → Option Int32) (B : oa_I3) (J : oa_J2) (M : oa_I2) (K : oa_J2) (x3 : Int32) : Option Int32 :=
  if ((nI Ls) - 5) < x3 then (
    some 1)
  else (
    (oa_rd xs Ls x3).bind fun (y2 : Int32) =>
    if (y2 &&& 63) = 0 then (
      (oa_rd xs Ls (x3 + 1)).bind fun (y5 : Int32) =>
      (oa_rd xs Ls (x3 + 2)).bind fun (y7 : Int32) =>
      (f_X6_feed B J (((Int32.toInt64 y5) <<< (Int32.toInt64 (32 : Int32) &&& 63)) ||| ((Int32.toInt64 y7) &&& 4294967295))).bind <| oa_u fun (y9 : Int32) (B10 : oa_I3) =>
      (oa_rd xs Ls (x3 + 1)).bind fun (y13 : Int32) =>
      (oa_rd xs Ls (x3 + 2)).bind fun (y15 : Int32) =>
      (f_X7_feed M K (((Int32.toInt64 y13) <<< (Int32.toInt64 (32 : Int32) &&& 63)) ||| ((Int32.toInt64 y15) &&& 4294967295))).bind <| oa_u fun (y17 : Int32) (M18 : oa_I2) =>
      if y9 = y17 then (
        k18 B10 J M18 K (x3 + 5))
      else (
        some 0))
    else (
    if (y2 &&& 63) = 1 then (
      (oa_rd xs Ls (x3 + 1)).bind fun (y23 : Int32) =>
      (f_X6_end B J y23).bind <| oa_u fun (y25 : Int32) (B26 : oa_I3) =>
      (oa_rd xs Ls (x3 + 1)).bind fun (y29 : Int32) =>
      (f_X7_end M K y29).bind <| oa_u fun (y31 : Int32) (M32 : oa_I2) =>
      if y25 = y31 then (
        k18 B26 J M32 K (x3 + 5))
      else (
        some 0))
    else (
    if (y2 &&& 63) = 2 then (
      (f_X6_village B J).bind <| oa_u fun (y37 : Int32) (B38 : oa_I3) =>
      (f_X7_village M K).bind <| oa_u fun (y41 : Int32) (M42 : oa_I2) =>
      if y37 = y41 then (
        k18 B38 J M42 K (x3 + 5))
      else (
        some 0))
    else (
    if (y2 &&& 63) = 3 then (
      (f_X6_fault B J).bind fun (y47 : Int32) =>
      (f_X7_fault M K).bind fun (y50 : Int32) =>
      if y47 = y50 then (
        k18 B J M K (x3 + 5))
      else (
        some 0))
    else (
    if (y2 &&& 63) = 4 then (
      (oa_rd xs Ls (x3 + 1)).bind fun (y55 : Int32) =>
      (f_X6_rule B J y55).bind fun (y57 : Int32) =>
      (oa_rd xs Ls (x3 + 1)).bind fun (y60 : Int32) =>
      (f_X7_rule M K y60).bind fun (y62 : Int32) =>
      if y57 = y62 then (
        k18 B J M K (x3 + 5))
      else (
        some 0))
    else (
    if (y2 &&& 63) = 5 then (
      (oa_rd xs Ls (x3 + 1)).bind fun (y67 : Int32) =>
      (oa_rd xs Ls (x3 + 2)).bind fun (y69 : Int32) =>
      (f_X6_one B J y67 y69).bind fun (y71 : Int32) =>
      (oa_rd xs Ls (x3 + 1)).bind fun (y74 : Int32) =>
      (oa_rd xs Ls (x3 + 2)).bind fun (y76 : Int32) =>
      (f_X7_one M K y74 y76).bind fun (y78 : Int32) =>
      if y71 = y78 then (
        k18 B J M K (x3 + 5))
      else (
        some 0))
    else (
    if (y2 &&& 63) = 6 then (
      (oa_rd xs Ls (x3 + 1)).bind fun (y83 : Int32) =>
      (oa_rd xs Ls (x3 + 2)).bind fun (y85 : Int32) =>
      (oa_rd xs Ls (x3 + 3)).bind fun (y87 : Int32) =>
      (f_X6_set B J y83 y85 y87).bind <| oa_u fun (y89 : Int32) (B90 : oa_I3) =>
      (oa_rd xs Ls (x3 + 1)).bind fun (y93 : Int32) =>
      (oa_rd xs Ls (x3 + 2)).bind fun (y95 : Int32) =>
      (oa_rd xs Ls (x3 + 3)).bind fun (y97 : Int32) =>
      (f_X7_set M K y93 y95 y97).bind <| oa_u fun (y99 : Int32) (M100 : oa_I2) =>
      if y89 = y99 then (
        k18 B90 J M100 K (x3 + 5))
      else (
        some 0))
    else (
    if (y2 &&& 63) = 7 then (
      (oa_rd xs Ls (x3 + 1)).bind fun (y105 : Int32) =>
      (oa_rd xs Ls (x3 + 2)).bind fun (y107 : Int32) =>
      (f_X6_old B J y105 y107).bind fun (y109 : Int32) =>
      (oa_rd xs Ls (x3 + 1)).bind fun (y112 : Int32) =>
      (oa_rd xs Ls (x3 + 2)).bind fun (y114 : Int32) =>
      (f_X7_old M K y112 y114).bind fun (y116 : Int32) =>
      if y109 = y116 then (
        k18 B J M K (x3 + 5))
      else (
        some 0))
    else (
    if (y2 &&& 63) = 8 then (
      (oa_rd xs Ls (x3 + 1)).bind fun (y121 : Int32) =>
      (f_X6_got B J y121).bind fun (y123 : Int32) =>
      (oa_rd xs Ls (x3 + 1)).bind fun (y126 : Int32) =>
      (f_X7_got M K y126).bind fun (y128 : Int32) =>
      if y123 = y128 then (
        k18 B J M K (x3 + 5))
      else (
        some 0))
    else (
    if (y2 &&& 63) = 9 then (
      (oa_rd xs Ls (x3 + 1)).bind fun (y133 : Int32) =>
      (oa_rd xs Ls (x3 + 2)).bind fun (y135 : Int32) =>
      (f_X6_point B J y133 y135).bind <| oa_u fun (y137 : Int32) (B138 : oa_I3) =>
      (oa_rd xs Ls (x3 + 1)).bind fun (y141 : Int32) =>
      (oa_rd xs Ls (x3 + 2)).bind fun (y143 : Int32) =>
      (f_X7_point M K y141 y143).bind <| oa_u fun (y145 : Int32) (M146 : oa_I2) =>
      if y137 = y145 then (
        k18 B138 J M146 K (x3 + 5))
      else (
        some 0))
    else (
    if (y2 &&& 63) = 10 then (
      (oa_rd xs Ls (x3 + 1)).bind fun (y151 : Int32) =>
      (oa_rd xs Ls (x3 + 2)).bind fun (y153 : Int32) =>
      (f_X6_rest B J y151 y153).bind <| oa_u fun (y155 : Int32) (B156 : oa_I3) =>
      (oa_rd xs Ls (x3 + 1)).bind fun (y159 : Int32) =>
      (oa_rd xs Ls (x3 + 2)).bind fun (y161 : Int32) =>
      (f_X7_rest M K y159 y161).bind <| oa_u fun (y163 : Int32) (M164 : oa_I2) =>
      if y155 = y163 then (
        k18 B156 J M164 K (x3 + 5))
      else (
        some 0))
    else (
    if (y2 &&& 63) = 11 then (
      (oa_rd xs Ls (x3 + 1)).bind fun (y169 : Int32) =>
      (oa_rd xs Ls (x3 + 2)).bind fun (y171 : Int32) =>
      (f_X6_would B J y169 y171).bind fun (y173 : Int32) =>
      (oa_rd xs Ls (x3 + 1)).bind fun (y176 : Int32) =>
      (oa_rd xs Ls (x3 + 2)).bind fun (y178 : Int32) =>
      (f_X7_would M K y176 y178).bind fun (y180 : Int32) =>
      if y173 = y180 then (
        k18 B J M K (x3 + 5))
      else (
        some 0))
    else (
    if (y2 &&& 63) = 12 then (
      (oa_rd xs Ls (x3 + 1)).bind fun (y185 : Int32) =>
      (oa_rd xs Ls (x3 + 2)).bind fun (y187 : Int32) =>
      (oa_rd xs Ls (x3 + 3)).bind fun (y189 : Int32) =>
      (f_X6_worth B J y185 y187 y189).bind fun (y191 : Int32) =>
      (oa_rd xs Ls (x3 + 1)).bind fun (y194 : Int32) =>
      (oa_rd xs Ls (x3 + 2)).bind fun (y196 : Int32) =>
      (oa_rd xs Ls (x3 + 3)).bind fun (y198 : Int32) =>
      (f_X7_worth M K y194 y196 y198).bind fun (y200 : Int32) =>
      if y191 = y200 then (
        k18 B J M K (x3 + 5))
      else (
        some 0))
    else (
    if (y2 &&& 63) = 13 then (
      (oa_rd xs Ls (x3 + 1)).bind fun (y205 : Int32) =>
      (f_X6_whom B J y205).bind fun (y207 : Int32) =>
      (oa_rd xs Ls (x3 + 1)).bind fun (y210 : Int32) =>
      (f_X7_whom M K y210).bind fun (y212 : Int32) =>
      if y207 = y212 then (
        k18 B J M K (x3 + 5))
      else (
        some 0))
    else (
    if (y2 &&& 63) = 14 then (
      (oa_rd xs Ls (x3 + 1)).bind fun (y217 : Int32) =>
      (oa_rd xs Ls (x3 + 2)).bind fun (y219 : Int32) =>
      (f_X6_wrong B J y217 y219).bind <| oa_u fun (y221 : Int32) (B222 : oa_I3) =>
      (oa_rd xs Ls (x3 + 1)).bind fun (y225 : Int32) =>
      (oa_rd xs Ls (x3 + 2)).bind fun (y227 : Int32) =>
      (f_X7_wrong M K y225 y227).bind <| oa_u fun (y229 : Int32) (M230 : oa_I2) =>
      if y221 = y229 then (
        k18 B222 J M230 K (x3 + 5))
      else (
        some 0))
    else (
    if (y2 &&& 63) = 15 then (
      (oa_rd xs Ls (x3 + 1)).bind fun (y235 : Int32) =>
      (f_X6_go B J y235).bind <| oa_u fun (y237 : Int32) (B238 : oa_I3) =>
      (oa_rd xs Ls (x3 + 1)).bind fun (y241 : Int32) =>
      (f_X7_go M K y241).bind <| oa_u fun (y243 : Int32) (M244 : oa_I2) =>
      if y237 = y243 then (
        k18 B238 J M244 K (x3 + 5))
      else (
        some 0))
    else (
    if (y2 &&& 63) = 16 then (
      (oa_rd xs Ls (x3 + 1)).bind fun (y249 : Int32) =>
      (f_X6_now B J y249).bind fun (y251 : Int32) =>
      (oa_rd xs Ls (x3 + 1)).bind fun (y254 : Int32) =>
      (f_X7_now M K y254).bind fun (y256 : Int32) =>
      if y251 = y256 then (
        k18 B J M K (x3 + 5))
      else (
        some 0))
    else (
    if (y2 &&& 63) = 17 then (
      (oa_rd xs Ls (x3 + 1)).bind fun (y261 : Int32) =>
      (oa_rd xs Ls (x3 + 2)).bind fun (y263 : Int32) =>
      (f_X6_run B J y261 y263).bind <| oa_u fun (y265 : Int32) (B266 : oa_I3) =>
      (oa_rd xs Ls (x3 + 1)).bind fun (y269 : Int32) =>
      (oa_rd xs Ls (x3 + 2)).bind fun (y271 : Int32) =>
      (f_X7_run M K y269 y271).bind <| oa_u fun (y273 : Int32) (M274 : oa_I2) =>
      if y265 = y273 then (
        k18 B266 J M274 K (x3 + 5))
      else (
        some 0))
    else (
    if (y2 &&& 63) = 18 then (
      (f_X6_peace B J).bind <| oa_u fun (y279 : Int32) (B280 : oa_I3) =>
      (f_X7_peace M K).bind <| oa_u fun (y283 : Int32) (M284 : oa_I2) =>
      if y279 = y283 then (
        k18 B280 J M284 K (x3 + 5))
      else (
        some 0))
    else (
    if (y2 &&& 63) = 19 then (
      (oa_rd xs Ls (x3 + 1)).bind fun (y289 : Int32) =>
      (f_X6_again B J y289).bind <| oa_u fun (y291 : Int32) (B292 : oa_I3) =>
      (oa_rd xs Ls (x3 + 1)).bind fun (y295 : Int32) =>
      (f_X7_again M K y295).bind <| oa_u fun (y297 : Int32) (M298 : oa_I2) =>
      if y291 = y297 then (
        k18 B292 J M298 K (x3 + 5))
      else (
        some 0))
    else (
    if (y2 &&& 63) = 20 then (
      (oa_rd xs Ls (x3 + 1)).bind fun (y303 : Int32) =>
      (f_X6_two B J y303).bind <| oa_u fun (y305 : Int32) (B306 : oa_I3) =>
      (oa_rd xs Ls (x3 + 1)).bind fun (y309 : Int32) =>
      (f_X7_two M K y309).bind <| oa_u fun (y311 : Int32) (M312 : oa_I2) =>
      if y305 = y311 then (
        k18 B306 J M312 K (x3 + 5))
      else (
        some 0))
    else (
    if (y2 &&& 63) = 21 then (
      (oa_rd xs Ls (x3 + 1)).bind fun (y317 : Int32) =>
      (oa_rd xs Ls (x3 + 2)).bind fun (y319 : Int32) =>
      (oa_rd xs Ls (x3 + 3)).bind fun (y321 : Int32) =>
      (f_X6_were B J y317 y319 y321).bind <| oa_u fun (y323 : Int32) (B324 : oa_I3) =>
      (oa_rd xs Ls (x3 + 1)).bind fun (y327 : Int32) =>
      (oa_rd xs Ls (x3 + 2)).bind fun (y329 : Int32) =>
      (oa_rd xs Ls (x3 + 3)).bind fun (y331 : Int32) =>
      (f_X7_were M K y327 y329 y331).bind <| oa_u fun (y333 : Int32) (M334 : oa_I2) =>
      if y323 = y333 then (
        k18 B324 J M334 K (x3 + 5))
      else (
        some 0))
    else (
    if (y2 &&& 63) = 22 then (
      (f_X6_open B J).bind fun (y339 : Int64) =>
      (f_X7_open M K).bind fun (y342 : Int64) =>
      if (lg_cmp y339 y342) = 0 then (
        k18 B J M K (x3 + 5))
      else (
        some 0))
    else (
    if (y2 &&& 63) = 23 then (
      (oa_rd xs Ls (x3 + 1)).bind fun (y347 : Int32) =>
      (f_X6_fewest B J y347).bind <| oa_u fun (y349 : Int32) (B350 : oa_I3) =>
      (oa_rd xs Ls (x3 + 1)).bind fun (y353 : Int32) =>
      (f_X7_fewest M K y353).bind <| oa_u fun (y355 : Int32) (M356 : oa_I2) =>
      if y349 = y355 then (
        k18 B350 J M356 K (x3 + 5))
      else (
        some 0))
    else (
    if (y2 &&& 63) = 24 then (
      (f_X6_always B J).bind <| oa_u fun (y361 : Int32) (B362 : oa_I3) =>
      (f_X7_always M K).bind <| oa_u fun (y365 : Int32) (M366 : oa_I2) =>
      if y361 = y365 then (
        k18 B362 J M366 K (x3 + 5))
      else (
        some 0))
    else (
    if (y2 &&& 63) = 25 then (
      (oa_rd xs Ls (x3 + 1)).bind fun (y371 : Int32) =>
      (f_X6_where B J y371).bind <| oa_u fun (y373 : Int32) (B374 : oa_I3) =>
      (oa_rd xs Ls (x3 + 1)).bind fun (y377 : Int32) =>
      (f_X7_where M K y377).bind <| oa_u fun (y379 : Int32) (M380 : oa_I2) =>
      if y373 = y379 then (
        k18 B374 J M380 K (x3 + 5))
      else (
        some 0))
    else (
    if (y2 &&& 63) = 26 then (
      (oa_rd xs Ls (x3 + 1)).bind fun (y385 : Int32) =>
      (oa_rd xs Ls (x3 + 2)).bind fun (y387 : Int32) =>
      (f_X6_hire B J y385 y387).bind fun (y389 : Int32) =>
      (oa_rd xs Ls (x3 + 1)).bind fun (y392 : Int32) =>
      (oa_rd xs Ls (x3 + 2)).bind fun (y394 : Int32) =>
      (f_X7_hire M K y392 y394).bind fun (y396 : Int32) =>
      if y389 = y396 then (
        k18 B J M K (x3 + 5))
      else (
        some 0))
    else (
    if (y2 &&& 63) = 27 then (
      (oa_rd xs Ls (x3 + 1)).bind fun (y401 : Int32) =>
      (f_X6_price B J y401).bind fun (y403 : Int32) =>
      (oa_rd xs Ls (x3 + 1)).bind fun (y406 : Int32) =>
      (f_X7_price M K y406).bind fun (y408 : Int32) =>
      if y403 = y408 then (
        k18 B J M K (x3 + 5))
      else (
        some 0))
    else (
    if (y2 &&& 63) = 28 then (
      (oa_rd xs Ls (x3 + 1)).bind fun (y413 : Int32) =>
      (f_X6_ring B J y413).bind <| oa_u fun (y415 : Int32) (B416 : oa_I3) =>
      (oa_rd xs Ls (x3 + 1)).bind fun (y419 : Int32) =>
      (f_X7_ring M K y419).bind <| oa_u fun (y421 : Int32) (M422 : oa_I2) =>
      if y415 = y421 then (
        k18 B416 J M422 K (x3 + 5))
      else (
        some 0))
    else (
    if (y2 &&& 63) = 29 then (
      (oa_rd xs Ls (x3 + 1)).bind fun (y427 : Int32) =>
      (oa_rd xs Ls (x3 + 2)).bind fun (y429 : Int32) =>
      (oa_rd xs Ls (x3 + 3)).bind fun (y431 : Int32) =>
      (f_X6_odds B J y427 y429 y431).bind <| oa_u fun (y433 : Int64) (J434 : oa_J2) =>
      (oa_rd xs Ls (x3 + 1)).bind fun (y437 : Int32) =>
      (oa_rd xs Ls (x3 + 2)).bind fun (y439 : Int32) =>
      (oa_rd xs Ls (x3 + 3)).bind fun (y441 : Int32) =>
      (f_X7_odds M K y437 y439 y441).bind <| oa_u fun (y443 : Int64) (J444 : oa_J2) =>
      if (lg_cmp y433 y443) = 0 then (
        k18 B J434 M J444 (x3 + 5))
      else (
        some 0))
    else (
    if (y2 &&& 63) = 30 then (
      (oa_rd xs Ls (x3 + 1)).bind fun (y449 : Int32) =>
      (oa_rd xs Ls (x3 + 2)).bind fun (y451 : Int32) =>
      (f_X6_mean B J y449 y451).bind <| oa_u fun (y453 : Int64) (J454 : oa_J2) =>
      (oa_rd xs Ls (x3 + 1)).bind fun (y457 : Int32) =>
      (oa_rd xs Ls (x3 + 2)).bind fun (y459 : Int32) =>
      (f_X7_mean M K y457 y459).bind <| oa_u fun (y461 : Int64) (J462 : oa_J2) =>
      if (lg_cmp y453 y461) = 0 then (
        k18 B J454 M J462 (x3 + 5))
      else (
        some 0))
    else (
    if (y2 &&& 63) = 31 then (
      (oa_rd xs Ls (x3 + 1)).bind fun (y467 : Int32) =>
      (f_X6_likeliest B J y467).bind <| oa_u fun (y469 : Int32) (J470 : oa_J2) =>
      (oa_rd xs Ls (x3 + 1)).bind fun (y473 : Int32) =>
      (f_X7_likeliest M K y473).bind <| oa_u fun (y475 : Int32) (J476 : oa_J2) =>
      if y469 = y475 then (
        k18 B J470 M J476 (x3 + 5))
      else (
        some 0))
    else (
    if (y2 &&& 63) = 32 then (
      (oa_rd xs Ls (x3 + 1)).bind fun (y481 : Int32) =>
      (f_X6_keep B J y481).bind <| oa_u fun (y483 : Int32) (B484 : oa_I3) =>
      (oa_rd xs Ls (x3 + 1)).bind fun (y487 : Int32) =>
      (f_X7_keep M K y487).bind <| oa_u fun (y489 : Int32) (M490 : oa_I2) =>
      if y483 = y489 then (
        k18 B484 J M490 K (x3 + 5))
      else (
        some 0))
    else (
    if (y2 &&& 63) = 33 then (
      (oa_rd xs Ls (x3 + 1)).bind fun (y495 : Int32) =>
      (f_X6_back B J y495).bind <| oa_u fun (y497 : Int32) (B498 : oa_I3) =>
      (oa_rd xs Ls (x3 + 1)).bind fun (y501 : Int32) =>
      (f_X7_back M K y501).bind <| oa_u fun (y503 : Int32) (M504 : oa_I2) =>
      if y497 = y503 then (
        k18 B498 J M504 K (x3 + 5))
      else (
        some 0))
    else (
    if (y2 &&& 63) = 34 then (
      (oa_rd xs Ls (x3 + 1)).bind fun (y509 : Int32) =>
      (oa_rd xs Ls (x3 + 2)).bind fun (y511 : Int32) =>
      (oa_rd xs Ls (x3 + 3)).bind fun (y513 : Int32) =>
      (f_X6_sheet B J y509 y511 y513).bind <| oa_u fun (y515 : Int32) (B516 : oa_I3) =>
      (oa_rd xs Ls (x3 + 1)).bind fun (y519 : Int32) =>
      (oa_rd xs Ls (x3 + 2)).bind fun (y521 : Int32) =>
      (oa_rd xs Ls (x3 + 3)).bind fun (y523 : Int32) =>
      (f_X7_sheet M K y519 y521 y523).bind <| oa_u fun (y525 : Int32) (M526 : oa_I2) =>
      if y515 = y525 then (
        k18 B516 J M526 K (x3 + 5))
      else (
        some 0))
    else (
    if (y2 &&& 63) = 35 then (
      (oa_rd xs Ls (x3 + 1)).bind fun (y531 : Int32) =>
      (oa_rd xs Ls (x3 + 2)).bind fun (y533 : Int32) =>
      (oa_rd xs Ls (x3 + 3)).bind fun (y535 : Int32) =>
      (f_X6_lay B J y531 y533 y535).bind <| oa_u fun (y537 : Int32) (B538 : oa_I3) =>
      (oa_rd xs Ls (x3 + 1)).bind fun (y541 : Int32) =>
      (oa_rd xs Ls (x3 + 2)).bind fun (y543 : Int32) =>
      (oa_rd xs Ls (x3 + 3)).bind fun (y545 : Int32) =>
      (f_X7_lay M K y541 y543 y545).bind <| oa_u fun (y547 : Int32) (M548 : oa_I2) =>
      if y537 = y547 then (
        k18 B538 J M548 K (x3 + 5))
      else (
        some 0))
    else (
    if (y2 &&& 63) = 36 then (
      (oa_rd xs Ls (x3 + 1)).bind fun (y553 : Int32) =>
      (oa_rd xs Ls (x3 + 2)).bind fun (y555 : Int32) =>
      (oa_rd xs Ls (x3 + 3)).bind fun (y557 : Int32) =>
      (oa_rd xs Ls (x3 + 4)).bind fun (y559 : Int32) =>
      (f_X6_read B J y553 y555 y557 y559).bind <| oa_u fun (y561 : Int32) (B562 : oa_I3) =>
      (oa_rd xs Ls (x3 + 1)).bind fun (y565 : Int32) =>
      (oa_rd xs Ls (x3 + 2)).bind fun (y567 : Int32) =>
      (oa_rd xs Ls (x3 + 3)).bind fun (y569 : Int32) =>
      (oa_rd xs Ls (x3 + 4)).bind fun (y571 : Int32) =>
      (f_X7_read M K y565 y567 y569 y571).bind <| oa_u fun (y573 : Int32) (M574 : oa_I2) =>
      if y561 = y573 then (
        k18 B562 J M574 K (x3 + 5))
      else (
        some 0))
    else (
    if (y2 &&& 63) = 37 then (
      (f_X6_torn B J).bind fun (y579 : Int32) =>
      (f_X7_torn M K).bind fun (y582 : Int32) =>
      if y579 = y582 then (
        k18 B J M K (x3 + 5))
      else (
        some 0))
    else (
    if (y2 &&& 63) = 38 then (
      (oa_rd xs Ls (x3 + 1)).bind fun (y587 : Int32) =>
      (f_X6_count B J y587).bind fun (y589 : Int32) =>
      (oa_rd xs Ls (x3 + 1)).bind fun (y592 : Int32) =>
      (f_X7_count M K y592).bind fun (y594 : Int32) =>
      if y589 = y594 then (
        k18 B J M K (x3 + 5))
      else (
        some 0))
    else (
    k18 B J M K (x3 + 5)))))))))))))))))))))))))))))))))))))))))
