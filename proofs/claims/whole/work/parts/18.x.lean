def f_law_b248 (c23 : xSt → Int → Option xSt) (r1 : Nat) (r2 : Nat) (r3 : Nat) (L : Nat) (sc : Nat → Int) (S : xSt) (x4 : Int) : Option xSt :=
  ckI (x4 + 1) L <|
  ckI (x4 + 2) L <|
  ckI (x4 + 3) L <|
  ckI (x4 + 4) L <|
  ckI (x4 + 5) L <|
  bd2 (f_X11_feed_p3_0 S r1 (sc (wr (x4 + 1)).toNat) (sc (wr (x4 + 2)).toNat) (sc (wr (x4 + 3)).toNat) (sc (wr (x4 + 4)).toNat) (sc (wr (x4 + 5)).toNat)) fun v10 S9 =>
  ckI (x4 + 1) L <|
  ckI (x4 + 2) L <|
  ckI (x4 + 3) L <|
  ckI (x4 + 4) L <|
  ckI (x4 + 5) L <|
  bd2 (f_X12_feed_p4_0 S9 r2 (sc (wr (x4 + 1)).toNat) (sc (wr (x4 + 2)).toNat) (sc (wr (x4 + 3)).toNat) (sc (wr (x4 + 4)).toNat) (sc (wr (x4 + 5)).toNat)) fun v19 S18 =>
  if wr v10 = wr v19 then
    (c23 S18 (x4 + 6))
  else
    (none)
def f_law_b321 (c23 : xSt → Int → Option xSt) (r1 : Nat) (r2 : Nat) (r3 : Nat) (L : Nat) (sc : Nat → Int) (S : xSt) (x4 : Int) : Option xSt :=
  ckI (x4 + 1) L <|
  bd2 (f_X11_truncate_p3_0 S r1 (sc (wr (x4 + 1)).toNat)) fun v26 S25 =>
  ckI (x4 + 1) L <|
  bd2 (f_X12_truncate_p4_0 S25 r2 (sc (wr (x4 + 1)).toNat)) fun v31 S30 =>
  if wr v26 = wr v31 then
    (c23 S30 (x4 + 6))
  else
    (none)
def f_law_b346 (c23 : xSt → Int → Option xSt) (r1 : Nat) (r2 : Nat) (r3 : Nat) (L : Nat) (sc : Nat → Int) (S : xSt) (x4 : Int) : Option xSt :=
  bd2 (f_X11_parse_p3_0 S r1) fun v37 S36 =>
  bd2 (f_X12_parse_p4_0 S36 r2) fun v41 S40 =>
  if wr v37 = wr v41 then
    (c23 S40 (x4 + 6))
  else
    (none)
def f_law_b359 (c23 : xSt → Int → Option xSt) (r1 : Nat) (r2 : Nat) (r3 : Nat) (L : Nat) (sc : Nat → Int) (S : xSt) (x4 : Int) : Option xSt :=
  bd2 (f_X11_errorCode_p3_0 S r1) fun v47 S46 =>
  bd2 (f_X12_errorCode_p4_0 S46 r2) fun v51 S50 =>
  if wr v47 = wr v51 then
    (c23 S50 (x4 + 6))
  else
    (none)
def f_law_b372 (c23 : xSt → Int → Option xSt) (r1 : Nat) (r2 : Nat) (r3 : Nat) (L : Nat) (sc : Nat → Int) (S : xSt) (x4 : Int) : Option xSt :=
  bd2 (f_X11_errorOffset_p3_0 S r1) fun v57 S56 =>
  bd2 (f_X12_errorOffset_p4_0 S56 r2) fun v61 S60 =>
  if wr v57 = wr v61 then
    (c23 S60 (x4 + 6))
  else
    (none)
def f_law_b385 (c23 : xSt → Int → Option xSt) (r1 : Nat) (r2 : Nat) (r3 : Nat) (L : Nat) (sc : Nat → Int) (S : xSt) (x4 : Int) : Option xSt :=
  ckI (x4 + 1) L <|
  bd2 (f_X11_count_p3_0 S r1 (sc (wr (x4 + 1)).toNat)) fun v68 S67 =>
  ckI (x4 + 1) L <|
  bd2 (f_X12_count_p4_0 S67 r2 (sc (wr (x4 + 1)).toNat)) fun v73 S72 =>
  if wr v68 = wr v73 then
    (c23 S72 (x4 + 6))
  else
    (none)
def f_law_b410 (c23 : xSt → Int → Option xSt) (r1 : Nat) (r2 : Nat) (r3 : Nat) (L : Nat) (sc : Nat → Int) (S : xSt) (x4 : Int) : Option xSt :=
  ckI (x4 + 1) L <|
  ckI (x4 + 2) L <|
  bd2 (f_L_instruction_p3_0_5_0 S r1 (sc (wr (x4 + 1)).toNat) (sc (wr (x4 + 2)).toNat) r3) fun v81 S80 =>
  ckI (x4 + 1) L <|
  ckI (x4 + 2) L <|
  bd2 (f_X12_instruction_p4_0 S80 r2 (sc (wr (x4 + 1)).toNat) (sc (wr (x4 + 2)).toNat)) fun v87 S86 =>
  bd2 (f_X12_thrown_p4_0 S86 r2) fun v91 S90 =>
  if wr v91 = wr v81 then
    (if ¬ wr v81 = 0 then
      (c23 S90 (x4 + 6))
    else
      (if wr (iC (wl (wr (gI S90 r3 0 0))) (wl (wr v87))) = 0 then
        (c23 S90 (x4 + 6))
      else
        (none)))
  else
    (none)
def f_law_b478 (c23 : xSt → Int → Option xSt) (r1 : Nat) (r2 : Nat) (r3 : Nat) (L : Nat) (sc : Nat → Int) (S : xSt) (x4 : Int) : Option xSt :=
  ckI (x4 + 1) L <|
  bd2 (f_X11_at_p3_0 S r1 (sc (wr (x4 + 1)).toNat)) fun v100 S99 =>
  ckI (x4 + 1) L <|
  bd2 (f_X12_at_p4_0 S99 r2 (sc (wr (x4 + 1)).toNat)) fun v105 S104 =>
  if wr v100 = wr v105 then
    (c23 S104 (x4 + 6))
  else
    (none)
def f_law_b503 (c23 : xSt → Int → Option xSt) (r1 : Nat) (r2 : Nat) (r3 : Nat) (L : Nat) (sc : Nat → Int) (S : xSt) (x4 : Int) : Option xSt :=
  ckI (x4 + 1) L <|
  bd2 (f_L_crosses_p3_0_5_0 S r1 (sc (wr (x4 + 1)).toNat) r3) fun v112 S111 =>
  ckI (x4 + 1) L <|
  bd2 (f_X12_crosses_p4_0 S111 r2 (sc (wr (x4 + 1)).toNat)) fun v117 S116 =>
  bd2 (f_X12_thrown_p4_0 S116 r2) fun v121 S120 =>
  if wr v121 = wr v112 then
    (if ¬ wr v112 = 0 then
      (c23 S120 (x4 + 6))
    else
      (if wr v117 = 0 then
        (if wr (iC (wl (wr (gI S120 r3 0 0))) (wl 0)) = 0 then
          (c23 S120 (x4 + 6))
        else
          (none))
      else
        (if wr (iC (wl (wr (gI S120 r3 0 0))) (wl 1)) = 0 then
          (c23 S120 (x4 + 6))
        else
          (none))))
  else
    (none)
def f_law_b566 (c23 : xSt → Int → Option xSt) (r1 : Nat) (r2 : Nat) (r3 : Nat) (L : Nat) (sc : Nat → Int) (S : xSt) (x4 : Int) : Option xSt :=
  ckI (x4 + 1) L <|
  bd2 (f_L_fuses_p3_0_5_0 S r1 (sc (wr (x4 + 1)).toNat) r3) fun v132 S131 =>
  ckI (x4 + 1) L <|
  bd2 (f_X12_fuses_p4_0 S131 r2 (sc (wr (x4 + 1)).toNat)) fun v137 S136 =>
  bd2 (f_X12_thrown_p4_0 S136 r2) fun v141 S140 =>
  if wr v141 = wr v132 then
    (if ¬ wr v132 = 0 then
      (c23 S140 (x4 + 6))
    else
      (if wr v137 = 0 then
        (if wr (iC (wl (wr (gI S140 r3 0 0))) (wl 0)) = 0 then
          (c23 S140 (x4 + 6))
        else
          (none))
      else
        (if wr (iC (wl (wr (gI S140 r3 0 0))) (wl 1)) = 0 then
          (c23 S140 (x4 + 6))
        else
          (none))))
  else
    (none)
def f_law_b629 (c23 : xSt → Int → Option xSt) (r1 : Nat) (r2 : Nat) (r3 : Nat) (L : Nat) (sc : Nat → Int) (S : xSt) (x4 : Int) : Option xSt :=
  ckI (x4 + 1) L <|
  bd2 (f_L_isLoopable_p3_0_5_0 S r1 (sc (wr (x4 + 1)).toNat) r3) fun v152 S151 =>
  ckI (x4 + 1) L <|
  bd2 (f_X12_isLoopable_p4_0 S151 r2 (sc (wr (x4 + 1)).toNat)) fun v157 S156 =>
  bd2 (f_X12_thrown_p4_0 S156 r2) fun v161 S160 =>
  if wr v161 = wr v152 then
    (if ¬ wr v152 = 0 then
      (c23 S160 (x4 + 6))
    else
      (if wr v157 = 0 then
        (if wr (iC (wl (wr (gI S160 r3 0 0))) (wl 0)) = 0 then
          (c23 S160 (x4 + 6))
        else
          (none))
      else
        (if wr (iC (wl (wr (gI S160 r3 0 0))) (wl 1)) = 0 then
          (c23 S160 (x4 + 6))
        else
          (none))))
  else
    (none)
def f_law_b692 (c23 : xSt → Int → Option xSt) (r1 : Nat) (r2 : Nat) (r3 : Nat) (L : Nat) (sc : Nat → Int) (S : xSt) (x4 : Int) : Option xSt :=
  bd2 (f_X11_fusable_p3_0 S r1) fun v171 S170 =>
  bd2 (f_X12_fusable_p4_0 S170 r2) fun v175 S174 =>
  if wr v171 = wr v175 then
    (c23 S174 (x4 + 6))
  else
    (none)
def f_law_b705 (c23 : xSt → Int → Option xSt) (r1 : Nat) (r2 : Nat) (r3 : Nat) (L : Nat) (sc : Nat → Int) (S : xSt) (x4 : Int) : Option xSt :=
  bd2 (f_X11_crossing_p3_0 S r1) fun v181 S180 =>
  bd2 (f_X12_crossing_p4_0 S180 r2) fun v185 S184 =>
  if wr v181 = wr v185 then
    (c23 S184 (x4 + 6))
  else
    (none)
def f_law_b718 (c23 : xSt → Int → Option xSt) (r1 : Nat) (r2 : Nat) (r3 : Nat) (L : Nat) (sc : Nat → Int) (S : xSt) (x4 : Int) : Option xSt :=
  ckI (x4 + 1) L <|
  ckI (x4 + 2) L <|
  if wr (sc (wr (x4 + 2)).toNat) = 0 then
    (bd2 (f_L_ofKind_p3_0_5_0 S r1 (sc (wr (x4 + 1)).toNat) 0 r3) fun v193 S192 =>
    ckI (x4 + 1) L <|
    ckI (x4 + 2) L <|
    if wr (sc (wr (x4 + 2)).toNat) = 0 then
      (bd2 (f_X12_ofKind_p4_0 S192 r2 (sc (wr (x4 + 1)).toNat) 0) fun v199 S198 =>
      bd2 (f_X12_thrown_p4_0 S198 r2) fun v203 S202 =>
      if wr v203 = wr v193 then
        (if ¬ wr v193 = 0 then
          (c23 S202 (x4 + 6))
        else
          (if wr (iC (wl (wr (gI S202 r3 0 0))) (wl (wr v199))) = 0 then
            (c23 S202 (x4 + 6))
          else
            (none)))
      else
        (none))
    else
      (bd2 (f_X12_ofKind_p4_0 S192 r2 (sc (wr (x4 + 1)).toNat) 1) fun v210 S209 =>
      bd2 (f_X12_thrown_p4_0 S209 r2) fun v214 S213 =>
      if wr v214 = wr v193 then
        (if ¬ wr v193 = 0 then
          (c23 S213 (x4 + 6))
        else
          (if wr (iC (wl (wr (gI S213 r3 0 0))) (wl (wr v210))) = 0 then
            (c23 S213 (x4 + 6))
          else
            (none)))
      else
        (none)))
  else
    (bd2 (f_L_ofKind_p3_0_5_0 S r1 (sc (wr (x4 + 1)).toNat) 1 r3) fun v222 S221 =>
    ckI (x4 + 1) L <|
    ckI (x4 + 2) L <|
    if wr (sc (wr (x4 + 2)).toNat) = 0 then
      (bd2 (f_X12_ofKind_p4_0 S221 r2 (sc (wr (x4 + 1)).toNat) 0) fun v228 S227 =>
      bd2 (f_X12_thrown_p4_0 S227 r2) fun v232 S231 =>
      if wr v232 = wr v222 then
        (if ¬ wr v222 = 0 then
          (c23 S231 (x4 + 6))
        else
          (if wr (iC (wl (wr (gI S231 r3 0 0))) (wl (wr v228))) = 0 then
            (c23 S231 (x4 + 6))
          else
            (none)))
      else
        (none))
    else
      (bd2 (f_X12_ofKind_p4_0 S221 r2 (sc (wr (x4 + 1)).toNat) 1) fun v239 S238 =>
      bd2 (f_X12_thrown_p4_0 S238 r2) fun v243 S242 =>
      if wr v243 = wr v222 then
        (if ¬ wr v222 = 0 then
          (c23 S242 (x4 + 6))
        else
          (if wr (iC (wl (wr (gI S242 r3 0 0))) (wl (wr v239))) = 0 then
            (c23 S242 (x4 + 6))
          else
            (none)))
      else
        (none)))
def f_law_b802 (c23 : xSt → Int → Option xSt) (r1 : Nat) (r2 : Nat) (r3 : Nat) (L : Nat) (sc : Nat → Int) (S : xSt) (x4 : Int) : Option xSt :=
  ckI (x4 + 1) L <|
  ckI (x4 + 2) L <|
  if wr (sc (wr (x4 + 2)).toNat) = 0 then
    (bd2 (f_L_rule_p3_0_5_0 S r1 (sc (wr (x4 + 1)).toNat) 0 r3) fun v255 S254 =>
    ckI (x4 + 1) L <|
    ckI (x4 + 2) L <|
    if wr (sc (wr (x4 + 2)).toNat) = 0 then
      (bd2 (f_X12_rule_p4_0 S254 r2 (sc (wr (x4 + 1)).toNat) 0) fun v261 S260 =>
      bd2 (f_X12_thrown_p4_0 S260 r2) fun v265 S264 =>
      if wr v265 = wr v255 then
        (if ¬ wr v255 = 0 then
          (c23 S264 (x4 + 6))
        else
          (if wr (iC (wl (wr (gI S264 r3 0 0))) (wl (wr v261))) = 0 then
            (c23 S264 (x4 + 6))
          else
            (none)))
      else
        (none))
    else
      (bd2 (f_X12_rule_p4_0 S254 r2 (sc (wr (x4 + 1)).toNat) 1) fun v272 S271 =>
      bd2 (f_X12_thrown_p4_0 S271 r2) fun v276 S275 =>
      if wr v276 = wr v255 then
        (if ¬ wr v255 = 0 then
          (c23 S275 (x4 + 6))
        else
          (if wr (iC (wl (wr (gI S275 r3 0 0))) (wl (wr v272))) = 0 then
            (c23 S275 (x4 + 6))
          else
            (none)))
      else
        (none)))
  else
    (bd2 (f_L_rule_p3_0_5_0 S r1 (sc (wr (x4 + 1)).toNat) 1 r3) fun v284 S283 =>
    ckI (x4 + 1) L <|
    ckI (x4 + 2) L <|
    if wr (sc (wr (x4 + 2)).toNat) = 0 then
      (bd2 (f_X12_rule_p4_0 S283 r2 (sc (wr (x4 + 1)).toNat) 0) fun v290 S289 =>
      bd2 (f_X12_thrown_p4_0 S289 r2) fun v294 S293 =>
      if wr v294 = wr v284 then
        (if ¬ wr v284 = 0 then
          (c23 S293 (x4 + 6))
        else
          (if wr (iC (wl (wr (gI S293 r3 0 0))) (wl (wr v290))) = 0 then
            (c23 S293 (x4 + 6))
          else
            (none)))
      else
        (none))
    else
      (bd2 (f_X12_rule_p4_0 S283 r2 (sc (wr (x4 + 1)).toNat) 1) fun v301 S300 =>
      bd2 (f_X12_thrown_p4_0 S300 r2) fun v305 S304 =>
      if wr v305 = wr v284 then
        (if ¬ wr v284 = 0 then
          (c23 S304 (x4 + 6))
        else
          (if wr (iC (wl (wr (gI S304 r3 0 0))) (wl (wr v301))) = 0 then
            (c23 S304 (x4 + 6))
          else
            (none)))
      else
        (none)))
def f_law_b886 (c23 : xSt → Int → Option xSt) (r1 : Nat) (r2 : Nat) (r3 : Nat) (L : Nat) (sc : Nat → Int) (S : xSt) (x4 : Int) : Option xSt :=
  ckI (x4 + 1) L <|
  bd2 (f_L_queueAt_p3_0_5_0 S r1 (sc (wr (x4 + 1)).toNat) r3) fun v316 S315 =>
  ckI (x4 + 1) L <|
  bd2 (f_X12_queueAt_p4_0 S315 r2 (sc (wr (x4 + 1)).toNat)) fun v321 S320 =>
  bd2 (f_X12_thrown_p4_0 S320 r2) fun v325 S324 =>
  if wr v325 = wr v316 then
    (if ¬ wr v316 = 0 then
      (c23 S324 (x4 + 6))
    else
      (if wr (iC (wl (wr (gI S324 r3 0 0))) (wl (wr v321))) = 0 then
        (c23 S324 (x4 + 6))
      else
        (none)))
  else
    (none)
def f_law_b942 (c23 : xSt → Int → Option xSt) (r1 : Nat) (r2 : Nat) (r3 : Nat) (L : Nat) (sc : Nat → Int) (S : xSt) (x4 : Int) : Option xSt :=
  ckI (x4 + 1) L <|
  bd2 (f_L_loop_p3_0_5_0 S r1 (sc (wr (x4 + 1)).toNat) r3) fun v334 S333 =>
  ckI (x4 + 1) L <|
  bd2 (f_X12_loop_p4_0 S333 r2 (sc (wr (x4 + 1)).toNat)) fun v339 S338 =>
  bd2 (f_X12_thrown_p4_0 S338 r2) fun v343 S342 =>
  if wr v343 = wr v334 then
    (if ¬ wr v334 = 0 then
      (c23 S342 (x4 + 6))
    else
      (if wr (iC (wl (wr (gI S342 r3 0 0))) (wl (wr v339))) = 0 then
        (c23 S342 (x4 + 6))
      else
        (none)))
  else
    (none)
def f_law_b998 (c23 : xSt → Int → Option xSt) (r1 : Nat) (r2 : Nat) (r3 : Nat) (L : Nat) (sc : Nat → Int) (S : xSt) (x4 : Int) : Option xSt :=
  bd2 (f_X11_isCut_p3_0 S r1) fun v351 S350 =>
  bd2 (f_X12_isCut_p4_0 S350 r2) fun v355 S354 =>
  if wr v351 = wr v355 then
    (c23 S354 (x4 + 6))
  else
    (none)
def f_law_b1011 (c23 : xSt → Int → Option xSt) (r1 : Nat) (r2 : Nat) (r3 : Nat) (L : Nat) (sc : Nat → Int) (S : xSt) (x4 : Int) : Option xSt :=
  ckI (x4 + 1) L <|
  bd2 (f_L_bubbles_p3_0_5_0 S r1 (sc (wr (x4 + 1)).toNat) r3) fun v362 S361 =>
  ckI (x4 + 1) L <|
  bd2 (f_X12_bubbles_p4_0 S361 r2 (sc (wr (x4 + 1)).toNat)) fun v367 S366 =>
  bd2 (f_X12_thrown_p4_0 S366 r2) fun v371 S370 =>
  if wr v371 = wr v362 then
    (if ¬ wr v362 = 0 then
      (c23 S370 (x4 + 6))
    else
      (if wr (iC (wl (wr (gI S370 r3 0 0))) (wl (wr v367))) = 0 then
        (c23 S370 (x4 + 6))
      else
        (none)))
  else
    (none)
def f_law_b1067 (c23 : xSt → Int → Option xSt) (r1 : Nat) (r2 : Nat) (r3 : Nat) (L : Nat) (sc : Nat → Int) (S : xSt) (x4 : Int) : Option xSt :=
  bd2 (f_X11_mainCause_p3_0 S r1) fun v379 S378 =>
  bd2 (f_X12_mainCause_p4_0 S378 r2) fun v383 S382 =>
  if wr v379 = wr v383 then
    (c23 S382 (x4 + 6))
  else
    (none)
def f_law_b1080 (c23 : xSt → Int → Option xSt) (r1 : Nat) (r2 : Nat) (r3 : Nat) (L : Nat) (sc : Nat → Int) (S : xSt) (x4 : Int) : Option xSt :=
  ckI (x4 + 1) L <|
  bd2 (f_L_decoded_p3_0_5_0 S r1 (sc (wr (x4 + 1)).toNat) r3) fun v390 S389 =>
  ckI (x4 + 1) L <|
  bd2 (f_X12_decoded_p4_0 S389 r2 (sc (wr (x4 + 1)).toNat)) fun v395 S394 =>
  bd2 (f_X12_thrown_p4_0 S394 r2) fun v399 S398 =>
  if wr v399 = wr v390 then
    (if ¬ wr v390 = 0 then
      (c23 S398 (x4 + 6))
    else
      (if wr (iC (wl (wr (gI S398 r3 0 0))) (wl (wr v395))) = 0 then
        (c23 S398 (x4 + 6))
      else
        (none)))
  else
    (none)
def f_law_b1136 (c23 : xSt → Int → Option xSt) (r1 : Nat) (r2 : Nat) (r3 : Nat) (L : Nat) (sc : Nat → Int) (S : xSt) (x4 : Int) : Option xSt :=
  ckI (x4 + 1) L <|
  bd2 (f_L_plain_p3_0_5_0 S r1 (sc (wr (x4 + 1)).toNat) r3) fun v408 S407 =>
  ckI (x4 + 1) L <|
  bd2 (f_X12_plain_p4_0 S407 r2 (sc (wr (x4 + 1)).toNat)) fun v413 S412 =>
  bd2 (f_X12_thrown_p4_0 S412 r2) fun v417 S416 =>
  if wr v417 = wr v408 then
    (if ¬ wr v408 = 0 then
      (c23 S416 (x4 + 6))
    else
      (if wr (iC (wl (wr (gI S416 r3 0 0))) (wl (wr v413))) = 0 then
        (c23 S416 (x4 + 6))
      else
        (none)))
  else
    (none)
def f_law_b1192 (c23 : xSt → Int → Option xSt) (r1 : Nat) (r2 : Nat) (r3 : Nat) (L : Nat) (sc : Nat → Int) (S : xSt) (x4 : Int) : Option xSt :=
  bd2 (f_X11_agrees_p3_0 S r1) fun v425 S424 =>
  bd2 (f_X12_agrees_p4_0 S424 r2) fun v429 S428 =>
  if wr v425 = wr v429 then
    (c23 S428 (x4 + 6))
  else
    (none)
def f_law_b1205 (c23 : xSt → Int → Option xSt) (r1 : Nat) (r2 : Nat) (r3 : Nat) (L : Nat) (sc : Nat → Int) (S : xSt) (x4 : Int) : Option xSt :=
  ckI (x4 + 1) L <|
  bd2 (f_L_times_p3_0_5_0 S r1 (sc (wr (x4 + 1)).toNat) r3) fun v436 S435 =>
  ckI (x4 + 1) L <|
  bd2 (f_X12_times_p4_0 S435 r2 (sc (wr (x4 + 1)).toNat)) fun v441 S440 =>
  bd2 (f_X12_thrown_p4_0 S440 r2) fun v445 S444 =>
  if wr v445 = wr v436 then
    (if ¬ wr v436 = 0 then
      (c23 S444 (x4 + 6))
    else
      (if wr (iC (wl (wr (gI S444 r3 0 0))) (wl (wr v441))) = 0 then
        (c23 S444 (x4 + 6))
      else
        (none)))
  else
    (none)
def f_law_b1261 (c23 : xSt → Int → Option xSt) (r1 : Nat) (r2 : Nat) (r3 : Nat) (L : Nat) (sc : Nat → Int) (S : xSt) (x4 : Int) : Option xSt :=
  bd2 (f_X11_perCycle_p3_0 S r1) fun v453 S452 =>
  bd2 (f_X12_perCycle_p4_0 S452 r2) fun v457 S456 =>
  if wr (Op.cmpValue (FP.dcmp v453 v457) .l).toInt = 0 then
    (c23 S456 (x4 + 6))
  else
    (if wr (Op.cmpValue (FP.dcmp v453 v453) .l).toInt = 0 then
      (none)
    else
      (if ¬ wr (Op.cmpValue (FP.dcmp v457 v457) .l).toInt = 0 then
        (c23 S456 (x4 + 6))
      else
        (none)))
def f_law_b1302 (c23 : xSt → Int → Option xSt) (r1 : Nat) (r2 : Nat) (r3 : Nat) (L : Nat) (sc : Nat → Int) (S : xSt) (x4 : Int) : Option xSt :=
  bd2 (f_X11_fusedShare_p3_0 S r1) fun v465 S464 =>
  ckNd (FP.f2d v465) <|
  bd2 (f_X12_fusedShare_p4_0 S464 r2) fun v470 S469 =>
  ckNd (FP.f2d v470) <|
  if wr (Op.cmpValue (FP.dcmp (FP.f2d v465) (FP.f2d v470)) .l).toInt = 0 then
    (c23 S469 (x4 + 6))
  else
    (if wr (Op.cmpValue (FP.dcmp (FP.f2d v465) (FP.f2d v465)) .l).toInt = 0 then
      (none)
    else
      (if ¬ wr (Op.cmpValue (FP.dcmp (FP.f2d v470) (FP.f2d v470)) .l).toInt = 0 then
        (c23 S469 (x4 + 6))
      else
        (none)))
def f_law_b1345 (c23 : xSt → Int → Option xSt) (r1 : Nat) (r2 : Nat) (r3 : Nat) (L : Nat) (sc : Nat → Int) (S : xSt) (x4 : Int) : Option xSt :=
  ckI (x4 + 1) L <|
  bd2 (f_L_run_p3_0_5_0 S r1 (sc (wr (x4 + 1)).toNat) r3) fun v480 S479 =>
  ckI (x4 + 1) L <|
  bd2 (f_X12_run_p4_0 S479 r2 (sc (wr (x4 + 1)).toNat)) fun v485 S484 =>
  bd2 (f_X12_thrown_p4_0 S484 r2) fun v489 S488 =>
  if wr v489 = wr v480 then
    (if ¬ wr v480 = 0 then
      (c23 S488 (x4 + 6))
    else
      (if wr (iC (wl (wr (gI S488 r3 0 0))) (wl (wr v485))) = 0 then
        (c23 S488 (x4 + 6))
      else
        (none)))
  else
    (none)
def f_law_b1401 (c23 : xSt → Int → Option xSt) (r1 : Nat) (r2 : Nat) (r3 : Nat) (L : Nat) (sc : Nat → Int) (S : xSt) (x4 : Int) : Option xSt :=
  ckI (x4 + 1) L <|
  bd2 (f_L_runTo_p3_0_5_0 S r1 (sc (wr (x4 + 1)).toNat) r3) fun v498 S497 =>
  ckI (x4 + 1) L <|
  bd2 (f_X12_runTo_p4_0 S497 r2 (sc (wr (x4 + 1)).toNat)) fun v503 S502 =>
  bd2 (f_X12_thrown_p4_0 S502 r2) fun v507 S506 =>
  if wr v507 = wr v498 then
    (if ¬ wr v498 = 0 then
      (c23 S506 (x4 + 6))
    else
      (if wr (iC (wl (wr (gI S506 r3 0 0))) (wl (wr v503))) = 0 then
        (c23 S506 (x4 + 6))
      else
        (none)))
  else
    (none)
def f_law_b1457 (c23 : xSt → Int → Option xSt) (r1 : Nat) (r2 : Nat) (r3 : Nat) (L : Nat) (sc : Nat → Int) (S : xSt) (x4 : Int) : Option xSt :=
  ckI (x4 + 1) L <|
  bd2 (f_L_stall_p3_0_5_0 S r1 (sc (wr (x4 + 1)).toNat) r3) fun v516 S515 =>
  ckI (x4 + 1) L <|
  bd2 (f_X12_stall_p4_0 S515 r2 (sc (wr (x4 + 1)).toNat)) fun v521 S520 =>
  bd2 (f_X12_thrown_p4_0 S520 r2) fun v525 S524 =>
  if wr v525 = wr v516 then
    (if ¬ wr v516 = 0 then
      (c23 S524 (x4 + 6))
    else
      (if wr (iC (wl (wr (gI S524 r3 0 0))) (wl (wr v521))) = 0 then
        (c23 S524 (x4 + 6))
      else
        (none)))
  else
    (none)
def f_law_b1513 (c23 : xSt → Int → Option xSt) (r1 : Nat) (r2 : Nat) (r3 : Nat) (L : Nat) (sc : Nat → Int) (S : xSt) (x4 : Int) : Option xSt :=
  ckI (x4 + 1) L <|
  ckI (x4 + 2) L <|
  bd2 (f_L_set_p3_0_5_0 S r1 (sc (wr (x4 + 1)).toNat) (sc (wr (x4 + 2)).toNat) r3) fun v535 S534 =>
  ckI (x4 + 1) L <|
  ckI (x4 + 2) L <|
  bd2 (f_X12_set_p4_0 S534 r2 (sc (wr (x4 + 1)).toNat) (sc (wr (x4 + 2)).toNat)) fun v541 S540 =>
  bd2 (f_X12_thrown_p4_0 S540 r2) fun v545 S544 =>
  if wr v545 = wr v535 then
    (if ¬ wr v535 = 0 then
      (c23 S544 (x4 + 6))
    else
      (if wr (iC (wl (wr (gI S544 r3 0 0))) (wl (wr v541))) = 0 then
        (c23 S544 (x4 + 6))
      else
        (none)))
  else
    (none)
def f_law_b1581 (c23 : xSt → Int → Option xSt) (r1 : Nat) (r2 : Nat) (r3 : Nat) (L : Nat) (sc : Nat → Int) (S : xSt) (x4 : Int) : Option xSt :=
  ckI (x4 + 1) L <|
  ckI (x4 + 2) L <|
  bd2 (f_L_addRule_p3_0_5_0 S r1 (sc (wr (x4 + 1)).toNat) (sc (wr (x4 + 2)).toNat) r3) fun v555 S554 =>
  ckI (x4 + 1) L <|
  ckI (x4 + 2) L <|
  bd2 (f_X12_addRule_p4_0 S554 r2 (sc (wr (x4 + 1)).toNat) (sc (wr (x4 + 2)).toNat)) fun v561 S560 =>
  bd2 (f_X12_thrown_p4_0 S560 r2) fun v565 S564 =>
  if wr v565 = wr v555 then
    (if ¬ wr v555 = 0 then
      (c23 S564 (x4 + 6))
    else
      (if wr (iC (wl (wr (gI S564 r3 0 0))) (wl (wr v561))) = 0 then
        (c23 S564 (x4 + 6))
      else
        (none)))
  else
    (none)
def f_law_b1649 (c23 : xSt → Int → Option xSt) (r1 : Nat) (r2 : Nat) (r3 : Nat) (L : Nat) (sc : Nat → Int) (S : xSt) (x4 : Int) : Option xSt :=
  ckI (x4 + 1) L <|
  bd2 (f_L_removeRule_p3_0_5_0 S r1 (sc (wr (x4 + 1)).toNat) r3) fun v574 S573 =>
  ckI (x4 + 1) L <|
  bd2 (f_X12_removeRule_p4_0 S573 r2 (sc (wr (x4 + 1)).toNat)) fun v579 S578 =>
  bd2 (f_X12_thrown_p4_0 S578 r2) fun v583 S582 =>
  if wr v583 = wr v574 then
    (if ¬ wr v574 = 0 then
      (c23 S582 (x4 + 6))
    else
      (if wr (iC (wl (wr (gI S582 r3 0 0))) (wl (wr v579))) = 0 then
        (c23 S582 (x4 + 6))
      else
        (none)))
  else
    (none)
def f_law_b1705 (c23 : xSt → Int → Option xSt) (r1 : Nat) (r2 : Nat) (r3 : Nat) (L : Nat) (sc : Nat → Int) (S : xSt) (x4 : Int) : Option xSt :=
  ckI (x4 + 1) L <|
  bd2 (f_L_redirect_p3_0_5_0 S r1 (sc (wr (x4 + 1)).toNat) r3) fun v592 S591 =>
  ckI (x4 + 1) L <|
  bd2 (f_X12_redirect_p4_0 S591 r2 (sc (wr (x4 + 1)).toNat)) fun v597 S596 =>
  bd2 (f_X12_thrown_p4_0 S596 r2) fun v601 S600 =>
  if wr v601 = wr v592 then
    (if ¬ wr v592 = 0 then
      (c23 S600 (x4 + 6))
    else
      (if wr (iC (wl (wr (gI S600 r3 0 0))) (wl (wr v597))) = 0 then
        (c23 S600 (x4 + 6))
      else
        (none)))
  else
    (none)
def f_law_b1761 (c23 : xSt → Int → Option xSt) (r1 : Nat) (r2 : Nat) (r3 : Nat) (L : Nat) (sc : Nat → Int) (S : xSt) (x4 : Int) : Option xSt :=
  bd2 (f_L_undo_p3_0_5_0 S r1 r3) fun v609 S608 =>
  bd2 (f_X12_undo_p4_0 S608 r2) fun v613 S612 =>
  bd2 (f_X12_thrown_p4_0 S612 r2) fun v617 S616 =>
  if wr v617 = wr v609 then
    (if ¬ wr v609 = 0 then
      (c23 S616 (x4 + 6))
    else
      (if wr (iC (wl (wr (gI S616 r3 0 0))) (wl (wr v613))) = 0 then
        (c23 S616 (x4 + 6))
      else
        (none)))
  else
    (none)
def f_law_b1805 (c23 : xSt → Int → Option xSt) (r1 : Nat) (r2 : Nat) (r3 : Nat) (L : Nat) (sc : Nat → Int) (S : xSt) (x4 : Int) : Option xSt :=
  ckI (x4 + 1) L <|
  bd2 (f_L_cyclesTo_p3_0_5_0 S r1 (sc (wr (x4 + 1)).toNat) r3) fun v626 S625 =>
  ckI (x4 + 1) L <|
  bd2 (f_X12_cyclesTo_p4_0 S625 r2 (sc (wr (x4 + 1)).toNat)) fun v631 S630 =>
  bd2 (f_X12_thrown_p4_0 S630 r2) fun v635 S634 =>
  if wr v635 = wr v626 then
    (if ¬ wr v626 = 0 then
      (c23 S634 (x4 + 6))
    else
      (if wr (iC (wl (wr (gI S634 r3 0 0))) (wl (wr v631))) = 0 then
        (c23 S634 (x4 + 6))
      else
        (none)))
  else
    (none)
def f_law_b1861 (c23 : xSt → Int → Option xSt) (r1 : Nat) (r2 : Nat) (r3 : Nat) (L : Nat) (sc : Nat → Int) (S : xSt) (x4 : Int) : Option xSt :=
  ckI (x4 + 1) L <|
  bd2 (f_L_nextBubbles_p3_0_5_0 S r1 (sc (wr (x4 + 1)).toNat) r3) fun v644 S643 =>
  ckI (x4 + 1) L <|
  bd2 (f_X12_nextBubbles_p4_0 S643 r2 (sc (wr (x4 + 1)).toNat)) fun v649 S648 =>
  bd2 (f_X12_thrown_p4_0 S648 r2) fun v653 S652 =>
  if wr v653 = wr v644 then
    (if ¬ wr v644 = 0 then
      (c23 S652 (x4 + 6))
    else
      (if wr (iC (wl (wr (gI S652 r3 0 0))) (wl (wr v649))) = 0 then
        (c23 S652 (x4 + 6))
      else
        (none)))
  else
    (none)
def f_law_b1917 (c23 : xSt → Int → Option xSt) (r1 : Nat) (r2 : Nat) (r3 : Nat) (L : Nat) (sc : Nat → Int) (S : xSt) (x4 : Int) : Option xSt :=
  ckI (x4 + 1) L <|
  ckI (x4 + 2) L <|
  bd2 (f_L_bubblesIn_p3_0_5_0 S r1 (sc (wr (x4 + 1)).toNat) (sc (wr (x4 + 2)).toNat) r3) fun v663 S662 =>
  ckI (x4 + 1) L <|
  ckI (x4 + 2) L <|
  bd2 (f_X12_bubblesIn_p4_0 S662 r2 (sc (wr (x4 + 1)).toNat) (sc (wr (x4 + 2)).toNat)) fun v669 S668 =>
  bd2 (f_X12_thrown_p4_0 S668 r2) fun v673 S672 =>
  if wr v673 = wr v663 then
    (if ¬ wr v663 = 0 then
      (c23 S672 (x4 + 6))
    else
      (if wr (iC (wl (wr (gI S672 r3 0 0))) (wl (wr v669))) = 0 then
        (c23 S672 (x4 + 6))
      else
        (none)))
  else
    (none)
def f_law_b1985 (c23 : xSt → Int → Option xSt) (r1 : Nat) (r2 : Nat) (r3 : Nat) (L : Nat) (sc : Nat → Int) (S : xSt) (x4 : Int) : Option xSt :=
  ckI (x4 + 1) L <|
  bd2 (f_L_roomNeeded_p3_0_5_0 S r1 (sc (wr (x4 + 1)).toNat) r3) fun v682 S681 =>
  ckI (x4 + 1) L <|
  bd2 (f_X12_roomNeeded_p4_0 S681 r2 (sc (wr (x4 + 1)).toNat)) fun v687 S686 =>
  bd2 (f_X12_thrown_p4_0 S686 r2) fun v691 S690 =>
  if wr v691 = wr v682 then
    (if ¬ wr v682 = 0 then
      (c23 S690 (x4 + 6))
    else
      (if wr (iC (wl (wr (gI S690 r3 0 0))) (wl (wr v687))) = 0 then
        (c23 S690 (x4 + 6))
      else
        (none)))
  else
    (none)
def f_law_b2041 (c23 : xSt → Int → Option xSt) (r1 : Nat) (r2 : Nat) (r3 : Nat) (L : Nat) (sc : Nat → Int) (S : xSt) (x4 : Int) : Option xSt :=
  ckI (x4 + 1) L <|
  bd2 (f_L_bestLanes_p3_0_5_0 S r1 (sc (wr (x4 + 1)).toNat) r3) fun v700 S699 =>
  ckI (x4 + 1) L <|
  bd2 (f_X12_bestLanes_p4_0 S699 r2 (sc (wr (x4 + 1)).toNat)) fun v705 S704 =>
  bd2 (f_X12_thrown_p4_0 S704 r2) fun v709 S708 =>
  if wr v709 = wr v700 then
    (if ¬ wr v700 = 0 then
      (c23 S708 (x4 + 6))
    else
      (if wr (iC (wl (wr (gI S708 r3 0 0))) (wl (wr v705))) = 0 then
        (c23 S708 (x4 + 6))
      else
        (none)))
  else
    (none)
def f_law_b2097 (c23 : xSt → Int → Option xSt) (r1 : Nat) (r2 : Nat) (r3 : Nat) (L : Nat) (sc : Nat → Int) (S : xSt) (x4 : Int) : Option xSt :=
  ckI (x4 + 1) L <|
  bd2 (f_L_bestRate_p3_0_5_0 S r1 (sc (wr (x4 + 1)).toNat) r3) fun v718 S717 =>
  ckI (x4 + 1) L <|
  bd2 (f_X12_bestRate_p4_0 S717 r2 (sc (wr (x4 + 1)).toNat)) fun v723 S722 =>
  bd2 (f_X12_thrown_p4_0 S722 r2) fun v727 S726 =>
  if wr v727 = wr v718 then
    (if ¬ wr v718 = 0 then
      (c23 S726 (x4 + 6))
    else
      (if wr (iC (wl (wr (gI S726 r3 0 0))) (wl (wr v723))) = 0 then
        (c23 S726 (x4 + 6))
      else
        (none)))
  else
    (none)
def f_law_b2153 (c23 : xSt → Int → Option xSt) (r1 : Nat) (r2 : Nat) (r3 : Nat) (L : Nat) (sc : Nat → Int) (S : xSt) (x4 : Int) : Option xSt :=
  ckI (x4 + 1) L <|
  bd2 (f_L_bestLoop_p3_0_5_0 S r1 (sc (wr (x4 + 1)).toNat) r3) fun v736 S735 =>
  ckI (x4 + 1) L <|
  bd2 (f_X12_bestLoop_p4_0 S735 r2 (sc (wr (x4 + 1)).toNat)) fun v741 S740 =>
  bd2 (f_X12_thrown_p4_0 S740 r2) fun v745 S744 =>
  if wr v745 = wr v736 then
    (if ¬ wr v736 = 0 then
      (c23 S744 (x4 + 6))
    else
      (if wr (iC (wl (wr (gI S744 r3 0 0))) (wl (wr v741))) = 0 then
        (c23 S744 (x4 + 6))
      else
        (none)))
  else
    (none)
def f_law_b2209 (c23 : xSt → Int → Option xSt) (r1 : Nat) (r2 : Nat) (r3 : Nat) (L : Nat) (sc : Nat → Int) (S : xSt) (x4 : Int) : Option xSt :=
  ckI (x4 + 1) L <|
  bd2 (f_L_cyclesUntil_p3_0_5_0 S r1 (sc (wr (x4 + 1)).toNat) r3) fun v754 S753 =>
  ckI (x4 + 1) L <|
  bd2 (f_X12_cyclesUntil_p4_0 S753 r2 (sc (wr (x4 + 1)).toNat)) fun v759 S758 =>
  bd2 (f_X12_thrown_p4_0 S758 r2) fun v763 S762 =>
  if wr v763 = wr v754 then
    (if ¬ wr v754 = 0 then
      (c23 S762 (x4 + 6))
    else
      (if wr (iC (wl (wr (gI S762 r3 0 0))) (wl (wr v759))) = 0 then
        (c23 S762 (x4 + 6))
      else
        (none)))
  else
    (none)
def f_law_b2265 (c23 : xSt → Int → Option xSt) (r1 : Nat) (r2 : Nat) (r3 : Nat) (L : Nat) (sc : Nat → Int) (S : xSt) (x4 : Int) : Option xSt :=
  ckI (x4 + 1) L <|
  bd2 (f_L_mainCauseIn_p3_0_5_0 S r1 (sc (wr (x4 + 1)).toNat) r3) fun v772 S771 =>
  ckI (x4 + 1) L <|
  bd2 (f_X12_mainCauseIn_p4_0 S771 r2 (sc (wr (x4 + 1)).toNat)) fun v777 S776 =>
  bd2 (f_X12_thrown_p4_0 S776 r2) fun v781 S780 =>
  if wr v781 = wr v772 then
    (if ¬ wr v772 = 0 then
      (c23 S780 (x4 + 6))
    else
      (if wr (iC (wl (wr (gI S780 r3 0 0))) (wl (wr v777))) = 0 then
        (c23 S780 (x4 + 6))
      else
        (none)))
  else
    (none)
def f_law_b2321 (c23 : xSt → Int → Option xSt) (r1 : Nat) (r2 : Nat) (r3 : Nat) (L : Nat) (sc : Nat → Int) (S : xSt) (x4 : Int) : Option xSt :=
  ckI (x4 + 1) L <|
  ckI (x4 + 2) L <|
  ckI (x4 + 3) L <|
  bd2 (f_L_ruleGain_p3_0_5_0 S r1 (sc (wr (x4 + 1)).toNat) (sc (wr (x4 + 2)).toNat) (sc (wr (x4 + 3)).toNat) r3) fun v792 S791 =>
  ckI (x4 + 1) L <|
  ckI (x4 + 2) L <|
  ckI (x4 + 3) L <|
  bd2 (f_X12_ruleGain_p4_0 S791 r2 (sc (wr (x4 + 1)).toNat) (sc (wr (x4 + 2)).toNat) (sc (wr (x4 + 3)).toNat)) fun v799 S798 =>
  bd2 (f_X12_thrown_p4_0 S798 r2) fun v803 S802 =>
  if wr v803 = wr v792 then
    (if ¬ wr v792 = 0 then
      (c23 S802 (x4 + 6))
    else
      (if wr (iC (wl (wr (gI S802 r3 0 0))) (wl (wr v799))) = 0 then
        (c23 S802 (x4 + 6))
      else
        (none)))
  else
    (none)
def f_law_b2401 (c23 : xSt → Int → Option xSt) (r1 : Nat) (r2 : Nat) (r3 : Nat) (L : Nat) (sc : Nat → Int) (S : xSt) (x4 : Int) : Option xSt :=
  ckI (x4 + 1) L <|
  bd2 (f_L_printInstruction_p3_0_5_0 S r1 (sc (wr (x4 + 1)).toNat) r3) fun v812 S811 =>
  ckI (x4 + 1) L <|
  bd2 (f_X12_printInstruction_p4_0 S811 r2 (sc (wr (x4 + 1)).toNat)) fun v817 S816 =>
  bd2 (f_X12_thrown_p4_0 S816 r2) fun v821 S820 =>
  if wr v821 = wr v812 then
    (if ¬ wr v812 = 0 then
      (c23 S820 (x4 + 6))
    else
      (if wr (iC (wl (wr (gI S820 r3 0 0))) (wl (wr v817))) = 0 then
        (c23 S820 (x4 + 6))
      else
        (none)))
  else
    (none)
def f_law_b2457 (c23 : xSt → Int → Option xSt) (r1 : Nat) (r2 : Nat) (r3 : Nat) (L : Nat) (sc : Nat → Int) (S : xSt) (x4 : Int) : Option xSt :=
  ckI (x4 + 1) L <|
  bd2 (f_X11_outputByte_p3_0 S r1 (sc (wr (x4 + 1)).toNat)) fun v830 S829 =>
  ckI (x4 + 1) L <|
  bd2 (f_X12_outputByte_p4_0 S829 r2 (sc (wr (x4 + 1)).toNat)) fun v835 S834 =>
  if wr v830 = wr v835 then
    (c23 S834 (x4 + 6))
  else
    (none)
def f_law_b2482 (c23 : xSt → Int → Option xSt) (r1 : Nat) (r2 : Nat) (r3 : Nat) (L : Nat) (sc : Nat → Int) (S : xSt) (x4 : Int) : Option xSt :=
  bd2 (f_X11_saveState_p3_0 S r1) fun v841 S840 =>
  bd2 (f_X12_saveState_p4_0 S840 r2) fun v845 S844 =>
  if wr v841 = wr v845 then
    (c23 S844 (x4 + 6))
  else
    (none)
def f_law_b2495 (c23 : xSt → Int → Option xSt) (r1 : Nat) (r2 : Nat) (r3 : Nat) (L : Nat) (sc : Nat → Int) (S : xSt) (x4 : Int) : Option xSt :=
  bd2 (f_L_restoreState_p3_0_5_0 S r1 r3) fun v851 S850 =>
  bd2 (f_X12_restoreState_p4_0 S850 r2) fun v855 S854 =>
  bd2 (f_X12_thrown_p4_0 S854 r2) fun v859 S858 =>
  if wr v859 = wr v851 then
    (if ¬ wr v851 = 0 then
      (c23 S858 (x4 + 6))
    else
      (if wr (iC (wl (wr (gI S858 r3 0 0))) (wl (wr v855))) = 0 then
        (c23 S858 (x4 + 6))
      else
        (none)))
  else
    (none)
def f_law_b23 (r1 : Nat) (r2 : Nat) (r3 : Nat) (L : Nat) (sc : Nat → Int) : Nat → xSt → Int → Option xSt
  | 0, _, _ => none
  | fuel + 1, S, x4 =>
    if wr ((L : Int) - 6) < wr x4 then
      (some S)
    else
      (ckI x4 L <|
      if wr (iA (sc (wr x4).toNat) 63) < 0 ∨ 47 < wr (iA (sc (wr x4).toNat) 63) then
        ((f_law_b23 r1 r2 r3 L sc fuel) S (x4 + 6))
      else
      if wr (iA (sc (wr x4).toNat) 63) = 0 then
        (f_law_b248 (f_law_b23 r1 r2 r3 L sc fuel) r1 r2 r3 L sc S x4)
      else
      if wr (iA (sc (wr x4).toNat) 63) = 1 then
        (f_law_b321 (f_law_b23 r1 r2 r3 L sc fuel) r1 r2 r3 L sc S x4)
      else
      if wr (iA (sc (wr x4).toNat) 63) = 2 then
        (f_law_b346 (f_law_b23 r1 r2 r3 L sc fuel) r1 r2 r3 L sc S x4)
      else
      if wr (iA (sc (wr x4).toNat) 63) = 3 then
        (f_law_b359 (f_law_b23 r1 r2 r3 L sc fuel) r1 r2 r3 L sc S x4)
      else
      if wr (iA (sc (wr x4).toNat) 63) = 4 then
        (f_law_b372 (f_law_b23 r1 r2 r3 L sc fuel) r1 r2 r3 L sc S x4)
      else
      if wr (iA (sc (wr x4).toNat) 63) = 5 then
        (f_law_b385 (f_law_b23 r1 r2 r3 L sc fuel) r1 r2 r3 L sc S x4)
      else
      if wr (iA (sc (wr x4).toNat) 63) = 6 then
        (f_law_b410 (f_law_b23 r1 r2 r3 L sc fuel) r1 r2 r3 L sc S x4)
      else
      if wr (iA (sc (wr x4).toNat) 63) = 7 then
        (f_law_b478 (f_law_b23 r1 r2 r3 L sc fuel) r1 r2 r3 L sc S x4)
      else
      if wr (iA (sc (wr x4).toNat) 63) = 8 then
        (f_law_b503 (f_law_b23 r1 r2 r3 L sc fuel) r1 r2 r3 L sc S x4)
      else
      if wr (iA (sc (wr x4).toNat) 63) = 9 then
        (f_law_b566 (f_law_b23 r1 r2 r3 L sc fuel) r1 r2 r3 L sc S x4)
      else
      if wr (iA (sc (wr x4).toNat) 63) = 10 then
        (f_law_b629 (f_law_b23 r1 r2 r3 L sc fuel) r1 r2 r3 L sc S x4)
      else
      if wr (iA (sc (wr x4).toNat) 63) = 11 then
        (f_law_b692 (f_law_b23 r1 r2 r3 L sc fuel) r1 r2 r3 L sc S x4)
      else
      if wr (iA (sc (wr x4).toNat) 63) = 12 then
        (f_law_b705 (f_law_b23 r1 r2 r3 L sc fuel) r1 r2 r3 L sc S x4)
      else
      if wr (iA (sc (wr x4).toNat) 63) = 13 then
        (f_law_b718 (f_law_b23 r1 r2 r3 L sc fuel) r1 r2 r3 L sc S x4)
      else
      if wr (iA (sc (wr x4).toNat) 63) = 14 then
        (f_law_b802 (f_law_b23 r1 r2 r3 L sc fuel) r1 r2 r3 L sc S x4)
      else
      if wr (iA (sc (wr x4).toNat) 63) = 15 then
        (f_law_b886 (f_law_b23 r1 r2 r3 L sc fuel) r1 r2 r3 L sc S x4)
      else
      if wr (iA (sc (wr x4).toNat) 63) = 16 then
        (f_law_b942 (f_law_b23 r1 r2 r3 L sc fuel) r1 r2 r3 L sc S x4)
      else
      if wr (iA (sc (wr x4).toNat) 63) = 17 then
        (f_law_b998 (f_law_b23 r1 r2 r3 L sc fuel) r1 r2 r3 L sc S x4)
      else
      if wr (iA (sc (wr x4).toNat) 63) = 18 then
        (f_law_b1011 (f_law_b23 r1 r2 r3 L sc fuel) r1 r2 r3 L sc S x4)
      else
      if wr (iA (sc (wr x4).toNat) 63) = 19 then
        (f_law_b1067 (f_law_b23 r1 r2 r3 L sc fuel) r1 r2 r3 L sc S x4)
      else
      if wr (iA (sc (wr x4).toNat) 63) = 20 then
        (f_law_b1080 (f_law_b23 r1 r2 r3 L sc fuel) r1 r2 r3 L sc S x4)
      else
      if wr (iA (sc (wr x4).toNat) 63) = 21 then
        (f_law_b1136 (f_law_b23 r1 r2 r3 L sc fuel) r1 r2 r3 L sc S x4)
      else
      if wr (iA (sc (wr x4).toNat) 63) = 22 then
        (f_law_b1192 (f_law_b23 r1 r2 r3 L sc fuel) r1 r2 r3 L sc S x4)
      else
      if wr (iA (sc (wr x4).toNat) 63) = 23 then
        (f_law_b1205 (f_law_b23 r1 r2 r3 L sc fuel) r1 r2 r3 L sc S x4)
      else
      if wr (iA (sc (wr x4).toNat) 63) = 24 then
        (f_law_b1261 (f_law_b23 r1 r2 r3 L sc fuel) r1 r2 r3 L sc S x4)
      else
      if wr (iA (sc (wr x4).toNat) 63) = 25 then
        (f_law_b1302 (f_law_b23 r1 r2 r3 L sc fuel) r1 r2 r3 L sc S x4)
      else
      if wr (iA (sc (wr x4).toNat) 63) = 26 then
        (f_law_b1345 (f_law_b23 r1 r2 r3 L sc fuel) r1 r2 r3 L sc S x4)
      else
      if wr (iA (sc (wr x4).toNat) 63) = 27 then
        (f_law_b1401 (f_law_b23 r1 r2 r3 L sc fuel) r1 r2 r3 L sc S x4)
      else
      if wr (iA (sc (wr x4).toNat) 63) = 28 then
        (f_law_b1457 (f_law_b23 r1 r2 r3 L sc fuel) r1 r2 r3 L sc S x4)
      else
      if wr (iA (sc (wr x4).toNat) 63) = 29 then
        (f_law_b1513 (f_law_b23 r1 r2 r3 L sc fuel) r1 r2 r3 L sc S x4)
      else
      if wr (iA (sc (wr x4).toNat) 63) = 30 then
        (f_law_b1581 (f_law_b23 r1 r2 r3 L sc fuel) r1 r2 r3 L sc S x4)
      else
      if wr (iA (sc (wr x4).toNat) 63) = 31 then
        (f_law_b1649 (f_law_b23 r1 r2 r3 L sc fuel) r1 r2 r3 L sc S x4)
      else
      if wr (iA (sc (wr x4).toNat) 63) = 32 then
        (f_law_b1705 (f_law_b23 r1 r2 r3 L sc fuel) r1 r2 r3 L sc S x4)
      else
      if wr (iA (sc (wr x4).toNat) 63) = 33 then
        (f_law_b1761 (f_law_b23 r1 r2 r3 L sc fuel) r1 r2 r3 L sc S x4)
      else
      if wr (iA (sc (wr x4).toNat) 63) = 34 then
        (f_law_b1805 (f_law_b23 r1 r2 r3 L sc fuel) r1 r2 r3 L sc S x4)
      else
      if wr (iA (sc (wr x4).toNat) 63) = 35 then
        (f_law_b1861 (f_law_b23 r1 r2 r3 L sc fuel) r1 r2 r3 L sc S x4)
      else
      if wr (iA (sc (wr x4).toNat) 63) = 36 then
        (f_law_b1917 (f_law_b23 r1 r2 r3 L sc fuel) r1 r2 r3 L sc S x4)
      else
      if wr (iA (sc (wr x4).toNat) 63) = 37 then
        (f_law_b1985 (f_law_b23 r1 r2 r3 L sc fuel) r1 r2 r3 L sc S x4)
      else
      if wr (iA (sc (wr x4).toNat) 63) = 38 then
        (f_law_b2041 (f_law_b23 r1 r2 r3 L sc fuel) r1 r2 r3 L sc S x4)
      else
      if wr (iA (sc (wr x4).toNat) 63) = 39 then
        (f_law_b2097 (f_law_b23 r1 r2 r3 L sc fuel) r1 r2 r3 L sc S x4)
      else
      if wr (iA (sc (wr x4).toNat) 63) = 40 then
        (f_law_b2153 (f_law_b23 r1 r2 r3 L sc fuel) r1 r2 r3 L sc S x4)
      else
      if wr (iA (sc (wr x4).toNat) 63) = 41 then
        (f_law_b2209 (f_law_b23 r1 r2 r3 L sc fuel) r1 r2 r3 L sc S x4)
      else
      if wr (iA (sc (wr x4).toNat) 63) = 42 then
        (f_law_b2265 (f_law_b23 r1 r2 r3 L sc fuel) r1 r2 r3 L sc S x4)
      else
      if wr (iA (sc (wr x4).toNat) 63) = 43 then
        (f_law_b2321 (f_law_b23 r1 r2 r3 L sc fuel) r1 r2 r3 L sc S x4)
      else
      if wr (iA (sc (wr x4).toNat) 63) = 44 then
        (f_law_b2401 (f_law_b23 r1 r2 r3 L sc fuel) r1 r2 r3 L sc S x4)
      else
      if wr (iA (sc (wr x4).toNat) 63) = 45 then
        (f_law_b2457 (f_law_b23 r1 r2 r3 L sc fuel) r1 r2 r3 L sc S x4)
      else
      if wr (iA (sc (wr x4).toNat) 63) = 46 then
        (f_law_b2482 (f_law_b23 r1 r2 r3 L sc fuel) r1 r2 r3 L sc S x4)
      else
      if wr (iA (sc (wr x4).toNat) 63) = 47 then
        (f_law_b2495 (f_law_b23 r1 r2 r3 L sc fuel) r1 r2 r3 L sc S x4)
      else
      none)
set_option maxRecDepth 100000 in
set_option maxHeartbeats 4000000 in
theorem k_law_b248 {K : xCtx} {E : xE} {b0 b1 b L : Nat} {sc : Nat → Int} {r1 r2 r3 : Nat} (hL : lwC K E b0 b1 b L sc) (hk1 : xkd E r1 = 3) (hA1 : xFam E r1) (hk2 : xkd E r2 = 4) (hk3 : xkd E r3 = 5) {c23 : xSt → Int → Option xSt} {x4 : Int} {m : Nat} (hm : x4 = 6 * (m : Int)) (hm2 : m < 512) {S S' : xSt} (hrec : ∀ (S S' : xSt) (z : Int) (k : Nat), c23 S z = some S' → z = 6 * (k : Int) → k ≤ 512 → WG (kc K b0 b1 k) E 23 [(0, .ref b), (1, vr E r1 0), (2, vr E r2 0), (3, vr E r3 0), (4, vi z)] [] S) (h : f_law_b248 c23 r1 r2 r3 L sc S x4 = some S') : WG (kc K b0 b1 m) E 248 [(0, .ref b), (1, vr E r1 0), (2, vr E r2 0), (3, vr E r3 0), (4, vi x4)] [] S := by
  unfold f_law_b248 at h
  have hC := hL.1 m
  have hs := hL.2.1 m
  refine g_aload_n hC rfl 1 rfl (rfl : 248 + 1 = 249) (xdt tt_L_law0 25 rfl) ?_
  refine g_aload_n hC rfl 0 rfl (rfl : 249 + 1 = 250) (xdt tt_L_law0 26 rfl) ?_
  refine g_iload hC 4 rfl (rfl : 250 + 2 = 252) (xdt tt_L_law0 27 rfl) ?_
  refine g_iconst hC (rfl : 252 + 1 = 253) (xdt tt_L_law0 28 rfl) ?_
  refine g_iadd hC (rfl : 253 + 1 = 254) (xdt tt_L_law0 29 rfl) ?_
  obtain ⟨hi3, h⟩ := ckI_i h
  refine g_sld hC hs hi3 (rfl : 254 + 1 = 255) (xdt tt_L_law0 30 rfl) ?_
  refine g_aload_n hC rfl 0 rfl (rfl : 255 + 1 = 256) (xdt tt_L_law0 31 rfl) ?_
  refine g_iload hC 4 rfl (rfl : 256 + 2 = 258) (xdt tt_L_law0 32 rfl) ?_
  refine g_iconst hC (rfl : 258 + 1 = 259) (xdt tt_L_law0 33 rfl) ?_
  refine g_iadd hC (rfl : 259 + 1 = 260) (xdt tt_L_law0 34 rfl) ?_
  obtain ⟨hi4, h⟩ := ckI_i h
  refine g_sld hC hs hi4 (rfl : 260 + 1 = 261) (xdt tt_L_law0 35 rfl) ?_
  refine g_aload_n hC rfl 0 rfl (rfl : 261 + 1 = 262) (xdt tt_L_law0 36 rfl) ?_
  refine g_iload hC 4 rfl (rfl : 262 + 2 = 264) (xdt tt_L_law0 37 rfl) ?_
  refine g_iconst hC (rfl : 264 + 1 = 265) (xdt tt_L_law0 38 rfl) ?_
  refine g_iadd hC (rfl : 265 + 1 = 266) (xdt tt_L_law0 39 rfl) ?_
  obtain ⟨hi5, h⟩ := ckI_i h
  refine g_sld hC hs hi5 (rfl : 266 + 1 = 267) (xdt tt_L_law0 40 rfl) ?_
  refine g_aload_n hC rfl 0 rfl (rfl : 267 + 1 = 268) (xdt tt_L_law0 41 rfl) ?_
  refine g_iload hC 4 rfl (rfl : 268 + 2 = 270) (xdt tt_L_law0 42 rfl) ?_
  refine g_iconst hC (rfl : 270 + 1 = 271) (xdt tt_L_law0 43 rfl) ?_
  refine g_iadd hC (rfl : 271 + 1 = 272) (xdt tt_L_law0 44 rfl) ?_
  obtain ⟨hi6, h⟩ := ckI_i h
  refine g_sld hC hs hi6 (rfl : 272 + 1 = 273) (xdt tt_L_law0 45 rfl) ?_
  refine g_aload_n hC rfl 0 rfl (rfl : 273 + 1 = 274) (xdt tt_L_law0 46 rfl) ?_
  refine g_iload hC 4 rfl (rfl : 274 + 2 = 276) (xdt tt_L_law0 47 rfl) ?_
  refine g_iconst hC (rfl : 276 + 1 = 277) (xdt tt_L_law0 48 rfl) ?_
  refine g_iadd hC (rfl : 277 + 1 = 278) (xdt tt_L_law0 49 rfl) ?_
  obtain ⟨hi7, h⟩ := ckI_i h
  refine g_sld hC hs hi7 (rfl : 278 + 1 = 279) (xdt tt_L_law0 50 rfl) ?_
  obtain ⟨v10, S9, hc8, h⟩ := bd2_i h
  refine g_lcallVi hC (lw_z0 hL (show m ≤ 512 by omega)) hk1 kclX11 ly3_0 m_X11_feed q246 ⟨Nat.le_of_ble_eq_true rfl, Nat.le_of_ble_eq_true rfl⟩ [vi (sc (wr (x4 + 1)).toNat), vi (sc (wr (x4 + 2)).toNat), vi (sc (wr (x4 + 3)).toNat), vi (sc (wr (x4 + 4)).toNat), vi (sc (wr (x4 + 5)).toNat)] rfl (fun l => c_X11_feed_p3_0 l hk1 hA1 hc8) rfl (Nat.le_of_ble_eq_true rfl) (rfl : 279 + 3 = 282) (xdt tt_L_law0 51 rfl) ?_
  refine g_aload_n hC rfl 2 rfl (rfl : 282 + 1 = 283) (xdt tt_L_law0 52 rfl) ?_
  refine g_aload_n hC rfl 0 rfl (rfl : 283 + 1 = 284) (xdt tt_L_law0 53 rfl) ?_
  refine g_iload hC 4 rfl (rfl : 284 + 2 = 286) (xdt tt_L_law0 54 rfl) ?_
  refine g_iconst hC (rfl : 286 + 1 = 287) (xdt tt_L_law0 55 rfl) ?_
  refine g_iadd hC (rfl : 287 + 1 = 288) (xdt tt_L_law0 56 rfl) ?_
  obtain ⟨hi12, h⟩ := ckI_i h
  refine g_sld hC hs hi12 (rfl : 288 + 1 = 289) (xdt tt_L_law0 57 rfl) ?_
  refine g_aload_n hC rfl 0 rfl (rfl : 289 + 1 = 290) (xdt tt_L_law0 58 rfl) ?_
  refine g_iload hC 4 rfl (rfl : 290 + 2 = 292) (xdt tt_L_law0 59 rfl) ?_
  refine g_iconst hC (rfl : 292 + 1 = 293) (xdt tt_L_law1 0 rfl) ?_
  refine g_iadd hC (rfl : 293 + 1 = 294) (xdt tt_L_law1 1 rfl) ?_
  obtain ⟨hi13, h⟩ := ckI_i h
  refine g_sld hC hs hi13 (rfl : 294 + 1 = 295) (xdt tt_L_law1 2 rfl) ?_
  refine g_aload_n hC rfl 0 rfl (rfl : 295 + 1 = 296) (xdt tt_L_law1 3 rfl) ?_
  refine g_iload hC 4 rfl (rfl : 296 + 2 = 298) (xdt tt_L_law1 4 rfl) ?_
  refine g_iconst hC (rfl : 298 + 1 = 299) (xdt tt_L_law1 5 rfl) ?_
  refine g_iadd hC (rfl : 299 + 1 = 300) (xdt tt_L_law1 6 rfl) ?_
  obtain ⟨hi14, h⟩ := ckI_i h
  refine g_sld hC hs hi14 (rfl : 300 + 1 = 301) (xdt tt_L_law1 7 rfl) ?_
  refine g_aload_n hC rfl 0 rfl (rfl : 301 + 1 = 302) (xdt tt_L_law1 8 rfl) ?_
  refine g_iload hC 4 rfl (rfl : 302 + 2 = 304) (xdt tt_L_law1 9 rfl) ?_
  refine g_iconst hC (rfl : 304 + 1 = 305) (xdt tt_L_law1 10 rfl) ?_
  refine g_iadd hC (rfl : 305 + 1 = 306) (xdt tt_L_law1 11 rfl) ?_
  obtain ⟨hi15, h⟩ := ckI_i h
  refine g_sld hC hs hi15 (rfl : 306 + 1 = 307) (xdt tt_L_law1 12 rfl) ?_
  refine g_aload_n hC rfl 0 rfl (rfl : 307 + 1 = 308) (xdt tt_L_law1 13 rfl) ?_
  refine g_iload hC 4 rfl (rfl : 308 + 2 = 310) (xdt tt_L_law1 14 rfl) ?_
  refine g_iconst hC (rfl : 310 + 1 = 311) (xdt tt_L_law1 15 rfl) ?_
  refine g_iadd hC (rfl : 311 + 1 = 312) (xdt tt_L_law1 16 rfl) ?_
  obtain ⟨hi16, h⟩ := ckI_i h
  refine g_sld hC hs hi16 (rfl : 312 + 1 = 313) (xdt tt_L_law1 17 rfl) ?_
  obtain ⟨v19, S18, hc17, h⟩ := bd2_i h
  refine g_lcallVi hC (lw_z0 hL (show m ≤ 512 by omega)) hk2 kclX12 ly4_0 m_X12_feed q255 ⟨Nat.le_of_ble_eq_true rfl, Nat.le_of_ble_eq_true rfl⟩ [vi (sc (wr (x4 + 1)).toNat), vi (sc (wr (x4 + 2)).toNat), vi (sc (wr (x4 + 3)).toNat), vi (sc (wr (x4 + 4)).toNat), vi (sc (wr (x4 + 5)).toNat)] rfl (fun l => c_X12_feed_p4_0 l hk2 hc17) rfl (Nat.le_of_ble_eq_true rfl) (rfl : 313 + 3 = 316) (xdt tt_L_law1 18 rfl) ?_
  refine g_icmp_eq hC (show ((316 : Nat) : Int) + 2223 = ((2539 : Nat) : Int) by decide) (rfl : 316 + 3 = 319) (xdt tt_L_law1 19 rfl) (fun hc21 => ?_) (fun hc21 => ?_)
  · replace h := (if_pos hc21).symm.trans h
    refine g_iinc hC 4 rfl (by decide) (lv' := [(4, vi (x4 + 6)), (0, .ref b), (1, vr E r1 0), (2, vr E r2 0), (3, vr E r3 0)]) rfl (rfl : 2539 + 3 = 2542) (xdt tt_L_law24 22 rfl) ?_
    refine g_goto hC (show ((2542 : Nat) : Int) + (-2519) = ((23 : Nat) : Int) by decide) (xdt tt_L_law24 23 rfl) ?_
    refine g_sub [1, 2, 3, 4, 0] (lv' := [(0, .ref b), (1, vr E r1 0), (2, vr E r2 0), (3, vr E r3 0), (4, vi (x4 + 6))]) rfl ?_
    refine l_wid ?_
    exact hrec _ _ _ (m + 1) h (by omega) (by omega)
  · replace h := (if_neg hc21).symm.trans h
    cases h
set_option maxRecDepth 100000 in
set_option maxHeartbeats 4000000 in
theorem k_law_b321 {K : xCtx} {E : xE} {b0 b1 b L : Nat} {sc : Nat → Int} {r1 r2 r3 : Nat} (hL : lwC K E b0 b1 b L sc) (hk1 : xkd E r1 = 3) (hA1 : xFam E r1) (hk2 : xkd E r2 = 4) (hk3 : xkd E r3 = 5) {c23 : xSt → Int → Option xSt} {x4 : Int} {m : Nat} (hm : x4 = 6 * (m : Int)) (hm2 : m < 512) {S S' : xSt} (hrec : ∀ (S S' : xSt) (z : Int) (k : Nat), c23 S z = some S' → z = 6 * (k : Int) → k ≤ 512 → WG (kc K b0 b1 k) E 23 [(0, .ref b), (1, vr E r1 0), (2, vr E r2 0), (3, vr E r3 0), (4, vi z)] [] S) (h : f_law_b321 c23 r1 r2 r3 L sc S x4 = some S') : WG (kc K b0 b1 m) E 321 [(0, .ref b), (1, vr E r1 0), (2, vr E r2 0), (3, vr E r3 0), (4, vi x4)] [] S := by
  unfold f_law_b321 at h
  have hC := hL.1 m
  have hs := hL.2.1 m
  refine g_aload_n hC rfl 1 rfl (rfl : 321 + 1 = 322) (xdt tt_L_law1 22 rfl) ?_
  refine g_aload_n hC rfl 0 rfl (rfl : 322 + 1 = 323) (xdt tt_L_law1 23 rfl) ?_
  refine g_iload hC 4 rfl (rfl : 323 + 2 = 325) (xdt tt_L_law1 24 rfl) ?_
  refine g_iconst hC (rfl : 325 + 1 = 326) (xdt tt_L_law1 25 rfl) ?_
  refine g_iadd hC (rfl : 326 + 1 = 327) (xdt tt_L_law1 26 rfl) ?_
  obtain ⟨hi23, h⟩ := ckI_i h
  refine g_sld hC hs hi23 (rfl : 327 + 1 = 328) (xdt tt_L_law1 27 rfl) ?_
  obtain ⟨v26, S25, hc24, h⟩ := bd2_i h
  refine g_lcallVz hC (lw_z0 hL (show m ≤ 512 by omega)) hk1 kclX11 ly3_0 m_X11_truncate q261 ⟨Nat.le_of_ble_eq_true rfl, Nat.le_of_ble_eq_true rfl⟩ [vi (sc (wr (x4 + 1)).toNat)] rfl (fun l => c_X11_truncate_p3_0 l hk1 hA1 hc24) rfl (Nat.le_of_ble_eq_true rfl) (rfl : 328 + 3 = 331) (xdt tt_L_law1 28 rfl) (fun hb27 => ?_)
  refine g_aload_n hC rfl 2 rfl (rfl : 331 + 1 = 332) (xdt tt_L_law1 29 rfl) ?_
  refine g_aload_n hC rfl 0 rfl (rfl : 332 + 1 = 333) (xdt tt_L_law1 30 rfl) ?_
  refine g_iload hC 4 rfl (rfl : 333 + 2 = 335) (xdt tt_L_law1 31 rfl) ?_
  refine g_iconst hC (rfl : 335 + 1 = 336) (xdt tt_L_law1 32 rfl) ?_
  refine g_iadd hC (rfl : 336 + 1 = 337) (xdt tt_L_law1 33 rfl) ?_
  obtain ⟨hi28, h⟩ := ckI_i h
  refine g_sld hC hs hi28 (rfl : 337 + 1 = 338) (xdt tt_L_law1 34 rfl) ?_
  obtain ⟨v31, S30, hc29, h⟩ := bd2_i h
  refine g_lcallVz hC (lw_z0 hL (show m ≤ 512 by omega)) hk2 kclX12 ly4_0 m_X12_truncate q265 ⟨Nat.le_of_ble_eq_true rfl, Nat.le_of_ble_eq_true rfl⟩ [vi (sc (wr (x4 + 1)).toNat)] rfl (fun l => c_X12_truncate_p4_0 l hk2 hc29) rfl (Nat.le_of_ble_eq_true rfl) (rfl : 338 + 3 = 341) (xdt tt_L_law1 35 rfl) (fun hb32 => ?_)
  refine g_icmp_eq hC (show ((341 : Nat) : Int) + 2198 = ((2539 : Nat) : Int) by decide) (rfl : 341 + 3 = 344) (xdt tt_L_law1 36 rfl) (fun hc33 => ?_) (fun hc33 => ?_)
  · replace h := (if_pos hc33).symm.trans h
    refine g_iinc hC 4 rfl (by decide) (lv' := [(4, vi (x4 + 6)), (0, .ref b), (1, vr E r1 0), (2, vr E r2 0), (3, vr E r3 0)]) rfl (rfl : 2539 + 3 = 2542) (xdt tt_L_law24 22 rfl) ?_
    refine g_goto hC (show ((2542 : Nat) : Int) + (-2519) = ((23 : Nat) : Int) by decide) (xdt tt_L_law24 23 rfl) ?_
    refine g_sub [1, 2, 3, 4, 0] (lv' := [(0, .ref b), (1, vr E r1 0), (2, vr E r2 0), (3, vr E r3 0), (4, vi (x4 + 6))]) rfl ?_
    refine l_wid ?_
    exact hrec _ _ _ (m + 1) h (by omega) (by omega)
  · replace h := (if_neg hc33).symm.trans h
    cases h
set_option maxRecDepth 100000 in
set_option maxHeartbeats 4000000 in
theorem k_law_b346 {K : xCtx} {E : xE} {b0 b1 b L : Nat} {sc : Nat → Int} {r1 r2 r3 : Nat} (hL : lwC K E b0 b1 b L sc) (hk1 : xkd E r1 = 3) (hA1 : xFam E r1) (hk2 : xkd E r2 = 4) (hk3 : xkd E r3 = 5) {c23 : xSt → Int → Option xSt} {x4 : Int} {m : Nat} (hm : x4 = 6 * (m : Int)) (hm2 : m < 512) {S S' : xSt} (hrec : ∀ (S S' : xSt) (z : Int) (k : Nat), c23 S z = some S' → z = 6 * (k : Int) → k ≤ 512 → WG (kc K b0 b1 k) E 23 [(0, .ref b), (1, vr E r1 0), (2, vr E r2 0), (3, vr E r3 0), (4, vi z)] [] S) (h : f_law_b346 c23 r1 r2 r3 L sc S x4 = some S') : WG (kc K b0 b1 m) E 346 [(0, .ref b), (1, vr E r1 0), (2, vr E r2 0), (3, vr E r3 0), (4, vi x4)] [] S := by
  unfold f_law_b346 at h
  have hC := hL.1 m
  have hs := hL.2.1 m
  refine g_aload_n hC rfl 1 rfl (rfl : 346 + 1 = 347) (xdt tt_L_law1 39 rfl) ?_
  obtain ⟨v37, S36, hc35, h⟩ := bd2_i h
  refine g_lcallVi hC (lw_z0 hL (show m ≤ 512 by omega)) hk1 kclX11 ly3_0 m_X11_parse q272 ⟨Nat.le_of_ble_eq_true rfl, Nat.le_of_ble_eq_true rfl⟩ [] rfl (fun l => c_X11_parse_p3_0 l hk1 hA1 hc35) rfl (Nat.le_of_ble_eq_true rfl) (rfl : 347 + 3 = 350) (xdt tt_L_law1 40 rfl) ?_
  refine g_aload_n hC rfl 2 rfl (rfl : 350 + 1 = 351) (xdt tt_L_law1 41 rfl) ?_
  obtain ⟨v41, S40, hc39, h⟩ := bd2_i h
  refine g_lcallVi hC (lw_z0 hL (show m ≤ 512 by omega)) hk2 kclX12 ly4_0 m_X12_parse q466 ⟨Nat.le_of_ble_eq_true rfl, Nat.le_of_ble_eq_true rfl⟩ [] rfl (fun l => c_X12_parse_p4_0 l hk2 hc39) rfl (Nat.le_of_ble_eq_true rfl) (rfl : 351 + 3 = 354) (xdt tt_L_law1 42 rfl) ?_
  refine g_icmp_eq hC (show ((354 : Nat) : Int) + 2185 = ((2539 : Nat) : Int) by decide) (rfl : 354 + 3 = 357) (xdt tt_L_law1 43 rfl) (fun hc43 => ?_) (fun hc43 => ?_)
  · replace h := (if_pos hc43).symm.trans h
    refine g_iinc hC 4 rfl (by decide) (lv' := [(4, vi (x4 + 6)), (0, .ref b), (1, vr E r1 0), (2, vr E r2 0), (3, vr E r3 0)]) rfl (rfl : 2539 + 3 = 2542) (xdt tt_L_law24 22 rfl) ?_
    refine g_goto hC (show ((2542 : Nat) : Int) + (-2519) = ((23 : Nat) : Int) by decide) (xdt tt_L_law24 23 rfl) ?_
    refine g_sub [1, 2, 3, 4, 0] (lv' := [(0, .ref b), (1, vr E r1 0), (2, vr E r2 0), (3, vr E r3 0), (4, vi (x4 + 6))]) rfl ?_
    refine l_wid ?_
    exact hrec _ _ _ (m + 1) h (by omega) (by omega)
  · replace h := (if_neg hc43).symm.trans h
    cases h
set_option maxRecDepth 100000 in
set_option maxHeartbeats 4000000 in
theorem k_law_b359 {K : xCtx} {E : xE} {b0 b1 b L : Nat} {sc : Nat → Int} {r1 r2 r3 : Nat} (hL : lwC K E b0 b1 b L sc) (hk1 : xkd E r1 = 3) (hA1 : xFam E r1) (hk2 : xkd E r2 = 4) (hk3 : xkd E r3 = 5) {c23 : xSt → Int → Option xSt} {x4 : Int} {m : Nat} (hm : x4 = 6 * (m : Int)) (hm2 : m < 512) {S S' : xSt} (hrec : ∀ (S S' : xSt) (z : Int) (k : Nat), c23 S z = some S' → z = 6 * (k : Int) → k ≤ 512 → WG (kc K b0 b1 k) E 23 [(0, .ref b), (1, vr E r1 0), (2, vr E r2 0), (3, vr E r3 0), (4, vi z)] [] S) (h : f_law_b359 c23 r1 r2 r3 L sc S x4 = some S') : WG (kc K b0 b1 m) E 359 [(0, .ref b), (1, vr E r1 0), (2, vr E r2 0), (3, vr E r3 0), (4, vi x4)] [] S := by
  unfold f_law_b359 at h
  have hC := hL.1 m
  have hs := hL.2.1 m
  refine g_aload_n hC rfl 1 rfl (rfl : 359 + 1 = 360) (xdt tt_L_law1 46 rfl) ?_
  obtain ⟨v47, S46, hc45, h⟩ := bd2_i h
  refine g_lcallVi hC (lw_z0 hL (show m ≤ 512 by omega)) hk1 kclX11 ly3_0 m_X11_errorCode q567 ⟨Nat.le_of_ble_eq_true rfl, Nat.le_of_ble_eq_true rfl⟩ [] rfl (fun l => c_X11_errorCode_p3_0 l hk1 hA1 hc45) rfl (Nat.le_of_ble_eq_true rfl) (rfl : 360 + 3 = 363) (xdt tt_L_law1 47 rfl) ?_
  refine g_aload_n hC rfl 2 rfl (rfl : 363 + 1 = 364) (xdt tt_L_law1 48 rfl) ?_
  obtain ⟨v51, S50, hc49, h⟩ := bd2_i h
  refine g_lcallVi hC (lw_z0 hL (show m ≤ 512 by omega)) hk2 kclX12 ly4_0 m_X12_errorCode q572 ⟨Nat.le_of_ble_eq_true rfl, Nat.le_of_ble_eq_true rfl⟩ [] rfl (fun l => c_X12_errorCode_p4_0 l hk2 hc49) rfl (Nat.le_of_ble_eq_true rfl) (rfl : 364 + 3 = 367) (xdt tt_L_law1 49 rfl) ?_
  refine g_icmp_eq hC (show ((367 : Nat) : Int) + 2172 = ((2539 : Nat) : Int) by decide) (rfl : 367 + 3 = 370) (xdt tt_L_law1 50 rfl) (fun hc53 => ?_) (fun hc53 => ?_)
  · replace h := (if_pos hc53).symm.trans h
    refine g_iinc hC 4 rfl (by decide) (lv' := [(4, vi (x4 + 6)), (0, .ref b), (1, vr E r1 0), (2, vr E r2 0), (3, vr E r3 0)]) rfl (rfl : 2539 + 3 = 2542) (xdt tt_L_law24 22 rfl) ?_
    refine g_goto hC (show ((2542 : Nat) : Int) + (-2519) = ((23 : Nat) : Int) by decide) (xdt tt_L_law24 23 rfl) ?_
    refine g_sub [1, 2, 3, 4, 0] (lv' := [(0, .ref b), (1, vr E r1 0), (2, vr E r2 0), (3, vr E r3 0), (4, vi (x4 + 6))]) rfl ?_
    refine l_wid ?_
    exact hrec _ _ _ (m + 1) h (by omega) (by omega)
  · replace h := (if_neg hc53).symm.trans h
    cases h
set_option maxRecDepth 100000 in
set_option maxHeartbeats 4000000 in
theorem k_law_b372 {K : xCtx} {E : xE} {b0 b1 b L : Nat} {sc : Nat → Int} {r1 r2 r3 : Nat} (hL : lwC K E b0 b1 b L sc) (hk1 : xkd E r1 = 3) (hA1 : xFam E r1) (hk2 : xkd E r2 = 4) (hk3 : xkd E r3 = 5) {c23 : xSt → Int → Option xSt} {x4 : Int} {m : Nat} (hm : x4 = 6 * (m : Int)) (hm2 : m < 512) {S S' : xSt} (hrec : ∀ (S S' : xSt) (z : Int) (k : Nat), c23 S z = some S' → z = 6 * (k : Int) → k ≤ 512 → WG (kc K b0 b1 k) E 23 [(0, .ref b), (1, vr E r1 0), (2, vr E r2 0), (3, vr E r3 0), (4, vi z)] [] S) (h : f_law_b372 c23 r1 r2 r3 L sc S x4 = some S') : WG (kc K b0 b1 m) E 372 [(0, .ref b), (1, vr E r1 0), (2, vr E r2 0), (3, vr E r3 0), (4, vi x4)] [] S := by
  unfold f_law_b372 at h
  have hC := hL.1 m
  have hs := hL.2.1 m
  refine g_aload_n hC rfl 1 rfl (rfl : 372 + 1 = 373) (xdt tt_L_law1 53 rfl) ?_
  obtain ⟨v57, S56, hc55, h⟩ := bd2_i h
  refine g_lcallVi hC (lw_z0 hL (show m ≤ 512 by omega)) hk1 kclX11 ly3_0 m_X11_errorOffset q576 ⟨Nat.le_of_ble_eq_true rfl, Nat.le_of_ble_eq_true rfl⟩ [] rfl (fun l => c_X11_errorOffset_p3_0 l hk1 hA1 hc55) rfl (Nat.le_of_ble_eq_true rfl) (rfl : 373 + 3 = 376) (xdt tt_L_law1 54 rfl) ?_
  refine g_aload_n hC rfl 2 rfl (rfl : 376 + 1 = 377) (xdt tt_L_law1 55 rfl) ?_
  obtain ⟨v61, S60, hc59, h⟩ := bd2_i h
  refine g_lcallVi hC (lw_z0 hL (show m ≤ 512 by omega)) hk2 kclX12 ly4_0 m_X12_errorOffset q581 ⟨Nat.le_of_ble_eq_true rfl, Nat.le_of_ble_eq_true rfl⟩ [] rfl (fun l => c_X12_errorOffset_p4_0 l hk2 hc59) rfl (Nat.le_of_ble_eq_true rfl) (rfl : 377 + 3 = 380) (xdt tt_L_law1 56 rfl) ?_
  refine g_icmp_eq hC (show ((380 : Nat) : Int) + 2159 = ((2539 : Nat) : Int) by decide) (rfl : 380 + 3 = 383) (xdt tt_L_law1 57 rfl) (fun hc63 => ?_) (fun hc63 => ?_)
  · replace h := (if_pos hc63).symm.trans h
    refine g_iinc hC 4 rfl (by decide) (lv' := [(4, vi (x4 + 6)), (0, .ref b), (1, vr E r1 0), (2, vr E r2 0), (3, vr E r3 0)]) rfl (rfl : 2539 + 3 = 2542) (xdt tt_L_law24 22 rfl) ?_
    refine g_goto hC (show ((2542 : Nat) : Int) + (-2519) = ((23 : Nat) : Int) by decide) (xdt tt_L_law24 23 rfl) ?_
    refine g_sub [1, 2, 3, 4, 0] (lv' := [(0, .ref b), (1, vr E r1 0), (2, vr E r2 0), (3, vr E r3 0), (4, vi (x4 + 6))]) rfl ?_
    refine l_wid ?_
    exact hrec _ _ _ (m + 1) h (by omega) (by omega)
  · replace h := (if_neg hc63).symm.trans h
    cases h
set_option maxRecDepth 100000 in
set_option maxHeartbeats 4000000 in
theorem k_law_b385 {K : xCtx} {E : xE} {b0 b1 b L : Nat} {sc : Nat → Int} {r1 r2 r3 : Nat} (hL : lwC K E b0 b1 b L sc) (hk1 : xkd E r1 = 3) (hA1 : xFam E r1) (hk2 : xkd E r2 = 4) (hk3 : xkd E r3 = 5) {c23 : xSt → Int → Option xSt} {x4 : Int} {m : Nat} (hm : x4 = 6 * (m : Int)) (hm2 : m < 512) {S S' : xSt} (hrec : ∀ (S S' : xSt) (z : Int) (k : Nat), c23 S z = some S' → z = 6 * (k : Int) → k ≤ 512 → WG (kc K b0 b1 k) E 23 [(0, .ref b), (1, vr E r1 0), (2, vr E r2 0), (3, vr E r3 0), (4, vi z)] [] S) (h : f_law_b385 c23 r1 r2 r3 L sc S x4 = some S') : WG (kc K b0 b1 m) E 385 [(0, .ref b), (1, vr E r1 0), (2, vr E r2 0), (3, vr E r3 0), (4, vi x4)] [] S := by
  unfold f_law_b385 at h
  have hC := hL.1 m
  have hs := hL.2.1 m
  refine g_aload_n hC rfl 1 rfl (rfl : 385 + 1 = 386) (xdt tt_L_law2 0 rfl) ?_
  refine g_aload_n hC rfl 0 rfl (rfl : 386 + 1 = 387) (xdt tt_L_law2 1 rfl) ?_
  refine g_iload hC 4 rfl (rfl : 387 + 2 = 389) (xdt tt_L_law2 2 rfl) ?_
  refine g_iconst hC (rfl : 389 + 1 = 390) (xdt tt_L_law2 3 rfl) ?_
  refine g_iadd hC (rfl : 390 + 1 = 391) (xdt tt_L_law2 4 rfl) ?_
  obtain ⟨hi65, h⟩ := ckI_i h
  refine g_sld hC hs hi65 (rfl : 391 + 1 = 392) (xdt tt_L_law2 5 rfl) ?_
  obtain ⟨v68, S67, hc66, h⟩ := bd2_i h
  refine g_lcallVi hC (lw_z0 hL (show m ≤ 512 by omega)) hk1 kclX11 ly3_0 m_X11_count q585 ⟨Nat.le_of_ble_eq_true rfl, Nat.le_of_ble_eq_true rfl⟩ [vi (sc (wr (x4 + 1)).toNat)] rfl (fun l => c_X11_count_p3_0 l hk1 hA1 hc66) rfl (Nat.le_of_ble_eq_true rfl) (rfl : 392 + 3 = 395) (xdt tt_L_law2 6 rfl) ?_
  refine g_aload_n hC rfl 2 rfl (rfl : 395 + 1 = 396) (xdt tt_L_law2 7 rfl) ?_
  refine g_aload_n hC rfl 0 rfl (rfl : 396 + 1 = 397) (xdt tt_L_law2 8 rfl) ?_
  refine g_iload hC 4 rfl (rfl : 397 + 2 = 399) (xdt tt_L_law2 9 rfl) ?_
  refine g_iconst hC (rfl : 399 + 1 = 400) (xdt tt_L_law2 10 rfl) ?_
  refine g_iadd hC (rfl : 400 + 1 = 401) (xdt tt_L_law2 11 rfl) ?_
  obtain ⟨hi70, h⟩ := ckI_i h
  refine g_sld hC hs hi70 (rfl : 401 + 1 = 402) (xdt tt_L_law2 12 rfl) ?_
  obtain ⟨v73, S72, hc71, h⟩ := bd2_i h
  refine g_lcallVi hC (lw_z0 hL (show m ≤ 512 by omega)) hk2 kclX12 ly4_0 m_X12_count q610 ⟨Nat.le_of_ble_eq_true rfl, Nat.le_of_ble_eq_true rfl⟩ [vi (sc (wr (x4 + 1)).toNat)] rfl (fun l => c_X12_count_p4_0 l hk2 hc71) rfl (Nat.le_of_ble_eq_true rfl) (rfl : 402 + 3 = 405) (xdt tt_L_law2 13 rfl) ?_
  refine g_icmp_eq hC (show ((405 : Nat) : Int) + 2134 = ((2539 : Nat) : Int) by decide) (rfl : 405 + 3 = 408) (xdt tt_L_law2 14 rfl) (fun hc75 => ?_) (fun hc75 => ?_)
  · replace h := (if_pos hc75).symm.trans h
    refine g_iinc hC 4 rfl (by decide) (lv' := [(4, vi (x4 + 6)), (0, .ref b), (1, vr E r1 0), (2, vr E r2 0), (3, vr E r3 0)]) rfl (rfl : 2539 + 3 = 2542) (xdt tt_L_law24 22 rfl) ?_
    refine g_goto hC (show ((2542 : Nat) : Int) + (-2519) = ((23 : Nat) : Int) by decide) (xdt tt_L_law24 23 rfl) ?_
    refine g_sub [1, 2, 3, 4, 0] (lv' := [(0, .ref b), (1, vr E r1 0), (2, vr E r2 0), (3, vr E r3 0), (4, vi (x4 + 6))]) rfl ?_
    refine l_wid ?_
    exact hrec _ _ _ (m + 1) h (by omega) (by omega)
  · replace h := (if_neg hc75).symm.trans h
    cases h
set_option maxRecDepth 100000 in
set_option maxHeartbeats 4000000 in
theorem k_law_b410 {K : xCtx} {E : xE} {b0 b1 b L : Nat} {sc : Nat → Int} {r1 r2 r3 : Nat} (hL : lwC K E b0 b1 b L sc) (hk1 : xkd E r1 = 3) (hA1 : xFam E r1) (hk2 : xkd E r2 = 4) (hk3 : xkd E r3 = 5) {c23 : xSt → Int → Option xSt} {x4 : Int} {m : Nat} (hm : x4 = 6 * (m : Int)) (hm2 : m < 512) {S S' : xSt} (hrec : ∀ (S S' : xSt) (z : Int) (k : Nat), c23 S z = some S' → z = 6 * (k : Int) → k ≤ 512 → WG (kc K b0 b1 k) E 23 [(0, .ref b), (1, vr E r1 0), (2, vr E r2 0), (3, vr E r3 0), (4, vi z)] [] S) (h : f_law_b410 c23 r1 r2 r3 L sc S x4 = some S') : WG (kc K b0 b1 m) E 410 [(0, .ref b), (1, vr E r1 0), (2, vr E r2 0), (3, vr E r3 0), (4, vi x4)] [] S := by
  unfold f_law_b410 at h
  have hC := hL.1 m
  have hs := hL.2.1 m
  refine g_aload_n hC rfl 1 rfl (rfl : 410 + 1 = 411) (xdt tt_L_law2 17 rfl) ?_
  refine g_aload_n hC rfl 0 rfl (rfl : 411 + 1 = 412) (xdt tt_L_law2 18 rfl) ?_
  refine g_iload hC 4 rfl (rfl : 412 + 2 = 414) (xdt tt_L_law2 19 rfl) ?_
  refine g_iconst hC (rfl : 414 + 1 = 415) (xdt tt_L_law2 20 rfl) ?_
  refine g_iadd hC (rfl : 415 + 1 = 416) (xdt tt_L_law2 21 rfl) ?_
  obtain ⟨hi77, h⟩ := ckI_i h
  refine g_sld hC hs hi77 (rfl : 416 + 1 = 417) (xdt tt_L_law2 22 rfl) ?_
  refine g_aload_n hC rfl 0 rfl (rfl : 417 + 1 = 418) (xdt tt_L_law2 23 rfl) ?_
  refine g_iload hC 4 rfl (rfl : 418 + 2 = 420) (xdt tt_L_law2 24 rfl) ?_
  refine g_iconst hC (rfl : 420 + 1 = 421) (xdt tt_L_law2 25 rfl) ?_
  refine g_iadd hC (rfl : 421 + 1 = 422) (xdt tt_L_law2 26 rfl) ?_
  obtain ⟨hi78, h⟩ := ckI_i h
  refine g_sld hC hs hi78 (rfl : 422 + 1 = 423) (xdt tt_L_law2 27 rfl) ?_
  refine g_aload_n hC rfl 3 rfl (rfl : 423 + 1 = 424) (xdt tt_L_law2 28 rfl) ?_
  obtain ⟨v81, S80, hc79, h⟩ := bd2_i h
  refine g_lcallW hC (lw_z16 hL hm2) (lw_tr hL) mw_L_instruction q614 ⟨Nat.le_of_ble_eq_true rfl, Nat.le_of_ble_eq_true rfl⟩ [vr E r1 0, vi (sc (wr (x4 + 1)).toNat), vi (sc (wr (x4 + 2)).toNat), vr E r3 0] rfl (fun l htr => c_L_instruction_p3_0_5_0 l htr hk1 hA1 hk3 hc79) rfl (Nat.le_of_ble_eq_true rfl) (xdt tt_L_law2 29 rfl) ?_
  rw [bump_kc]
  have hC := hL.1 (m + 1)
  have hs := hL.2.1 (m + 1)
  refine g_istore hC (by decide) (lv' := [(5, vi v81), (0, .ref b), (1, vr E r1 0), (2, vr E r2 0), (3, vr E r3 0), (4, vi x4)]) rfl (rfl : 427 + 2 = 429) (xdt tt_L_law2 30 rfl) ?_
  refine g_aload_n hC rfl 3 rfl (rfl : 429 + 1 = 430) (xdt tt_L_law2 31 rfl) ?_
  refine g_aload_n hC rfl 1 rfl (rfl : 430 + 1 = 431) (xdt tt_L_law2 32 rfl) ?_
  refine g_iload hC 5 rfl (rfl : 431 + 2 = 433) (xdt tt_L_law2 33 rfl) ?_
  refine g_iconst hC (rfl : 433 + 1 = 434) (xdt tt_L_law2 34 rfl) ?_
  refine g_iadd hC (rfl : 434 + 1 = 435) (xdt tt_L_law2 35 rfl) ?_
  obtain ⟨hi83, h⟩ := ckI_i h
  refine g_sld hC hs hi83 (rfl : 435 + 1 = 436) (xdt tt_L_law2 36 rfl) ?_
  refine g_aload_n hC rfl 1 rfl (rfl : 436 + 1 = 437) (xdt tt_L_law2 37 rfl) ?_
  refine g_iload hC 5 rfl (rfl : 437 + 2 = 439) (xdt tt_L_law2 38 rfl) ?_
  refine g_iconst hC (rfl : 439 + 1 = 440) (xdt tt_L_law2 39 rfl) ?_
  refine g_iadd hC (rfl : 440 + 1 = 441) (xdt tt_L_law2 40 rfl) ?_
  obtain ⟨hi84, h⟩ := ckI_i h
  refine g_sld hC hs hi84 (rfl : 441 + 1 = 442) (xdt tt_L_law2 41 rfl) ?_
  obtain ⟨v87, S86, hc85, h⟩ := bd2_i h
  refine g_lcallVi hC (lw_z0 hL (show m + 1 ≤ 512 by omega)) hk2 kclX12 ly4_0 m_X12_instruction q646 ⟨Nat.le_of_ble_eq_true rfl, Nat.le_of_ble_eq_true rfl⟩ [vi (sc (wr (x4 + 1)).toNat), vi (sc (wr (x4 + 2)).toNat)] rfl (fun l => c_X12_instruction_p4_0 l hk2 hc85) rfl (Nat.le_of_ble_eq_true rfl) (rfl : 442 + 3 = 445) (xdt tt_L_law2 42 rfl) ?_
  refine g_istore hC (by decide) (lv' := [(6, vi v87), (5, vi v81), (0, .ref b), (1, vr E r1 0), (2, vr E r2 0), (3, vr E r3 0), (4, vi x4)]) rfl (rfl : 445 + 2 = 447) (xdt tt_L_law2 43 rfl) ?_
  refine g_aload_n hC rfl 4 rfl (rfl : 447 + 1 = 448) (xdt tt_L_law2 44 rfl) ?_
  obtain ⟨v91, S90, hc89, h⟩ := bd2_i h
  refine g_lcallVi hC (lw_z0 hL (show m + 1 ≤ 512 by omega)) hk2 kclX12 ly4_0 m_X12_thrown q672 ⟨Nat.le_of_ble_eq_true rfl, Nat.le_of_ble_eq_true rfl⟩ [] rfl (fun l => c_X12_thrown_p4_0 l hk2 hc89) rfl (Nat.le_of_ble_eq_true rfl) (rfl : 448 + 3 = 451) (xdt tt_L_law2 45 rfl) ?_
  refine g_iload hC 1 rfl (rfl : 451 + 2 = 453) (xdt tt_L_law2 46 rfl) ?_
  refine g_icmp_eq hC (show ((453 : Nat) : Int) + 5 = ((458 : Nat) : Int) by decide) (rfl : 453 + 3 = 456) (xdt tt_L_law2 47 rfl) (fun hc95 => ?_) (fun hc95 => ?_)
  · replace h := (if_pos hc95).symm.trans h
    refine g_iload hC 1 rfl (rfl : 458 + 2 = 460) (xdt tt_L_law2 50 rfl) ?_
    refine g_if_ne hC (show ((460 : Nat) : Int) + 15 = ((475 : Nat) : Int) by decide) (rfl : 460 + 3 = 463) (xdt tt_L_law2 51 rfl) (fun hc94 => ?_) (fun hc94 => ?_)
    · replace h := (if_pos hc94).symm.trans h
      refine g_goto hC (show ((475 : Nat) : Int) + 2064 = ((2539 : Nat) : Int) by decide) (xdt tt_L_law3 1 rfl) ?_
      refine g_iinc hC 6 rfl (by decide) (lv' := [(4, vi (x4 + 6)), (6, vi v87), (5, vi v81), (0, .ref b), (1, vr E r1 0), (2, vr E r2 0), (3, vr E r3 0)]) rfl (rfl : 2539 + 3 = 2542) (xdt tt_L_law24 22 rfl) ?_
      refine g_goto hC (show ((2542 : Nat) : Int) + (-2519) = ((23 : Nat) : Int) by decide) (xdt tt_L_law24 23 rfl) ?_
      refine g_sub [3, 4, 5, 6, 0] (lv' := [(0, .ref b), (1, vr E r1 0), (2, vr E r2 0), (3, vr E r3 0), (4, vi (x4 + 6))]) rfl ?_
      exact hrec _ _ _ (m + 1) h (by omega) (by omega)
    · replace h := (if_neg hc94).symm.trans h
      refine g_aload_n hC rfl 5 rfl (rfl : 463 + 1 = 464) (xdt tt_L_law2 52 rfl) ?_
      refine g_iconst hC (rfl : 464 + 1 = 465) (xdt tt_L_law2 53 rfl) ?_
      refine g_lald hC hk3 ly5_0 (by decide) (rfl : 465 + 1 = 466) (xdt tt_L_law2 54 rfl) (k0 := 0) (by decide) ?_
      refine g_iload hC 0 rfl (rfl : 466 + 2 = 468) (xdt tt_L_law2 55 rfl) ?_
      refine g_i2l hC (rfl : 468 + 1 = 469) (xdt tt_L_law2 56 rfl) ?_
      refine g_lcmp hC (rfl : 469 + 1 = 470) (xdt tt_L_law2 57 rfl) ?_
      refine g_if_eq hC (show ((470 : Nat) : Int) + 5 = ((475 : Nat) : Int) by decide) (rfl : 470 + 3 = 473) (xdt tt_L_law2 58 rfl) (fun hc93 => ?_) (fun hc93 => ?_)
      · replace h := (if_pos hc93).symm.trans h
        refine g_goto hC (show ((475 : Nat) : Int) + 2064 = ((2539 : Nat) : Int) by decide) (xdt tt_L_law3 1 rfl) ?_
        refine g_iinc hC 6 rfl (by decide) (lv' := [(4, vi (x4 + 6)), (6, vi v87), (5, vi v81), (0, .ref b), (1, vr E r1 0), (2, vr E r2 0), (3, vr E r3 0)]) rfl (rfl : 2539 + 3 = 2542) (xdt tt_L_law24 22 rfl) ?_
        refine g_goto hC (show ((2542 : Nat) : Int) + (-2519) = ((23 : Nat) : Int) by decide) (xdt tt_L_law24 23 rfl) ?_
        refine g_sub [3, 4, 5, 6, 0] (lv' := [(0, .ref b), (1, vr E r1 0), (2, vr E r2 0), (3, vr E r3 0), (4, vi (x4 + 6))]) rfl ?_
        exact hrec _ _ _ (m + 1) h (by omega) (by omega)
      · replace h := (if_neg hc93).symm.trans h
        cases h
  · replace h := (if_neg hc95).symm.trans h
    cases h
set_option maxRecDepth 100000 in
set_option maxHeartbeats 4000000 in
theorem k_law_b478 {K : xCtx} {E : xE} {b0 b1 b L : Nat} {sc : Nat → Int} {r1 r2 r3 : Nat} (hL : lwC K E b0 b1 b L sc) (hk1 : xkd E r1 = 3) (hA1 : xFam E r1) (hk2 : xkd E r2 = 4) (hk3 : xkd E r3 = 5) {c23 : xSt → Int → Option xSt} {x4 : Int} {m : Nat} (hm : x4 = 6 * (m : Int)) (hm2 : m < 512) {S S' : xSt} (hrec : ∀ (S S' : xSt) (z : Int) (k : Nat), c23 S z = some S' → z = 6 * (k : Int) → k ≤ 512 → WG (kc K b0 b1 k) E 23 [(0, .ref b), (1, vr E r1 0), (2, vr E r2 0), (3, vr E r3 0), (4, vi z)] [] S) (h : f_law_b478 c23 r1 r2 r3 L sc S x4 = some S') : WG (kc K b0 b1 m) E 478 [(0, .ref b), (1, vr E r1 0), (2, vr E r2 0), (3, vr E r3 0), (4, vi x4)] [] S := by
  unfold f_law_b478 at h
  have hC := hL.1 m
  have hs := hL.2.1 m
  refine g_aload_n hC rfl 1 rfl (rfl : 478 + 1 = 479) (xdt tt_L_law3 2 rfl) ?_
  refine g_aload_n hC rfl 0 rfl (rfl : 479 + 1 = 480) (xdt tt_L_law3 3 rfl) ?_
  refine g_iload hC 4 rfl (rfl : 480 + 2 = 482) (xdt tt_L_law3 4 rfl) ?_
  refine g_iconst hC (rfl : 482 + 1 = 483) (xdt tt_L_law3 5 rfl) ?_
  refine g_iadd hC (rfl : 483 + 1 = 484) (xdt tt_L_law3 6 rfl) ?_
  obtain ⟨hi97, h⟩ := ckI_i h
  refine g_sld hC hs hi97 (rfl : 484 + 1 = 485) (xdt tt_L_law3 7 rfl) ?_
  obtain ⟨v100, S99, hc98, h⟩ := bd2_i h
  refine g_lcallVi hC (lw_z0 hL (show m ≤ 512 by omega)) hk1 kclX11 ly3_0 m_X11_at q676 ⟨Nat.le_of_ble_eq_true rfl, Nat.le_of_ble_eq_true rfl⟩ [vi (sc (wr (x4 + 1)).toNat)] rfl (fun l => c_X11_at_p3_0 l hk1 hA1 hc98) rfl (Nat.le_of_ble_eq_true rfl) (rfl : 485 + 3 = 488) (xdt tt_L_law3 8 rfl) ?_
  refine g_aload_n hC rfl 2 rfl (rfl : 488 + 1 = 489) (xdt tt_L_law3 9 rfl) ?_
  refine g_aload_n hC rfl 0 rfl (rfl : 489 + 1 = 490) (xdt tt_L_law3 10 rfl) ?_
  refine g_iload hC 4 rfl (rfl : 490 + 2 = 492) (xdt tt_L_law3 11 rfl) ?_
  refine g_iconst hC (rfl : 492 + 1 = 493) (xdt tt_L_law3 12 rfl) ?_
  refine g_iadd hC (rfl : 493 + 1 = 494) (xdt tt_L_law3 13 rfl) ?_
  obtain ⟨hi102, h⟩ := ckI_i h
  refine g_sld hC hs hi102 (rfl : 494 + 1 = 495) (xdt tt_L_law3 14 rfl) ?_
  obtain ⟨v105, S104, hc103, h⟩ := bd2_i h
  refine g_lcallVi hC (lw_z0 hL (show m ≤ 512 by omega)) hk2 kclX12 ly4_0 m_X12_at q681 ⟨Nat.le_of_ble_eq_true rfl, Nat.le_of_ble_eq_true rfl⟩ [vi (sc (wr (x4 + 1)).toNat)] rfl (fun l => c_X12_at_p4_0 l hk2 hc103) rfl (Nat.le_of_ble_eq_true rfl) (rfl : 495 + 3 = 498) (xdt tt_L_law3 15 rfl) ?_
  refine g_icmp_eq hC (show ((498 : Nat) : Int) + 2041 = ((2539 : Nat) : Int) by decide) (rfl : 498 + 3 = 501) (xdt tt_L_law3 16 rfl) (fun hc107 => ?_) (fun hc107 => ?_)
  · replace h := (if_pos hc107).symm.trans h
    refine g_iinc hC 4 rfl (by decide) (lv' := [(4, vi (x4 + 6)), (0, .ref b), (1, vr E r1 0), (2, vr E r2 0), (3, vr E r3 0)]) rfl (rfl : 2539 + 3 = 2542) (xdt tt_L_law24 22 rfl) ?_
    refine g_goto hC (show ((2542 : Nat) : Int) + (-2519) = ((23 : Nat) : Int) by decide) (xdt tt_L_law24 23 rfl) ?_
    refine g_sub [1, 2, 3, 4, 0] (lv' := [(0, .ref b), (1, vr E r1 0), (2, vr E r2 0), (3, vr E r3 0), (4, vi (x4 + 6))]) rfl ?_
    refine l_wid ?_
    exact hrec _ _ _ (m + 1) h (by omega) (by omega)
  · replace h := (if_neg hc107).symm.trans h
    cases h
set_option maxRecDepth 100000 in
set_option maxHeartbeats 4000000 in
theorem k_law_b503 {K : xCtx} {E : xE} {b0 b1 b L : Nat} {sc : Nat → Int} {r1 r2 r3 : Nat} (hL : lwC K E b0 b1 b L sc) (hk1 : xkd E r1 = 3) (hA1 : xFam E r1) (hk2 : xkd E r2 = 4) (hk3 : xkd E r3 = 5) {c23 : xSt → Int → Option xSt} {x4 : Int} {m : Nat} (hm : x4 = 6 * (m : Int)) (hm2 : m < 512) {S S' : xSt} (hrec : ∀ (S S' : xSt) (z : Int) (k : Nat), c23 S z = some S' → z = 6 * (k : Int) → k ≤ 512 → WG (kc K b0 b1 k) E 23 [(0, .ref b), (1, vr E r1 0), (2, vr E r2 0), (3, vr E r3 0), (4, vi z)] [] S) (h : f_law_b503 c23 r1 r2 r3 L sc S x4 = some S') : WG (kc K b0 b1 m) E 503 [(0, .ref b), (1, vr E r1 0), (2, vr E r2 0), (3, vr E r3 0), (4, vi x4)] [] S := by
  unfold f_law_b503 at h
  have hC := hL.1 m
  have hs := hL.2.1 m
  refine g_aload_n hC rfl 1 rfl (rfl : 503 + 1 = 504) (xdt tt_L_law3 19 rfl) ?_
  refine g_aload_n hC rfl 0 rfl (rfl : 504 + 1 = 505) (xdt tt_L_law3 20 rfl) ?_
  refine g_iload hC 4 rfl (rfl : 505 + 2 = 507) (xdt tt_L_law3 21 rfl) ?_
  refine g_iconst hC (rfl : 507 + 1 = 508) (xdt tt_L_law3 22 rfl) ?_
  refine g_iadd hC (rfl : 508 + 1 = 509) (xdt tt_L_law3 23 rfl) ?_
  obtain ⟨hi109, h⟩ := ckI_i h
  refine g_sld hC hs hi109 (rfl : 509 + 1 = 510) (xdt tt_L_law3 24 rfl) ?_
  refine g_aload_n hC rfl 3 rfl (rfl : 510 + 1 = 511) (xdt tt_L_law3 25 rfl) ?_
  obtain ⟨v112, S111, hc110, h⟩ := bd2_i h
  refine g_lcallW hC (lw_z16 hL hm2) (lw_tr hL) mw_L_crosses q685 ⟨Nat.le_of_ble_eq_true rfl, Nat.le_of_ble_eq_true rfl⟩ [vr E r1 0, vi (sc (wr (x4 + 1)).toNat), vr E r3 0] rfl (fun l htr => c_L_crosses_p3_0_5_0 l htr hk1 hA1 hk3 hc110) rfl (Nat.le_of_ble_eq_true rfl) (xdt tt_L_law3 26 rfl) ?_
  rw [bump_kc]
  have hC := hL.1 (m + 1)
  have hs := hL.2.1 (m + 1)
  refine g_istore hC (by decide) (lv' := [(5, vi v112), (0, .ref b), (1, vr E r1 0), (2, vr E r2 0), (3, vr E r3 0), (4, vi x4)]) rfl (rfl : 514 + 2 = 516) (xdt tt_L_law3 27 rfl) ?_
  refine g_aload_n hC rfl 3 rfl (rfl : 516 + 1 = 517) (xdt tt_L_law3 28 rfl) ?_
  refine g_aload_n hC rfl 1 rfl (rfl : 517 + 1 = 518) (xdt tt_L_law3 29 rfl) ?_
  refine g_iload hC 5 rfl (rfl : 518 + 2 = 520) (xdt tt_L_law3 30 rfl) ?_
  refine g_iconst hC (rfl : 520 + 1 = 521) (xdt tt_L_law3 31 rfl) ?_
  refine g_iadd hC (rfl : 521 + 1 = 522) (xdt tt_L_law3 32 rfl) ?_
  obtain ⟨hi114, h⟩ := ckI_i h
  refine g_sld hC hs hi114 (rfl : 522 + 1 = 523) (xdt tt_L_law3 33 rfl) ?_
  obtain ⟨v117, S116, hc115, h⟩ := bd2_i h
  refine g_lcallVz hC (lw_z0 hL (show m + 1 ≤ 512 by omega)) hk2 kclX12 ly4_0 m_X12_crosses q700 ⟨Nat.le_of_ble_eq_true rfl, Nat.le_of_ble_eq_true rfl⟩ [vi (sc (wr (x4 + 1)).toNat)] rfl (fun l => c_X12_crosses_p4_0 l hk2 hc115) rfl (Nat.le_of_ble_eq_true rfl) (rfl : 523 + 3 = 526) (xdt tt_L_law3 34 rfl) (fun hb118 => ?_)
  refine g_istore hC (by decide) (lv' := [(6, vi v117), (5, vi v112), (0, .ref b), (1, vr E r1 0), (2, vr E r2 0), (3, vr E r3 0), (4, vi x4)]) rfl (rfl : 526 + 2 = 528) (xdt tt_L_law3 35 rfl) ?_
  refine g_aload_n hC rfl 4 rfl (rfl : 528 + 1 = 529) (xdt tt_L_law3 36 rfl) ?_
  obtain ⟨v121, S120, hc119, h⟩ := bd2_i h
  refine g_lcallVi hC (lw_z0 hL (show m + 1 ≤ 512 by omega)) hk2 kclX12 ly4_0 m_X12_thrown q672 ⟨Nat.le_of_ble_eq_true rfl, Nat.le_of_ble_eq_true rfl⟩ [] rfl (fun l => c_X12_thrown_p4_0 l hk2 hc119) rfl (Nat.le_of_ble_eq_true rfl) (rfl : 529 + 3 = 532) (xdt tt_L_law3 37 rfl) ?_
  refine g_iload hC 1 rfl (rfl : 532 + 2 = 534) (xdt tt_L_law3 38 rfl) ?_
  refine g_icmp_eq hC (show ((534 : Nat) : Int) + 5 = ((539 : Nat) : Int) by decide) (rfl : 534 + 3 = 537) (xdt tt_L_law3 39 rfl) (fun hc127 => ?_) (fun hc127 => ?_)
  · replace h := (if_pos hc127).symm.trans h
    refine g_iload hC 1 rfl (rfl : 539 + 2 = 541) (xdt tt_L_law3 42 rfl) ?_
    refine g_if_ne hC (show ((541 : Nat) : Int) + 22 = ((563 : Nat) : Int) by decide) (rfl : 541 + 3 = 544) (xdt tt_L_law3 43 rfl) (fun hc126 => ?_) (fun hc126 => ?_)
    · replace h := (if_pos hc126).symm.trans h
      refine g_goto hC (show ((563 : Nat) : Int) + 1976 = ((2539 : Nat) : Int) by decide) (xdt tt_L_law3 56 rfl) ?_
      refine g_iinc hC 6 rfl (by decide) (lv' := [(4, vi (x4 + 6)), (6, vi v117), (5, vi v112), (0, .ref b), (1, vr E r1 0), (2, vr E r2 0), (3, vr E r3 0)]) rfl (rfl : 2539 + 3 = 2542) (xdt tt_L_law24 22 rfl) ?_
      refine g_goto hC (show ((2542 : Nat) : Int) + (-2519) = ((23 : Nat) : Int) by decide) (xdt tt_L_law24 23 rfl) ?_
      refine g_sub [3, 4, 5, 6, 0] (lv' := [(0, .ref b), (1, vr E r1 0), (2, vr E r2 0), (3, vr E r3 0), (4, vi (x4 + 6))]) rfl ?_
      exact hrec _ _ _ (m + 1) h (by omega) (by omega)
    · replace h := (if_neg hc126).symm.trans h
      refine g_aload_n hC rfl 5 rfl (rfl : 544 + 1 = 545) (xdt tt_L_law3 44 rfl) ?_
      refine g_iconst hC (rfl : 545 + 1 = 546) (xdt tt_L_law3 45 rfl) ?_
      refine g_lald hC hk3 ly5_0 (by decide) (rfl : 546 + 1 = 547) (xdt tt_L_law3 46 rfl) (k0 := 0) (by decide) ?_
      refine g_iload hC 0 rfl (rfl : 547 + 2 = 549) (xdt tt_L_law3 47 rfl) ?_
      refine g_if_eq hC (show ((549 : Nat) : Int) + 7 = ((556 : Nat) : Int) by decide) (rfl : 549 + 3 = 552) (xdt tt_L_law3 48 rfl) (fun hc125 => ?_) (fun hc125 => ?_)
      · replace h := (if_pos hc125).symm.trans h
        refine g_lconst hC (z := 0) (by decide) (rfl : 556 + 1 = 557) (xdt tt_L_law3 51 rfl) ?_
        refine g_lcmp hC (rfl : 557 + 1 = 558) (xdt tt_L_law3 52 rfl) ?_
        refine g_if_eq hC (show ((558 : Nat) : Int) + 5 = ((563 : Nat) : Int) by decide) (rfl : 558 + 3 = 561) (xdt tt_L_law3 53 rfl) (fun hc123 => ?_) (fun hc123 => ?_)
        · replace h := (if_pos hc123).symm.trans h
          refine g_goto hC (show ((563 : Nat) : Int) + 1976 = ((2539 : Nat) : Int) by decide) (xdt tt_L_law3 56 rfl) ?_
          refine g_iinc hC 6 rfl (by decide) (lv' := [(4, vi (x4 + 6)), (6, vi v117), (5, vi v112), (0, .ref b), (1, vr E r1 0), (2, vr E r2 0), (3, vr E r3 0)]) rfl (rfl : 2539 + 3 = 2542) (xdt tt_L_law24 22 rfl) ?_
          refine g_goto hC (show ((2542 : Nat) : Int) + (-2519) = ((23 : Nat) : Int) by decide) (xdt tt_L_law24 23 rfl) ?_
          refine g_sub [3, 4, 5, 6, 0] (lv' := [(0, .ref b), (1, vr E r1 0), (2, vr E r2 0), (3, vr E r3 0), (4, vi (x4 + 6))]) rfl ?_
          exact hrec _ _ _ (m + 1) h (by omega) (by omega)
        · replace h := (if_neg hc123).symm.trans h
          cases h
      · replace h := (if_neg hc125).symm.trans h
        refine g_lconst hC (z := 1) (by decide) (rfl : 552 + 1 = 553) (xdt tt_L_law3 49 rfl) ?_
        refine g_goto hC (show ((553 : Nat) : Int) + 4 = ((557 : Nat) : Int) by decide) (xdt tt_L_law3 50 rfl) ?_
        refine g_lcmp hC (rfl : 557 + 1 = 558) (xdt tt_L_law3 52 rfl) ?_
        refine g_if_eq hC (show ((558 : Nat) : Int) + 5 = ((563 : Nat) : Int) by decide) (rfl : 558 + 3 = 561) (xdt tt_L_law3 53 rfl) (fun hc124 => ?_) (fun hc124 => ?_)
        · replace h := (if_pos hc124).symm.trans h
          refine g_goto hC (show ((563 : Nat) : Int) + 1976 = ((2539 : Nat) : Int) by decide) (xdt tt_L_law3 56 rfl) ?_
          refine g_iinc hC 6 rfl (by decide) (lv' := [(4, vi (x4 + 6)), (6, vi v117), (5, vi v112), (0, .ref b), (1, vr E r1 0), (2, vr E r2 0), (3, vr E r3 0)]) rfl (rfl : 2539 + 3 = 2542) (xdt tt_L_law24 22 rfl) ?_
          refine g_goto hC (show ((2542 : Nat) : Int) + (-2519) = ((23 : Nat) : Int) by decide) (xdt tt_L_law24 23 rfl) ?_
          refine g_sub [3, 4, 5, 6, 0] (lv' := [(0, .ref b), (1, vr E r1 0), (2, vr E r2 0), (3, vr E r3 0), (4, vi (x4 + 6))]) rfl ?_
          exact hrec _ _ _ (m + 1) h (by omega) (by omega)
        · replace h := (if_neg hc124).symm.trans h
          cases h
  · replace h := (if_neg hc127).symm.trans h
    cases h
set_option maxRecDepth 100000 in
set_option maxHeartbeats 4000000 in
theorem k_law_b566 {K : xCtx} {E : xE} {b0 b1 b L : Nat} {sc : Nat → Int} {r1 r2 r3 : Nat} (hL : lwC K E b0 b1 b L sc) (hk1 : xkd E r1 = 3) (hA1 : xFam E r1) (hk2 : xkd E r2 = 4) (hk3 : xkd E r3 = 5) {c23 : xSt → Int → Option xSt} {x4 : Int} {m : Nat} (hm : x4 = 6 * (m : Int)) (hm2 : m < 512) {S S' : xSt} (hrec : ∀ (S S' : xSt) (z : Int) (k : Nat), c23 S z = some S' → z = 6 * (k : Int) → k ≤ 512 → WG (kc K b0 b1 k) E 23 [(0, .ref b), (1, vr E r1 0), (2, vr E r2 0), (3, vr E r3 0), (4, vi z)] [] S) (h : f_law_b566 c23 r1 r2 r3 L sc S x4 = some S') : WG (kc K b0 b1 m) E 566 [(0, .ref b), (1, vr E r1 0), (2, vr E r2 0), (3, vr E r3 0), (4, vi x4)] [] S := by
  unfold f_law_b566 at h
  have hC := hL.1 m
  have hs := hL.2.1 m
  refine g_aload_n hC rfl 1 rfl (rfl : 566 + 1 = 567) (xdt tt_L_law3 57 rfl) ?_
  refine g_aload_n hC rfl 0 rfl (rfl : 567 + 1 = 568) (xdt tt_L_law3 58 rfl) ?_
  refine g_iload hC 4 rfl (rfl : 568 + 2 = 570) (xdt tt_L_law3 59 rfl) ?_
  refine g_iconst hC (rfl : 570 + 1 = 571) (xdt tt_L_law4 0 rfl) ?_
  refine g_iadd hC (rfl : 571 + 1 = 572) (xdt tt_L_law4 1 rfl) ?_
  obtain ⟨hi129, h⟩ := ckI_i h
  refine g_sld hC hs hi129 (rfl : 572 + 1 = 573) (xdt tt_L_law4 2 rfl) ?_
  refine g_aload_n hC rfl 3 rfl (rfl : 573 + 1 = 574) (xdt tt_L_law4 3 rfl) ?_
  obtain ⟨v132, S131, hc130, h⟩ := bd2_i h
  refine g_lcallW hC (lw_z16 hL hm2) (lw_tr hL) mw_L_fuses q712 ⟨Nat.le_of_ble_eq_true rfl, Nat.le_of_ble_eq_true rfl⟩ [vr E r1 0, vi (sc (wr (x4 + 1)).toNat), vr E r3 0] rfl (fun l htr => c_L_fuses_p3_0_5_0 l htr hk1 hA1 hk3 hc130) rfl (Nat.le_of_ble_eq_true rfl) (xdt tt_L_law4 4 rfl) ?_
  rw [bump_kc]
  have hC := hL.1 (m + 1)
  have hs := hL.2.1 (m + 1)
  refine g_istore hC (by decide) (lv' := [(5, vi v132), (0, .ref b), (1, vr E r1 0), (2, vr E r2 0), (3, vr E r3 0), (4, vi x4)]) rfl (rfl : 577 + 2 = 579) (xdt tt_L_law4 5 rfl) ?_
  refine g_aload_n hC rfl 3 rfl (rfl : 579 + 1 = 580) (xdt tt_L_law4 6 rfl) ?_
  refine g_aload_n hC rfl 1 rfl (rfl : 580 + 1 = 581) (xdt tt_L_law4 7 rfl) ?_
  refine g_iload hC 5 rfl (rfl : 581 + 2 = 583) (xdt tt_L_law4 8 rfl) ?_
  refine g_iconst hC (rfl : 583 + 1 = 584) (xdt tt_L_law4 9 rfl) ?_
  refine g_iadd hC (rfl : 584 + 1 = 585) (xdt tt_L_law4 10 rfl) ?_
  obtain ⟨hi134, h⟩ := ckI_i h
  refine g_sld hC hs hi134 (rfl : 585 + 1 = 586) (xdt tt_L_law4 11 rfl) ?_
  obtain ⟨v137, S136, hc135, h⟩ := bd2_i h
  refine g_lcallVz hC (lw_z0 hL (show m + 1 ≤ 512 by omega)) hk2 kclX12 ly4_0 m_X12_fuses q727 ⟨Nat.le_of_ble_eq_true rfl, Nat.le_of_ble_eq_true rfl⟩ [vi (sc (wr (x4 + 1)).toNat)] rfl (fun l => c_X12_fuses_p4_0 l hk2 hc135) rfl (Nat.le_of_ble_eq_true rfl) (rfl : 586 + 3 = 589) (xdt tt_L_law4 12 rfl) (fun hb138 => ?_)
  refine g_istore hC (by decide) (lv' := [(6, vi v137), (5, vi v132), (0, .ref b), (1, vr E r1 0), (2, vr E r2 0), (3, vr E r3 0), (4, vi x4)]) rfl (rfl : 589 + 2 = 591) (xdt tt_L_law4 13 rfl) ?_
  refine g_aload_n hC rfl 4 rfl (rfl : 591 + 1 = 592) (xdt tt_L_law4 14 rfl) ?_
  obtain ⟨v141, S140, hc139, h⟩ := bd2_i h
  refine g_lcallVi hC (lw_z0 hL (show m + 1 ≤ 512 by omega)) hk2 kclX12 ly4_0 m_X12_thrown q672 ⟨Nat.le_of_ble_eq_true rfl, Nat.le_of_ble_eq_true rfl⟩ [] rfl (fun l => c_X12_thrown_p4_0 l hk2 hc139) rfl (Nat.le_of_ble_eq_true rfl) (rfl : 592 + 3 = 595) (xdt tt_L_law4 15 rfl) ?_
  refine g_iload hC 1 rfl (rfl : 595 + 2 = 597) (xdt tt_L_law4 16 rfl) ?_
  refine g_icmp_eq hC (show ((597 : Nat) : Int) + 5 = ((602 : Nat) : Int) by decide) (rfl : 597 + 3 = 600) (xdt tt_L_law4 17 rfl) (fun hc147 => ?_) (fun hc147 => ?_)
  · replace h := (if_pos hc147).symm.trans h
    refine g_iload hC 1 rfl (rfl : 602 + 2 = 604) (xdt tt_L_law4 20 rfl) ?_
    refine g_if_ne hC (show ((604 : Nat) : Int) + 22 = ((626 : Nat) : Int) by decide) (rfl : 604 + 3 = 607) (xdt tt_L_law4 21 rfl) (fun hc146 => ?_) (fun hc146 => ?_)
    · replace h := (if_pos hc146).symm.trans h
      refine g_goto hC (show ((626 : Nat) : Int) + 1913 = ((2539 : Nat) : Int) by decide) (xdt tt_L_law4 34 rfl) ?_
      refine g_iinc hC 6 rfl (by decide) (lv' := [(4, vi (x4 + 6)), (6, vi v137), (5, vi v132), (0, .ref b), (1, vr E r1 0), (2, vr E r2 0), (3, vr E r3 0)]) rfl (rfl : 2539 + 3 = 2542) (xdt tt_L_law24 22 rfl) ?_
      refine g_goto hC (show ((2542 : Nat) : Int) + (-2519) = ((23 : Nat) : Int) by decide) (xdt tt_L_law24 23 rfl) ?_
      refine g_sub [3, 4, 5, 6, 0] (lv' := [(0, .ref b), (1, vr E r1 0), (2, vr E r2 0), (3, vr E r3 0), (4, vi (x4 + 6))]) rfl ?_
      exact hrec _ _ _ (m + 1) h (by omega) (by omega)
    · replace h := (if_neg hc146).symm.trans h
      refine g_aload_n hC rfl 5 rfl (rfl : 607 + 1 = 608) (xdt tt_L_law4 22 rfl) ?_
      refine g_iconst hC (rfl : 608 + 1 = 609) (xdt tt_L_law4 23 rfl) ?_
      refine g_lald hC hk3 ly5_0 (by decide) (rfl : 609 + 1 = 610) (xdt tt_L_law4 24 rfl) (k0 := 0) (by decide) ?_
      refine g_iload hC 0 rfl (rfl : 610 + 2 = 612) (xdt tt_L_law4 25 rfl) ?_
      refine g_if_eq hC (show ((612 : Nat) : Int) + 7 = ((619 : Nat) : Int) by decide) (rfl : 612 + 3 = 615) (xdt tt_L_law4 26 rfl) (fun hc145 => ?_) (fun hc145 => ?_)
      · replace h := (if_pos hc145).symm.trans h
        refine g_lconst hC (z := 0) (by decide) (rfl : 619 + 1 = 620) (xdt tt_L_law4 29 rfl) ?_
        refine g_lcmp hC (rfl : 620 + 1 = 621) (xdt tt_L_law4 30 rfl) ?_
        refine g_if_eq hC (show ((621 : Nat) : Int) + 5 = ((626 : Nat) : Int) by decide) (rfl : 621 + 3 = 624) (xdt tt_L_law4 31 rfl) (fun hc143 => ?_) (fun hc143 => ?_)
        · replace h := (if_pos hc143).symm.trans h
          refine g_goto hC (show ((626 : Nat) : Int) + 1913 = ((2539 : Nat) : Int) by decide) (xdt tt_L_law4 34 rfl) ?_
          refine g_iinc hC 6 rfl (by decide) (lv' := [(4, vi (x4 + 6)), (6, vi v137), (5, vi v132), (0, .ref b), (1, vr E r1 0), (2, vr E r2 0), (3, vr E r3 0)]) rfl (rfl : 2539 + 3 = 2542) (xdt tt_L_law24 22 rfl) ?_
          refine g_goto hC (show ((2542 : Nat) : Int) + (-2519) = ((23 : Nat) : Int) by decide) (xdt tt_L_law24 23 rfl) ?_
          refine g_sub [3, 4, 5, 6, 0] (lv' := [(0, .ref b), (1, vr E r1 0), (2, vr E r2 0), (3, vr E r3 0), (4, vi (x4 + 6))]) rfl ?_
          exact hrec _ _ _ (m + 1) h (by omega) (by omega)
        · replace h := (if_neg hc143).symm.trans h
          cases h
      · replace h := (if_neg hc145).symm.trans h
        refine g_lconst hC (z := 1) (by decide) (rfl : 615 + 1 = 616) (xdt tt_L_law4 27 rfl) ?_
        refine g_goto hC (show ((616 : Nat) : Int) + 4 = ((620 : Nat) : Int) by decide) (xdt tt_L_law4 28 rfl) ?_
        refine g_lcmp hC (rfl : 620 + 1 = 621) (xdt tt_L_law4 30 rfl) ?_
        refine g_if_eq hC (show ((621 : Nat) : Int) + 5 = ((626 : Nat) : Int) by decide) (rfl : 621 + 3 = 624) (xdt tt_L_law4 31 rfl) (fun hc144 => ?_) (fun hc144 => ?_)
        · replace h := (if_pos hc144).symm.trans h
          refine g_goto hC (show ((626 : Nat) : Int) + 1913 = ((2539 : Nat) : Int) by decide) (xdt tt_L_law4 34 rfl) ?_
          refine g_iinc hC 6 rfl (by decide) (lv' := [(4, vi (x4 + 6)), (6, vi v137), (5, vi v132), (0, .ref b), (1, vr E r1 0), (2, vr E r2 0), (3, vr E r3 0)]) rfl (rfl : 2539 + 3 = 2542) (xdt tt_L_law24 22 rfl) ?_
          refine g_goto hC (show ((2542 : Nat) : Int) + (-2519) = ((23 : Nat) : Int) by decide) (xdt tt_L_law24 23 rfl) ?_
          refine g_sub [3, 4, 5, 6, 0] (lv' := [(0, .ref b), (1, vr E r1 0), (2, vr E r2 0), (3, vr E r3 0), (4, vi (x4 + 6))]) rfl ?_
          exact hrec _ _ _ (m + 1) h (by omega) (by omega)
        · replace h := (if_neg hc144).symm.trans h
          cases h
  · replace h := (if_neg hc147).symm.trans h
    cases h
set_option maxRecDepth 100000 in
set_option maxHeartbeats 4000000 in
theorem k_law_b629 {K : xCtx} {E : xE} {b0 b1 b L : Nat} {sc : Nat → Int} {r1 r2 r3 : Nat} (hL : lwC K E b0 b1 b L sc) (hk1 : xkd E r1 = 3) (hA1 : xFam E r1) (hk2 : xkd E r2 = 4) (hk3 : xkd E r3 = 5) {c23 : xSt → Int → Option xSt} {x4 : Int} {m : Nat} (hm : x4 = 6 * (m : Int)) (hm2 : m < 512) {S S' : xSt} (hrec : ∀ (S S' : xSt) (z : Int) (k : Nat), c23 S z = some S' → z = 6 * (k : Int) → k ≤ 512 → WG (kc K b0 b1 k) E 23 [(0, .ref b), (1, vr E r1 0), (2, vr E r2 0), (3, vr E r3 0), (4, vi z)] [] S) (h : f_law_b629 c23 r1 r2 r3 L sc S x4 = some S') : WG (kc K b0 b1 m) E 629 [(0, .ref b), (1, vr E r1 0), (2, vr E r2 0), (3, vr E r3 0), (4, vi x4)] [] S := by
  unfold f_law_b629 at h
  have hC := hL.1 m
  have hs := hL.2.1 m
  refine g_aload_n hC rfl 1 rfl (rfl : 629 + 1 = 630) (xdt tt_L_law4 35 rfl) ?_
  refine g_aload_n hC rfl 0 rfl (rfl : 630 + 1 = 631) (xdt tt_L_law4 36 rfl) ?_
  refine g_iload hC 4 rfl (rfl : 631 + 2 = 633) (xdt tt_L_law4 37 rfl) ?_
  refine g_iconst hC (rfl : 633 + 1 = 634) (xdt tt_L_law4 38 rfl) ?_
  refine g_iadd hC (rfl : 634 + 1 = 635) (xdt tt_L_law4 39 rfl) ?_
  obtain ⟨hi149, h⟩ := ckI_i h
  refine g_sld hC hs hi149 (rfl : 635 + 1 = 636) (xdt tt_L_law4 40 rfl) ?_
  refine g_aload_n hC rfl 3 rfl (rfl : 636 + 1 = 637) (xdt tt_L_law4 41 rfl) ?_
  obtain ⟨v152, S151, hc150, h⟩ := bd2_i h
  refine g_lcallW hC (lw_z16 hL hm2) (lw_tr hL) mw_L_isLoopable q739 ⟨Nat.le_of_ble_eq_true rfl, Nat.le_of_ble_eq_true rfl⟩ [vr E r1 0, vi (sc (wr (x4 + 1)).toNat), vr E r3 0] rfl (fun l htr => c_L_isLoopable_p3_0_5_0 l htr hk1 hA1 hk3 hc150) rfl (Nat.le_of_ble_eq_true rfl) (xdt tt_L_law4 42 rfl) ?_
  rw [bump_kc]
  have hC := hL.1 (m + 1)
  have hs := hL.2.1 (m + 1)
  refine g_istore hC (by decide) (lv' := [(5, vi v152), (0, .ref b), (1, vr E r1 0), (2, vr E r2 0), (3, vr E r3 0), (4, vi x4)]) rfl (rfl : 640 + 2 = 642) (xdt tt_L_law4 43 rfl) ?_
  refine g_aload_n hC rfl 3 rfl (rfl : 642 + 1 = 643) (xdt tt_L_law4 44 rfl) ?_
  refine g_aload_n hC rfl 1 rfl (rfl : 643 + 1 = 644) (xdt tt_L_law4 45 rfl) ?_
  refine g_iload hC 5 rfl (rfl : 644 + 2 = 646) (xdt tt_L_law4 46 rfl) ?_
  refine g_iconst hC (rfl : 646 + 1 = 647) (xdt tt_L_law4 47 rfl) ?_
  refine g_iadd hC (rfl : 647 + 1 = 648) (xdt tt_L_law4 48 rfl) ?_
  obtain ⟨hi154, h⟩ := ckI_i h
  refine g_sld hC hs hi154 (rfl : 648 + 1 = 649) (xdt tt_L_law4 49 rfl) ?_
  obtain ⟨v157, S156, hc155, h⟩ := bd2_i h
  refine g_lcallVz hC (lw_z0 hL (show m + 1 ≤ 512 by omega)) hk2 kclX12 ly4_0 m_X12_isLoopable q751 ⟨Nat.le_of_ble_eq_true rfl, Nat.le_of_ble_eq_true rfl⟩ [vi (sc (wr (x4 + 1)).toNat)] rfl (fun l => c_X12_isLoopable_p4_0 l hk2 hc155) rfl (Nat.le_of_ble_eq_true rfl) (rfl : 649 + 3 = 652) (xdt tt_L_law4 50 rfl) (fun hb158 => ?_)
  refine g_istore hC (by decide) (lv' := [(6, vi v157), (5, vi v152), (0, .ref b), (1, vr E r1 0), (2, vr E r2 0), (3, vr E r3 0), (4, vi x4)]) rfl (rfl : 652 + 2 = 654) (xdt tt_L_law4 51 rfl) ?_
  refine g_aload_n hC rfl 4 rfl (rfl : 654 + 1 = 655) (xdt tt_L_law4 52 rfl) ?_
  obtain ⟨v161, S160, hc159, h⟩ := bd2_i h
  refine g_lcallVi hC (lw_z0 hL (show m + 1 ≤ 512 by omega)) hk2 kclX12 ly4_0 m_X12_thrown q672 ⟨Nat.le_of_ble_eq_true rfl, Nat.le_of_ble_eq_true rfl⟩ [] rfl (fun l => c_X12_thrown_p4_0 l hk2 hc159) rfl (Nat.le_of_ble_eq_true rfl) (rfl : 655 + 3 = 658) (xdt tt_L_law4 53 rfl) ?_
  refine g_iload hC 1 rfl (rfl : 658 + 2 = 660) (xdt tt_L_law4 54 rfl) ?_
  refine g_icmp_eq hC (show ((660 : Nat) : Int) + 5 = ((665 : Nat) : Int) by decide) (rfl : 660 + 3 = 663) (xdt tt_L_law4 55 rfl) (fun hc167 => ?_) (fun hc167 => ?_)
  · replace h := (if_pos hc167).symm.trans h
    refine g_iload hC 1 rfl (rfl : 665 + 2 = 667) (xdt tt_L_law4 58 rfl) ?_
    refine g_if_ne hC (show ((667 : Nat) : Int) + 22 = ((689 : Nat) : Int) by decide) (rfl : 667 + 3 = 670) (xdt tt_L_law4 59 rfl) (fun hc166 => ?_) (fun hc166 => ?_)
    · replace h := (if_pos hc166).symm.trans h
      refine g_goto hC (show ((689 : Nat) : Int) + 1850 = ((2539 : Nat) : Int) by decide) (xdt tt_L_law5 12 rfl) ?_
      refine g_iinc hC 6 rfl (by decide) (lv' := [(4, vi (x4 + 6)), (6, vi v157), (5, vi v152), (0, .ref b), (1, vr E r1 0), (2, vr E r2 0), (3, vr E r3 0)]) rfl (rfl : 2539 + 3 = 2542) (xdt tt_L_law24 22 rfl) ?_
      refine g_goto hC (show ((2542 : Nat) : Int) + (-2519) = ((23 : Nat) : Int) by decide) (xdt tt_L_law24 23 rfl) ?_
      refine g_sub [3, 4, 5, 6, 0] (lv' := [(0, .ref b), (1, vr E r1 0), (2, vr E r2 0), (3, vr E r3 0), (4, vi (x4 + 6))]) rfl ?_
      exact hrec _ _ _ (m + 1) h (by omega) (by omega)
    · replace h := (if_neg hc166).symm.trans h
      refine g_aload_n hC rfl 5 rfl (rfl : 670 + 1 = 671) (xdt tt_L_law5 0 rfl) ?_
      refine g_iconst hC (rfl : 671 + 1 = 672) (xdt tt_L_law5 1 rfl) ?_
      refine g_lald hC hk3 ly5_0 (by decide) (rfl : 672 + 1 = 673) (xdt tt_L_law5 2 rfl) (k0 := 0) (by decide) ?_
      refine g_iload hC 0 rfl (rfl : 673 + 2 = 675) (xdt tt_L_law5 3 rfl) ?_
      refine g_if_eq hC (show ((675 : Nat) : Int) + 7 = ((682 : Nat) : Int) by decide) (rfl : 675 + 3 = 678) (xdt tt_L_law5 4 rfl) (fun hc165 => ?_) (fun hc165 => ?_)
      · replace h := (if_pos hc165).symm.trans h
        refine g_lconst hC (z := 0) (by decide) (rfl : 682 + 1 = 683) (xdt tt_L_law5 7 rfl) ?_
        refine g_lcmp hC (rfl : 683 + 1 = 684) (xdt tt_L_law5 8 rfl) ?_
        refine g_if_eq hC (show ((684 : Nat) : Int) + 5 = ((689 : Nat) : Int) by decide) (rfl : 684 + 3 = 687) (xdt tt_L_law5 9 rfl) (fun hc163 => ?_) (fun hc163 => ?_)
        · replace h := (if_pos hc163).symm.trans h
          refine g_goto hC (show ((689 : Nat) : Int) + 1850 = ((2539 : Nat) : Int) by decide) (xdt tt_L_law5 12 rfl) ?_
          refine g_iinc hC 6 rfl (by decide) (lv' := [(4, vi (x4 + 6)), (6, vi v157), (5, vi v152), (0, .ref b), (1, vr E r1 0), (2, vr E r2 0), (3, vr E r3 0)]) rfl (rfl : 2539 + 3 = 2542) (xdt tt_L_law24 22 rfl) ?_
          refine g_goto hC (show ((2542 : Nat) : Int) + (-2519) = ((23 : Nat) : Int) by decide) (xdt tt_L_law24 23 rfl) ?_
          refine g_sub [3, 4, 5, 6, 0] (lv' := [(0, .ref b), (1, vr E r1 0), (2, vr E r2 0), (3, vr E r3 0), (4, vi (x4 + 6))]) rfl ?_
          exact hrec _ _ _ (m + 1) h (by omega) (by omega)
        · replace h := (if_neg hc163).symm.trans h
          cases h
      · replace h := (if_neg hc165).symm.trans h
        refine g_lconst hC (z := 1) (by decide) (rfl : 678 + 1 = 679) (xdt tt_L_law5 5 rfl) ?_
        refine g_goto hC (show ((679 : Nat) : Int) + 4 = ((683 : Nat) : Int) by decide) (xdt tt_L_law5 6 rfl) ?_
        refine g_lcmp hC (rfl : 683 + 1 = 684) (xdt tt_L_law5 8 rfl) ?_
        refine g_if_eq hC (show ((684 : Nat) : Int) + 5 = ((689 : Nat) : Int) by decide) (rfl : 684 + 3 = 687) (xdt tt_L_law5 9 rfl) (fun hc164 => ?_) (fun hc164 => ?_)
        · replace h := (if_pos hc164).symm.trans h
          refine g_goto hC (show ((689 : Nat) : Int) + 1850 = ((2539 : Nat) : Int) by decide) (xdt tt_L_law5 12 rfl) ?_
          refine g_iinc hC 6 rfl (by decide) (lv' := [(4, vi (x4 + 6)), (6, vi v157), (5, vi v152), (0, .ref b), (1, vr E r1 0), (2, vr E r2 0), (3, vr E r3 0)]) rfl (rfl : 2539 + 3 = 2542) (xdt tt_L_law24 22 rfl) ?_
          refine g_goto hC (show ((2542 : Nat) : Int) + (-2519) = ((23 : Nat) : Int) by decide) (xdt tt_L_law24 23 rfl) ?_
          refine g_sub [3, 4, 5, 6, 0] (lv' := [(0, .ref b), (1, vr E r1 0), (2, vr E r2 0), (3, vr E r3 0), (4, vi (x4 + 6))]) rfl ?_
          exact hrec _ _ _ (m + 1) h (by omega) (by omega)
        · replace h := (if_neg hc164).symm.trans h
          cases h
  · replace h := (if_neg hc167).symm.trans h
    cases h
set_option maxRecDepth 100000 in
set_option maxHeartbeats 4000000 in
theorem k_law_b692 {K : xCtx} {E : xE} {b0 b1 b L : Nat} {sc : Nat → Int} {r1 r2 r3 : Nat} (hL : lwC K E b0 b1 b L sc) (hk1 : xkd E r1 = 3) (hA1 : xFam E r1) (hk2 : xkd E r2 = 4) (hk3 : xkd E r3 = 5) {c23 : xSt → Int → Option xSt} {x4 : Int} {m : Nat} (hm : x4 = 6 * (m : Int)) (hm2 : m < 512) {S S' : xSt} (hrec : ∀ (S S' : xSt) (z : Int) (k : Nat), c23 S z = some S' → z = 6 * (k : Int) → k ≤ 512 → WG (kc K b0 b1 k) E 23 [(0, .ref b), (1, vr E r1 0), (2, vr E r2 0), (3, vr E r3 0), (4, vi z)] [] S) (h : f_law_b692 c23 r1 r2 r3 L sc S x4 = some S') : WG (kc K b0 b1 m) E 692 [(0, .ref b), (1, vr E r1 0), (2, vr E r2 0), (3, vr E r3 0), (4, vi x4)] [] S := by
  unfold f_law_b692 at h
  have hC := hL.1 m
  have hs := hL.2.1 m
  refine g_aload_n hC rfl 1 rfl (rfl : 692 + 1 = 693) (xdt tt_L_law5 13 rfl) ?_
  obtain ⟨v171, S170, hc169, h⟩ := bd2_i h
  refine g_lcallVi hC (lw_z0 hL (show m ≤ 512 by omega)) hk1 kclX11 ly3_0 m_X11_fusable q763 ⟨Nat.le_of_ble_eq_true rfl, Nat.le_of_ble_eq_true rfl⟩ [] rfl (fun l => c_X11_fusable_p3_0 l hk1 hA1 hc169) rfl (Nat.le_of_ble_eq_true rfl) (rfl : 693 + 3 = 696) (xdt tt_L_law5 14 rfl) ?_
  refine g_aload_n hC rfl 2 rfl (rfl : 696 + 1 = 697) (xdt tt_L_law5 15 rfl) ?_
  obtain ⟨v175, S174, hc173, h⟩ := bd2_i h
  refine g_lcallVi hC (lw_z0 hL (show m ≤ 512 by omega)) hk2 kclX12 ly4_0 m_X12_fusable q767 ⟨Nat.le_of_ble_eq_true rfl, Nat.le_of_ble_eq_true rfl⟩ [] rfl (fun l => c_X12_fusable_p4_0 l hk2 hc173) rfl (Nat.le_of_ble_eq_true rfl) (rfl : 697 + 3 = 700) (xdt tt_L_law5 16 rfl) ?_
  refine g_icmp_eq hC (show ((700 : Nat) : Int) + 1839 = ((2539 : Nat) : Int) by decide) (rfl : 700 + 3 = 703) (xdt tt_L_law5 17 rfl) (fun hc177 => ?_) (fun hc177 => ?_)
  · replace h := (if_pos hc177).symm.trans h
    refine g_iinc hC 4 rfl (by decide) (lv' := [(4, vi (x4 + 6)), (0, .ref b), (1, vr E r1 0), (2, vr E r2 0), (3, vr E r3 0)]) rfl (rfl : 2539 + 3 = 2542) (xdt tt_L_law24 22 rfl) ?_
    refine g_goto hC (show ((2542 : Nat) : Int) + (-2519) = ((23 : Nat) : Int) by decide) (xdt tt_L_law24 23 rfl) ?_
    refine g_sub [1, 2, 3, 4, 0] (lv' := [(0, .ref b), (1, vr E r1 0), (2, vr E r2 0), (3, vr E r3 0), (4, vi (x4 + 6))]) rfl ?_
    refine l_wid ?_
    exact hrec _ _ _ (m + 1) h (by omega) (by omega)
  · replace h := (if_neg hc177).symm.trans h
    cases h
set_option maxRecDepth 100000 in
set_option maxHeartbeats 4000000 in
theorem k_law_b705 {K : xCtx} {E : xE} {b0 b1 b L : Nat} {sc : Nat → Int} {r1 r2 r3 : Nat} (hL : lwC K E b0 b1 b L sc) (hk1 : xkd E r1 = 3) (hA1 : xFam E r1) (hk2 : xkd E r2 = 4) (hk3 : xkd E r3 = 5) {c23 : xSt → Int → Option xSt} {x4 : Int} {m : Nat} (hm : x4 = 6 * (m : Int)) (hm2 : m < 512) {S S' : xSt} (hrec : ∀ (S S' : xSt) (z : Int) (k : Nat), c23 S z = some S' → z = 6 * (k : Int) → k ≤ 512 → WG (kc K b0 b1 k) E 23 [(0, .ref b), (1, vr E r1 0), (2, vr E r2 0), (3, vr E r3 0), (4, vi z)] [] S) (h : f_law_b705 c23 r1 r2 r3 L sc S x4 = some S') : WG (kc K b0 b1 m) E 705 [(0, .ref b), (1, vr E r1 0), (2, vr E r2 0), (3, vr E r3 0), (4, vi x4)] [] S := by
  unfold f_law_b705 at h
  have hC := hL.1 m
  have hs := hL.2.1 m
  refine g_aload_n hC rfl 1 rfl (rfl : 705 + 1 = 706) (xdt tt_L_law5 20 rfl) ?_
  obtain ⟨v181, S180, hc179, h⟩ := bd2_i h
  refine g_lcallVi hC (lw_z0 hL (show m ≤ 512 by omega)) hk1 kclX11 ly3_0 m_X11_crossing q771 ⟨Nat.le_of_ble_eq_true rfl, Nat.le_of_ble_eq_true rfl⟩ [] rfl (fun l => c_X11_crossing_p3_0 l hk1 hA1 hc179) rfl (Nat.le_of_ble_eq_true rfl) (rfl : 706 + 3 = 709) (xdt tt_L_law5 21 rfl) ?_
  refine g_aload_n hC rfl 2 rfl (rfl : 709 + 1 = 710) (xdt tt_L_law5 22 rfl) ?_
  obtain ⟨v185, S184, hc183, h⟩ := bd2_i h
  refine g_lcallVi hC (lw_z0 hL (show m ≤ 512 by omega)) hk2 kclX12 ly4_0 m_X12_crossing q775 ⟨Nat.le_of_ble_eq_true rfl, Nat.le_of_ble_eq_true rfl⟩ [] rfl (fun l => c_X12_crossing_p4_0 l hk2 hc183) rfl (Nat.le_of_ble_eq_true rfl) (rfl : 710 + 3 = 713) (xdt tt_L_law5 23 rfl) ?_
  refine g_icmp_eq hC (show ((713 : Nat) : Int) + 1826 = ((2539 : Nat) : Int) by decide) (rfl : 713 + 3 = 716) (xdt tt_L_law5 24 rfl) (fun hc187 => ?_) (fun hc187 => ?_)
  · replace h := (if_pos hc187).symm.trans h
    refine g_iinc hC 4 rfl (by decide) (lv' := [(4, vi (x4 + 6)), (0, .ref b), (1, vr E r1 0), (2, vr E r2 0), (3, vr E r3 0)]) rfl (rfl : 2539 + 3 = 2542) (xdt tt_L_law24 22 rfl) ?_
    refine g_goto hC (show ((2542 : Nat) : Int) + (-2519) = ((23 : Nat) : Int) by decide) (xdt tt_L_law24 23 rfl) ?_
    refine g_sub [1, 2, 3, 4, 0] (lv' := [(0, .ref b), (1, vr E r1 0), (2, vr E r2 0), (3, vr E r3 0), (4, vi (x4 + 6))]) rfl ?_
    refine l_wid ?_
    exact hrec _ _ _ (m + 1) h (by omega) (by omega)
  · replace h := (if_neg hc187).symm.trans h
    cases h
set_option maxRecDepth 100000 in
set_option maxHeartbeats 4000000 in
theorem k_law_b718 {K : xCtx} {E : xE} {b0 b1 b L : Nat} {sc : Nat → Int} {r1 r2 r3 : Nat} (hL : lwC K E b0 b1 b L sc) (hk1 : xkd E r1 = 3) (hA1 : xFam E r1) (hk2 : xkd E r2 = 4) (hk3 : xkd E r3 = 5) {c23 : xSt → Int → Option xSt} {x4 : Int} {m : Nat} (hm : x4 = 6 * (m : Int)) (hm2 : m < 512) {S S' : xSt} (hrec : ∀ (S S' : xSt) (z : Int) (k : Nat), c23 S z = some S' → z = 6 * (k : Int) → k ≤ 512 → WG (kc K b0 b1 k) E 23 [(0, .ref b), (1, vr E r1 0), (2, vr E r2 0), (3, vr E r3 0), (4, vi z)] [] S) (h : f_law_b718 c23 r1 r2 r3 L sc S x4 = some S') : WG (kc K b0 b1 m) E 718 [(0, .ref b), (1, vr E r1 0), (2, vr E r2 0), (3, vr E r3 0), (4, vi x4)] [] S := by
  unfold f_law_b718 at h
  have hC := hL.1 m
  have hs := hL.2.1 m
  refine g_aload_n hC rfl 1 rfl (rfl : 718 + 1 = 719) (xdt tt_L_law5 27 rfl) ?_
  refine g_aload_n hC rfl 0 rfl (rfl : 719 + 1 = 720) (xdt tt_L_law5 28 rfl) ?_
  refine g_iload hC 4 rfl (rfl : 720 + 2 = 722) (xdt tt_L_law5 29 rfl) ?_
  refine g_iconst hC (rfl : 722 + 1 = 723) (xdt tt_L_law5 30 rfl) ?_
  refine g_iadd hC (rfl : 723 + 1 = 724) (xdt tt_L_law5 31 rfl) ?_
  obtain ⟨hi189, h⟩ := ckI_i h
  refine g_sld hC hs hi189 (rfl : 724 + 1 = 725) (xdt tt_L_law5 32 rfl) ?_
  refine g_aload_n hC rfl 0 rfl (rfl : 725 + 1 = 726) (xdt tt_L_law5 33 rfl) ?_
  refine g_iload hC 4 rfl (rfl : 726 + 2 = 728) (xdt tt_L_law5 34 rfl) ?_
  refine g_iconst hC (rfl : 728 + 1 = 729) (xdt tt_L_law5 35 rfl) ?_
  refine g_iadd hC (rfl : 729 + 1 = 730) (xdt tt_L_law5 36 rfl) ?_
  obtain ⟨hi190, h⟩ := ckI_i h
  refine g_sld hC hs hi190 (rfl : 730 + 1 = 731) (xdt tt_L_law5 37 rfl) ?_
  refine g_if_eq hC (show ((731 : Nat) : Int) + 7 = ((738 : Nat) : Int) by decide) (rfl : 731 + 3 = 734) (xdt tt_L_law5 38 rfl) (fun hc249 => ?_) (fun hc249 => ?_)
  · replace h := (if_pos hc249).symm.trans h
    refine g_iconst hC (rfl : 738 + 1 = 739) (xdt tt_L_law5 41 rfl) ?_
    refine g_aload_n hC rfl 3 rfl (rfl : 739 + 1 = 740) (xdt tt_L_law5 42 rfl) ?_
    obtain ⟨v193, S192, hc191, h⟩ := bd2_i h
    refine g_lcallW hC (lw_z16 hL hm2) (lw_tr hL) mw_L_ofKind q779 ⟨Nat.le_of_ble_eq_true rfl, Nat.le_of_ble_eq_true rfl⟩ [vr E r1 0, vi (sc (wr (x4 + 1)).toNat), vi 0, vr E r3 0] rfl (fun l htr => c_L_ofKind_p3_0_5_0 l htr hk1 hA1 hk3 hc191) rfl (Nat.le_of_ble_eq_true rfl) (xdt tt_L_law5 43 rfl) ?_
    rw [bump_kc]
    have hC := hL.1 (m + 1)
    have hs := hL.2.1 (m + 1)
    refine g_istore hC (by decide) (lv' := [(5, vi v193), (0, .ref b), (1, vr E r1 0), (2, vr E r2 0), (3, vr E r3 0), (4, vi x4)]) rfl (rfl : 743 + 2 = 745) (xdt tt_L_law5 44 rfl) ?_
    refine g_aload_n hC rfl 3 rfl (rfl : 745 + 1 = 746) (xdt tt_L_law5 45 rfl) ?_
    refine g_aload_n hC rfl 1 rfl (rfl : 746 + 1 = 747) (xdt tt_L_law5 46 rfl) ?_
    refine g_iload hC 5 rfl (rfl : 747 + 2 = 749) (xdt tt_L_law5 47 rfl) ?_
    refine g_iconst hC (rfl : 749 + 1 = 750) (xdt tt_L_law5 48 rfl) ?_
    refine g_iadd hC (rfl : 750 + 1 = 751) (xdt tt_L_law5 49 rfl) ?_
    obtain ⟨hi195, h⟩ := ckI_i h
    refine g_sld hC hs hi195 (rfl : 751 + 1 = 752) (xdt tt_L_law5 50 rfl) ?_
    refine g_aload_n hC rfl 1 rfl (rfl : 752 + 1 = 753) (xdt tt_L_law5 51 rfl) ?_
    refine g_iload hC 5 rfl (rfl : 753 + 2 = 755) (xdt tt_L_law5 52 rfl) ?_
    refine g_iconst hC (rfl : 755 + 1 = 756) (xdt tt_L_law5 53 rfl) ?_
    refine g_iadd hC (rfl : 756 + 1 = 757) (xdt tt_L_law5 54 rfl) ?_
    obtain ⟨hi196, h⟩ := ckI_i h
    refine g_sld hC hs hi196 (rfl : 757 + 1 = 758) (xdt tt_L_law5 55 rfl) ?_
    refine g_if_eq hC (show ((758 : Nat) : Int) + 7 = ((765 : Nat) : Int) by decide) (rfl : 758 + 3 = 761) (xdt tt_L_law5 56 rfl) (fun hc219 => ?_) (fun hc219 => ?_)
    · replace h := (if_pos hc219).symm.trans h
      refine g_iconst hC (rfl : 765 + 1 = 766) (xdt tt_L_law5 59 rfl) ?_
      obtain ⟨v199, S198, hc197, h⟩ := bd2_i h
      refine g_lcallVi hC (lw_z0 hL (show m + 1 ≤ 512 by omega)) hk2 kclX12 ly4_0 m_X12_ofKind q790 ⟨Nat.le_of_ble_eq_true rfl, Nat.le_of_ble_eq_true rfl⟩ [vi (sc (wr (x4 + 1)).toNat), vi 0] rfl (fun l => c_X12_ofKind_p4_0 l hk2 hc197) rfl (Nat.le_of_ble_eq_true rfl) (rfl : 766 + 3 = 769) (xdt tt_L_law6 0 rfl) ?_
      refine g_istore hC (by decide) (lv' := [(6, vi v199), (5, vi v193), (0, .ref b), (1, vr E r1 0), (2, vr E r2 0), (3, vr E r3 0), (4, vi x4)]) rfl (rfl : 769 + 2 = 771) (xdt tt_L_law6 1 rfl) ?_
      refine g_aload_n hC rfl 4 rfl (rfl : 771 + 1 = 772) (xdt tt_L_law6 2 rfl) ?_
      obtain ⟨v203, S202, hc201, h⟩ := bd2_i h
      refine g_lcallVi hC (lw_z0 hL (show m + 1 ≤ 512 by omega)) hk2 kclX12 ly4_0 m_X12_thrown q672 ⟨Nat.le_of_ble_eq_true rfl, Nat.le_of_ble_eq_true rfl⟩ [] rfl (fun l => c_X12_thrown_p4_0 l hk2 hc201) rfl (Nat.le_of_ble_eq_true rfl) (rfl : 772 + 3 = 775) (xdt tt_L_law6 3 rfl) ?_
      refine g_iload hC 1 rfl (rfl : 775 + 2 = 777) (xdt tt_L_law6 4 rfl) ?_
      refine g_icmp_eq hC (show ((777 : Nat) : Int) + 5 = ((782 : Nat) : Int) by decide) (rfl : 777 + 3 = 780) (xdt tt_L_law6 5 rfl) (fun hc207 => ?_) (fun hc207 => ?_)
      · replace h := (if_pos hc207).symm.trans h
        refine g_iload hC 1 rfl (rfl : 782 + 2 = 784) (xdt tt_L_law6 8 rfl) ?_
        refine g_if_ne hC (show ((784 : Nat) : Int) + 15 = ((799 : Nat) : Int) by decide) (rfl : 784 + 3 = 787) (xdt tt_L_law6 9 rfl) (fun hc206 => ?_) (fun hc206 => ?_)
        · replace h := (if_pos hc206).symm.trans h
          refine g_goto hC (show ((799 : Nat) : Int) + 1740 = ((2539 : Nat) : Int) by decide) (xdt tt_L_law6 19 rfl) ?_
          refine g_iinc hC 6 rfl (by decide) (lv' := [(4, vi (x4 + 6)), (6, vi v199), (5, vi v193), (0, .ref b), (1, vr E r1 0), (2, vr E r2 0), (3, vr E r3 0)]) rfl (rfl : 2539 + 3 = 2542) (xdt tt_L_law24 22 rfl) ?_
          refine g_goto hC (show ((2542 : Nat) : Int) + (-2519) = ((23 : Nat) : Int) by decide) (xdt tt_L_law24 23 rfl) ?_
          refine g_sub [3, 4, 5, 6, 0] (lv' := [(0, .ref b), (1, vr E r1 0), (2, vr E r2 0), (3, vr E r3 0), (4, vi (x4 + 6))]) rfl ?_
          exact hrec _ _ _ (m + 1) h (by omega) (by omega)
        · replace h := (if_neg hc206).symm.trans h
          refine g_aload_n hC rfl 5 rfl (rfl : 787 + 1 = 788) (xdt tt_L_law6 10 rfl) ?_
          refine g_iconst hC (rfl : 788 + 1 = 789) (xdt tt_L_law6 11 rfl) ?_
          refine g_lald hC hk3 ly5_0 (by decide) (rfl : 789 + 1 = 790) (xdt tt_L_law6 12 rfl) (k0 := 0) (by decide) ?_
          refine g_iload hC 0 rfl (rfl : 790 + 2 = 792) (xdt tt_L_law6 13 rfl) ?_
          refine g_i2l hC (rfl : 792 + 1 = 793) (xdt tt_L_law6 14 rfl) ?_
          refine g_lcmp hC (rfl : 793 + 1 = 794) (xdt tt_L_law6 15 rfl) ?_
          refine g_if_eq hC (show ((794 : Nat) : Int) + 5 = ((799 : Nat) : Int) by decide) (rfl : 794 + 3 = 797) (xdt tt_L_law6 16 rfl) (fun hc205 => ?_) (fun hc205 => ?_)
          · replace h := (if_pos hc205).symm.trans h
            refine g_goto hC (show ((799 : Nat) : Int) + 1740 = ((2539 : Nat) : Int) by decide) (xdt tt_L_law6 19 rfl) ?_
            refine g_iinc hC 6 rfl (by decide) (lv' := [(4, vi (x4 + 6)), (6, vi v199), (5, vi v193), (0, .ref b), (1, vr E r1 0), (2, vr E r2 0), (3, vr E r3 0)]) rfl (rfl : 2539 + 3 = 2542) (xdt tt_L_law24 22 rfl) ?_
            refine g_goto hC (show ((2542 : Nat) : Int) + (-2519) = ((23 : Nat) : Int) by decide) (xdt tt_L_law24 23 rfl) ?_
            refine g_sub [3, 4, 5, 6, 0] (lv' := [(0, .ref b), (1, vr E r1 0), (2, vr E r2 0), (3, vr E r3 0), (4, vi (x4 + 6))]) rfl ?_
            exact hrec _ _ _ (m + 1) h (by omega) (by omega)
          · replace h := (if_neg hc205).symm.trans h
            cases h
      · replace h := (if_neg hc207).symm.trans h
        cases h
    · replace h := (if_neg hc219).symm.trans h
      refine g_iconst hC (rfl : 761 + 1 = 762) (xdt tt_L_law5 57 rfl) ?_
      refine g_goto hC (show ((762 : Nat) : Int) + 4 = ((766 : Nat) : Int) by decide) (xdt tt_L_law5 58 rfl) ?_
      obtain ⟨v210, S209, hc208, h⟩ := bd2_i h
      refine g_lcallVi hC (lw_z0 hL (show m + 1 ≤ 512 by omega)) hk2 kclX12 ly4_0 m_X12_ofKind q790 ⟨Nat.le_of_ble_eq_true rfl, Nat.le_of_ble_eq_true rfl⟩ [vi (sc (wr (x4 + 1)).toNat), vi 1] rfl (fun l => c_X12_ofKind_p4_0 l hk2 hc208) rfl (Nat.le_of_ble_eq_true rfl) (rfl : 766 + 3 = 769) (xdt tt_L_law6 0 rfl) ?_
      refine g_istore hC (by decide) (lv' := [(6, vi v210), (5, vi v193), (0, .ref b), (1, vr E r1 0), (2, vr E r2 0), (3, vr E r3 0), (4, vi x4)]) rfl (rfl : 769 + 2 = 771) (xdt tt_L_law6 1 rfl) ?_
      refine g_aload_n hC rfl 4 rfl (rfl : 771 + 1 = 772) (xdt tt_L_law6 2 rfl) ?_
      obtain ⟨v214, S213, hc212, h⟩ := bd2_i h
      refine g_lcallVi hC (lw_z0 hL (show m + 1 ≤ 512 by omega)) hk2 kclX12 ly4_0 m_X12_thrown q672 ⟨Nat.le_of_ble_eq_true rfl, Nat.le_of_ble_eq_true rfl⟩ [] rfl (fun l => c_X12_thrown_p4_0 l hk2 hc212) rfl (Nat.le_of_ble_eq_true rfl) (rfl : 772 + 3 = 775) (xdt tt_L_law6 3 rfl) ?_
      refine g_iload hC 1 rfl (rfl : 775 + 2 = 777) (xdt tt_L_law6 4 rfl) ?_
      refine g_icmp_eq hC (show ((777 : Nat) : Int) + 5 = ((782 : Nat) : Int) by decide) (rfl : 777 + 3 = 780) (xdt tt_L_law6 5 rfl) (fun hc218 => ?_) (fun hc218 => ?_)
      · replace h := (if_pos hc218).symm.trans h
        refine g_iload hC 1 rfl (rfl : 782 + 2 = 784) (xdt tt_L_law6 8 rfl) ?_
        refine g_if_ne hC (show ((784 : Nat) : Int) + 15 = ((799 : Nat) : Int) by decide) (rfl : 784 + 3 = 787) (xdt tt_L_law6 9 rfl) (fun hc217 => ?_) (fun hc217 => ?_)
        · replace h := (if_pos hc217).symm.trans h
          refine g_goto hC (show ((799 : Nat) : Int) + 1740 = ((2539 : Nat) : Int) by decide) (xdt tt_L_law6 19 rfl) ?_
          refine g_iinc hC 6 rfl (by decide) (lv' := [(4, vi (x4 + 6)), (6, vi v210), (5, vi v193), (0, .ref b), (1, vr E r1 0), (2, vr E r2 0), (3, vr E r3 0)]) rfl (rfl : 2539 + 3 = 2542) (xdt tt_L_law24 22 rfl) ?_
          refine g_goto hC (show ((2542 : Nat) : Int) + (-2519) = ((23 : Nat) : Int) by decide) (xdt tt_L_law24 23 rfl) ?_
          refine g_sub [3, 4, 5, 6, 0] (lv' := [(0, .ref b), (1, vr E r1 0), (2, vr E r2 0), (3, vr E r3 0), (4, vi (x4 + 6))]) rfl ?_
          exact hrec _ _ _ (m + 1) h (by omega) (by omega)
        · replace h := (if_neg hc217).symm.trans h
          refine g_aload_n hC rfl 5 rfl (rfl : 787 + 1 = 788) (xdt tt_L_law6 10 rfl) ?_
          refine g_iconst hC (rfl : 788 + 1 = 789) (xdt tt_L_law6 11 rfl) ?_
          refine g_lald hC hk3 ly5_0 (by decide) (rfl : 789 + 1 = 790) (xdt tt_L_law6 12 rfl) (k0 := 0) (by decide) ?_
          refine g_iload hC 0 rfl (rfl : 790 + 2 = 792) (xdt tt_L_law6 13 rfl) ?_
          refine g_i2l hC (rfl : 792 + 1 = 793) (xdt tt_L_law6 14 rfl) ?_
          refine g_lcmp hC (rfl : 793 + 1 = 794) (xdt tt_L_law6 15 rfl) ?_
          refine g_if_eq hC (show ((794 : Nat) : Int) + 5 = ((799 : Nat) : Int) by decide) (rfl : 794 + 3 = 797) (xdt tt_L_law6 16 rfl) (fun hc216 => ?_) (fun hc216 => ?_)
          · replace h := (if_pos hc216).symm.trans h
            refine g_goto hC (show ((799 : Nat) : Int) + 1740 = ((2539 : Nat) : Int) by decide) (xdt tt_L_law6 19 rfl) ?_
            refine g_iinc hC 6 rfl (by decide) (lv' := [(4, vi (x4 + 6)), (6, vi v210), (5, vi v193), (0, .ref b), (1, vr E r1 0), (2, vr E r2 0), (3, vr E r3 0)]) rfl (rfl : 2539 + 3 = 2542) (xdt tt_L_law24 22 rfl) ?_
            refine g_goto hC (show ((2542 : Nat) : Int) + (-2519) = ((23 : Nat) : Int) by decide) (xdt tt_L_law24 23 rfl) ?_
            refine g_sub [3, 4, 5, 6, 0] (lv' := [(0, .ref b), (1, vr E r1 0), (2, vr E r2 0), (3, vr E r3 0), (4, vi (x4 + 6))]) rfl ?_
            exact hrec _ _ _ (m + 1) h (by omega) (by omega)
          · replace h := (if_neg hc216).symm.trans h
            cases h
      · replace h := (if_neg hc218).symm.trans h
        cases h
  · replace h := (if_neg hc249).symm.trans h
    refine g_iconst hC (rfl : 734 + 1 = 735) (xdt tt_L_law5 39 rfl) ?_
    refine g_goto hC (show ((735 : Nat) : Int) + 4 = ((739 : Nat) : Int) by decide) (xdt tt_L_law5 40 rfl) ?_
    refine g_aload_n hC rfl 3 rfl (rfl : 739 + 1 = 740) (xdt tt_L_law5 42 rfl) ?_
    obtain ⟨v222, S221, hc220, h⟩ := bd2_i h
    refine g_lcallW hC (lw_z16 hL hm2) (lw_tr hL) mw_L_ofKind q779 ⟨Nat.le_of_ble_eq_true rfl, Nat.le_of_ble_eq_true rfl⟩ [vr E r1 0, vi (sc (wr (x4 + 1)).toNat), vi 1, vr E r3 0] rfl (fun l htr => c_L_ofKind_p3_0_5_0 l htr hk1 hA1 hk3 hc220) rfl (Nat.le_of_ble_eq_true rfl) (xdt tt_L_law5 43 rfl) ?_
    rw [bump_kc]
    have hC := hL.1 (m + 1)
    have hs := hL.2.1 (m + 1)
    refine g_istore hC (by decide) (lv' := [(5, vi v222), (0, .ref b), (1, vr E r1 0), (2, vr E r2 0), (3, vr E r3 0), (4, vi x4)]) rfl (rfl : 743 + 2 = 745) (xdt tt_L_law5 44 rfl) ?_
    refine g_aload_n hC rfl 3 rfl (rfl : 745 + 1 = 746) (xdt tt_L_law5 45 rfl) ?_
    refine g_aload_n hC rfl 1 rfl (rfl : 746 + 1 = 747) (xdt tt_L_law5 46 rfl) ?_
    refine g_iload hC 5 rfl (rfl : 747 + 2 = 749) (xdt tt_L_law5 47 rfl) ?_
    refine g_iconst hC (rfl : 749 + 1 = 750) (xdt tt_L_law5 48 rfl) ?_
    refine g_iadd hC (rfl : 750 + 1 = 751) (xdt tt_L_law5 49 rfl) ?_
    obtain ⟨hi224, h⟩ := ckI_i h
    refine g_sld hC hs hi224 (rfl : 751 + 1 = 752) (xdt tt_L_law5 50 rfl) ?_
    refine g_aload_n hC rfl 1 rfl (rfl : 752 + 1 = 753) (xdt tt_L_law5 51 rfl) ?_
    refine g_iload hC 5 rfl (rfl : 753 + 2 = 755) (xdt tt_L_law5 52 rfl) ?_
    refine g_iconst hC (rfl : 755 + 1 = 756) (xdt tt_L_law5 53 rfl) ?_
    refine g_iadd hC (rfl : 756 + 1 = 757) (xdt tt_L_law5 54 rfl) ?_
    obtain ⟨hi225, h⟩ := ckI_i h
    refine g_sld hC hs hi225 (rfl : 757 + 1 = 758) (xdt tt_L_law5 55 rfl) ?_
    refine g_if_eq hC (show ((758 : Nat) : Int) + 7 = ((765 : Nat) : Int) by decide) (rfl : 758 + 3 = 761) (xdt tt_L_law5 56 rfl) (fun hc248 => ?_) (fun hc248 => ?_)
    · replace h := (if_pos hc248).symm.trans h
      refine g_iconst hC (rfl : 765 + 1 = 766) (xdt tt_L_law5 59 rfl) ?_
      obtain ⟨v228, S227, hc226, h⟩ := bd2_i h
      refine g_lcallVi hC (lw_z0 hL (show m + 1 ≤ 512 by omega)) hk2 kclX12 ly4_0 m_X12_ofKind q790 ⟨Nat.le_of_ble_eq_true rfl, Nat.le_of_ble_eq_true rfl⟩ [vi (sc (wr (x4 + 1)).toNat), vi 0] rfl (fun l => c_X12_ofKind_p4_0 l hk2 hc226) rfl (Nat.le_of_ble_eq_true rfl) (rfl : 766 + 3 = 769) (xdt tt_L_law6 0 rfl) ?_
      refine g_istore hC (by decide) (lv' := [(6, vi v228), (5, vi v222), (0, .ref b), (1, vr E r1 0), (2, vr E r2 0), (3, vr E r3 0), (4, vi x4)]) rfl (rfl : 769 + 2 = 771) (xdt tt_L_law6 1 rfl) ?_
      refine g_aload_n hC rfl 4 rfl (rfl : 771 + 1 = 772) (xdt tt_L_law6 2 rfl) ?_
      obtain ⟨v232, S231, hc230, h⟩ := bd2_i h
      refine g_lcallVi hC (lw_z0 hL (show m + 1 ≤ 512 by omega)) hk2 kclX12 ly4_0 m_X12_thrown q672 ⟨Nat.le_of_ble_eq_true rfl, Nat.le_of_ble_eq_true rfl⟩ [] rfl (fun l => c_X12_thrown_p4_0 l hk2 hc230) rfl (Nat.le_of_ble_eq_true rfl) (rfl : 772 + 3 = 775) (xdt tt_L_law6 3 rfl) ?_
      refine g_iload hC 1 rfl (rfl : 775 + 2 = 777) (xdt tt_L_law6 4 rfl) ?_
      refine g_icmp_eq hC (show ((777 : Nat) : Int) + 5 = ((782 : Nat) : Int) by decide) (rfl : 777 + 3 = 780) (xdt tt_L_law6 5 rfl) (fun hc236 => ?_) (fun hc236 => ?_)
      · replace h := (if_pos hc236).symm.trans h
        refine g_iload hC 1 rfl (rfl : 782 + 2 = 784) (xdt tt_L_law6 8 rfl) ?_
        refine g_if_ne hC (show ((784 : Nat) : Int) + 15 = ((799 : Nat) : Int) by decide) (rfl : 784 + 3 = 787) (xdt tt_L_law6 9 rfl) (fun hc235 => ?_) (fun hc235 => ?_)
        · replace h := (if_pos hc235).symm.trans h
          refine g_goto hC (show ((799 : Nat) : Int) + 1740 = ((2539 : Nat) : Int) by decide) (xdt tt_L_law6 19 rfl) ?_
          refine g_iinc hC 6 rfl (by decide) (lv' := [(4, vi (x4 + 6)), (6, vi v228), (5, vi v222), (0, .ref b), (1, vr E r1 0), (2, vr E r2 0), (3, vr E r3 0)]) rfl (rfl : 2539 + 3 = 2542) (xdt tt_L_law24 22 rfl) ?_
          refine g_goto hC (show ((2542 : Nat) : Int) + (-2519) = ((23 : Nat) : Int) by decide) (xdt tt_L_law24 23 rfl) ?_
          refine g_sub [3, 4, 5, 6, 0] (lv' := [(0, .ref b), (1, vr E r1 0), (2, vr E r2 0), (3, vr E r3 0), (4, vi (x4 + 6))]) rfl ?_
          exact hrec _ _ _ (m + 1) h (by omega) (by omega)
        · replace h := (if_neg hc235).symm.trans h
          refine g_aload_n hC rfl 5 rfl (rfl : 787 + 1 = 788) (xdt tt_L_law6 10 rfl) ?_
          refine g_iconst hC (rfl : 788 + 1 = 789) (xdt tt_L_law6 11 rfl) ?_
          refine g_lald hC hk3 ly5_0 (by decide) (rfl : 789 + 1 = 790) (xdt tt_L_law6 12 rfl) (k0 := 0) (by decide) ?_
          refine g_iload hC 0 rfl (rfl : 790 + 2 = 792) (xdt tt_L_law6 13 rfl) ?_
          refine g_i2l hC (rfl : 792 + 1 = 793) (xdt tt_L_law6 14 rfl) ?_
          refine g_lcmp hC (rfl : 793 + 1 = 794) (xdt tt_L_law6 15 rfl) ?_
          refine g_if_eq hC (show ((794 : Nat) : Int) + 5 = ((799 : Nat) : Int) by decide) (rfl : 794 + 3 = 797) (xdt tt_L_law6 16 rfl) (fun hc234 => ?_) (fun hc234 => ?_)
          · replace h := (if_pos hc234).symm.trans h
            refine g_goto hC (show ((799 : Nat) : Int) + 1740 = ((2539 : Nat) : Int) by decide) (xdt tt_L_law6 19 rfl) ?_
            refine g_iinc hC 6 rfl (by decide) (lv' := [(4, vi (x4 + 6)), (6, vi v228), (5, vi v222), (0, .ref b), (1, vr E r1 0), (2, vr E r2 0), (3, vr E r3 0)]) rfl (rfl : 2539 + 3 = 2542) (xdt tt_L_law24 22 rfl) ?_
            refine g_goto hC (show ((2542 : Nat) : Int) + (-2519) = ((23 : Nat) : Int) by decide) (xdt tt_L_law24 23 rfl) ?_
            refine g_sub [3, 4, 5, 6, 0] (lv' := [(0, .ref b), (1, vr E r1 0), (2, vr E r2 0), (3, vr E r3 0), (4, vi (x4 + 6))]) rfl ?_
            exact hrec _ _ _ (m + 1) h (by omega) (by omega)
          · replace h := (if_neg hc234).symm.trans h
            cases h
      · replace h := (if_neg hc236).symm.trans h
        cases h
    · replace h := (if_neg hc248).symm.trans h
      refine g_iconst hC (rfl : 761 + 1 = 762) (xdt tt_L_law5 57 rfl) ?_
      refine g_goto hC (show ((762 : Nat) : Int) + 4 = ((766 : Nat) : Int) by decide) (xdt tt_L_law5 58 rfl) ?_
      obtain ⟨v239, S238, hc237, h⟩ := bd2_i h
      refine g_lcallVi hC (lw_z0 hL (show m + 1 ≤ 512 by omega)) hk2 kclX12 ly4_0 m_X12_ofKind q790 ⟨Nat.le_of_ble_eq_true rfl, Nat.le_of_ble_eq_true rfl⟩ [vi (sc (wr (x4 + 1)).toNat), vi 1] rfl (fun l => c_X12_ofKind_p4_0 l hk2 hc237) rfl (Nat.le_of_ble_eq_true rfl) (rfl : 766 + 3 = 769) (xdt tt_L_law6 0 rfl) ?_
      refine g_istore hC (by decide) (lv' := [(6, vi v239), (5, vi v222), (0, .ref b), (1, vr E r1 0), (2, vr E r2 0), (3, vr E r3 0), (4, vi x4)]) rfl (rfl : 769 + 2 = 771) (xdt tt_L_law6 1 rfl) ?_
      refine g_aload_n hC rfl 4 rfl (rfl : 771 + 1 = 772) (xdt tt_L_law6 2 rfl) ?_
      obtain ⟨v243, S242, hc241, h⟩ := bd2_i h
      refine g_lcallVi hC (lw_z0 hL (show m + 1 ≤ 512 by omega)) hk2 kclX12 ly4_0 m_X12_thrown q672 ⟨Nat.le_of_ble_eq_true rfl, Nat.le_of_ble_eq_true rfl⟩ [] rfl (fun l => c_X12_thrown_p4_0 l hk2 hc241) rfl (Nat.le_of_ble_eq_true rfl) (rfl : 772 + 3 = 775) (xdt tt_L_law6 3 rfl) ?_
      refine g_iload hC 1 rfl (rfl : 775 + 2 = 777) (xdt tt_L_law6 4 rfl) ?_
      refine g_icmp_eq hC (show ((777 : Nat) : Int) + 5 = ((782 : Nat) : Int) by decide) (rfl : 777 + 3 = 780) (xdt tt_L_law6 5 rfl) (fun hc247 => ?_) (fun hc247 => ?_)
      · replace h := (if_pos hc247).symm.trans h
        refine g_iload hC 1 rfl (rfl : 782 + 2 = 784) (xdt tt_L_law6 8 rfl) ?_
        refine g_if_ne hC (show ((784 : Nat) : Int) + 15 = ((799 : Nat) : Int) by decide) (rfl : 784 + 3 = 787) (xdt tt_L_law6 9 rfl) (fun hc246 => ?_) (fun hc246 => ?_)
        · replace h := (if_pos hc246).symm.trans h
          refine g_goto hC (show ((799 : Nat) : Int) + 1740 = ((2539 : Nat) : Int) by decide) (xdt tt_L_law6 19 rfl) ?_
          refine g_iinc hC 6 rfl (by decide) (lv' := [(4, vi (x4 + 6)), (6, vi v239), (5, vi v222), (0, .ref b), (1, vr E r1 0), (2, vr E r2 0), (3, vr E r3 0)]) rfl (rfl : 2539 + 3 = 2542) (xdt tt_L_law24 22 rfl) ?_
          refine g_goto hC (show ((2542 : Nat) : Int) + (-2519) = ((23 : Nat) : Int) by decide) (xdt tt_L_law24 23 rfl) ?_
          refine g_sub [3, 4, 5, 6, 0] (lv' := [(0, .ref b), (1, vr E r1 0), (2, vr E r2 0), (3, vr E r3 0), (4, vi (x4 + 6))]) rfl ?_
          exact hrec _ _ _ (m + 1) h (by omega) (by omega)
        · replace h := (if_neg hc246).symm.trans h
          refine g_aload_n hC rfl 5 rfl (rfl : 787 + 1 = 788) (xdt tt_L_law6 10 rfl) ?_
          refine g_iconst hC (rfl : 788 + 1 = 789) (xdt tt_L_law6 11 rfl) ?_
          refine g_lald hC hk3 ly5_0 (by decide) (rfl : 789 + 1 = 790) (xdt tt_L_law6 12 rfl) (k0 := 0) (by decide) ?_
          refine g_iload hC 0 rfl (rfl : 790 + 2 = 792) (xdt tt_L_law6 13 rfl) ?_
          refine g_i2l hC (rfl : 792 + 1 = 793) (xdt tt_L_law6 14 rfl) ?_
          refine g_lcmp hC (rfl : 793 + 1 = 794) (xdt tt_L_law6 15 rfl) ?_
          refine g_if_eq hC (show ((794 : Nat) : Int) + 5 = ((799 : Nat) : Int) by decide) (rfl : 794 + 3 = 797) (xdt tt_L_law6 16 rfl) (fun hc245 => ?_) (fun hc245 => ?_)
          · replace h := (if_pos hc245).symm.trans h
            refine g_goto hC (show ((799 : Nat) : Int) + 1740 = ((2539 : Nat) : Int) by decide) (xdt tt_L_law6 19 rfl) ?_
            refine g_iinc hC 6 rfl (by decide) (lv' := [(4, vi (x4 + 6)), (6, vi v239), (5, vi v222), (0, .ref b), (1, vr E r1 0), (2, vr E r2 0), (3, vr E r3 0)]) rfl (rfl : 2539 + 3 = 2542) (xdt tt_L_law24 22 rfl) ?_
            refine g_goto hC (show ((2542 : Nat) : Int) + (-2519) = ((23 : Nat) : Int) by decide) (xdt tt_L_law24 23 rfl) ?_
            refine g_sub [3, 4, 5, 6, 0] (lv' := [(0, .ref b), (1, vr E r1 0), (2, vr E r2 0), (3, vr E r3 0), (4, vi (x4 + 6))]) rfl ?_
            exact hrec _ _ _ (m + 1) h (by omega) (by omega)
          · replace h := (if_neg hc245).symm.trans h
            cases h
      · replace h := (if_neg hc247).symm.trans h
        cases h
set_option maxRecDepth 100000 in
set_option maxHeartbeats 4000000 in
theorem k_law_b802 {K : xCtx} {E : xE} {b0 b1 b L : Nat} {sc : Nat → Int} {r1 r2 r3 : Nat} (hL : lwC K E b0 b1 b L sc) (hk1 : xkd E r1 = 3) (hA1 : xFam E r1) (hk2 : xkd E r2 = 4) (hk3 : xkd E r3 = 5) {c23 : xSt → Int → Option xSt} {x4 : Int} {m : Nat} (hm : x4 = 6 * (m : Int)) (hm2 : m < 512) {S S' : xSt} (hrec : ∀ (S S' : xSt) (z : Int) (k : Nat), c23 S z = some S' → z = 6 * (k : Int) → k ≤ 512 → WG (kc K b0 b1 k) E 23 [(0, .ref b), (1, vr E r1 0), (2, vr E r2 0), (3, vr E r3 0), (4, vi z)] [] S) (h : f_law_b802 c23 r1 r2 r3 L sc S x4 = some S') : WG (kc K b0 b1 m) E 802 [(0, .ref b), (1, vr E r1 0), (2, vr E r2 0), (3, vr E r3 0), (4, vi x4)] [] S := by
  unfold f_law_b802 at h
  have hC := hL.1 m
  have hs := hL.2.1 m
  refine g_aload_n hC rfl 1 rfl (rfl : 802 + 1 = 803) (xdt tt_L_law6 20 rfl) ?_
  refine g_aload_n hC rfl 0 rfl (rfl : 803 + 1 = 804) (xdt tt_L_law6 21 rfl) ?_
  refine g_iload hC 4 rfl (rfl : 804 + 2 = 806) (xdt tt_L_law6 22 rfl) ?_
  refine g_iconst hC (rfl : 806 + 1 = 807) (xdt tt_L_law6 23 rfl) ?_
  refine g_iadd hC (rfl : 807 + 1 = 808) (xdt tt_L_law6 24 rfl) ?_
  obtain ⟨hi251, h⟩ := ckI_i h
  refine g_sld hC hs hi251 (rfl : 808 + 1 = 809) (xdt tt_L_law6 25 rfl) ?_
  refine g_aload_n hC rfl 0 rfl (rfl : 809 + 1 = 810) (xdt tt_L_law6 26 rfl) ?_
  refine g_iload hC 4 rfl (rfl : 810 + 2 = 812) (xdt tt_L_law6 27 rfl) ?_
  refine g_iconst hC (rfl : 812 + 1 = 813) (xdt tt_L_law6 28 rfl) ?_
  refine g_iadd hC (rfl : 813 + 1 = 814) (xdt tt_L_law6 29 rfl) ?_
  obtain ⟨hi252, h⟩ := ckI_i h
  refine g_sld hC hs hi252 (rfl : 814 + 1 = 815) (xdt tt_L_law6 30 rfl) ?_
  refine g_if_eq hC (show ((815 : Nat) : Int) + 7 = ((822 : Nat) : Int) by decide) (rfl : 815 + 3 = 818) (xdt tt_L_law6 31 rfl) (fun hc311 => ?_) (fun hc311 => ?_)
  · replace h := (if_pos hc311).symm.trans h
    refine g_iconst hC (rfl : 822 + 1 = 823) (xdt tt_L_law6 34 rfl) ?_
    refine g_aload_n hC rfl 3 rfl (rfl : 823 + 1 = 824) (xdt tt_L_law6 35 rfl) ?_
    obtain ⟨v255, S254, hc253, h⟩ := bd2_i h
    refine g_lcallW hC (lw_z16 hL hm2) (lw_tr hL) mw_L_rule q794 ⟨Nat.le_of_ble_eq_true rfl, Nat.le_of_ble_eq_true rfl⟩ [vr E r1 0, vi (sc (wr (x4 + 1)).toNat), vi 0, vr E r3 0] rfl (fun l htr => c_L_rule_p3_0_5_0 l htr hk1 hA1 hk3 hc253) rfl (Nat.le_of_ble_eq_true rfl) (xdt tt_L_law6 36 rfl) ?_
    rw [bump_kc]
    have hC := hL.1 (m + 1)
    have hs := hL.2.1 (m + 1)
    refine g_istore hC (by decide) (lv' := [(5, vi v255), (0, .ref b), (1, vr E r1 0), (2, vr E r2 0), (3, vr E r3 0), (4, vi x4)]) rfl (rfl : 827 + 2 = 829) (xdt tt_L_law6 37 rfl) ?_
    refine g_aload_n hC rfl 3 rfl (rfl : 829 + 1 = 830) (xdt tt_L_law6 38 rfl) ?_
    refine g_aload_n hC rfl 1 rfl (rfl : 830 + 1 = 831) (xdt tt_L_law6 39 rfl) ?_
    refine g_iload hC 5 rfl (rfl : 831 + 2 = 833) (xdt tt_L_law6 40 rfl) ?_
    refine g_iconst hC (rfl : 833 + 1 = 834) (xdt tt_L_law6 41 rfl) ?_
    refine g_iadd hC (rfl : 834 + 1 = 835) (xdt tt_L_law6 42 rfl) ?_
    obtain ⟨hi257, h⟩ := ckI_i h
    refine g_sld hC hs hi257 (rfl : 835 + 1 = 836) (xdt tt_L_law6 43 rfl) ?_
    refine g_aload_n hC rfl 1 rfl (rfl : 836 + 1 = 837) (xdt tt_L_law6 44 rfl) ?_
    refine g_iload hC 5 rfl (rfl : 837 + 2 = 839) (xdt tt_L_law6 45 rfl) ?_
    refine g_iconst hC (rfl : 839 + 1 = 840) (xdt tt_L_law6 46 rfl) ?_
    refine g_iadd hC (rfl : 840 + 1 = 841) (xdt tt_L_law6 47 rfl) ?_
    obtain ⟨hi258, h⟩ := ckI_i h
    refine g_sld hC hs hi258 (rfl : 841 + 1 = 842) (xdt tt_L_law6 48 rfl) ?_
    refine g_if_eq hC (show ((842 : Nat) : Int) + 7 = ((849 : Nat) : Int) by decide) (rfl : 842 + 3 = 845) (xdt tt_L_law6 49 rfl) (fun hc281 => ?_) (fun hc281 => ?_)
    · replace h := (if_pos hc281).symm.trans h
      refine g_iconst hC (rfl : 849 + 1 = 850) (xdt tt_L_law6 52 rfl) ?_
      obtain ⟨v261, S260, hc259, h⟩ := bd2_i h
      refine g_lcallVi hC (lw_z0 hL (show m + 1 ≤ 512 by omega)) hk2 kclX12 ly4_0 m_X12_rule q803 ⟨Nat.le_of_ble_eq_true rfl, Nat.le_of_ble_eq_true rfl⟩ [vi (sc (wr (x4 + 1)).toNat), vi 0] rfl (fun l => c_X12_rule_p4_0 l hk2 hc259) rfl (Nat.le_of_ble_eq_true rfl) (rfl : 850 + 3 = 853) (xdt tt_L_law6 53 rfl) ?_
      refine g_istore hC (by decide) (lv' := [(6, vi v261), (5, vi v255), (0, .ref b), (1, vr E r1 0), (2, vr E r2 0), (3, vr E r3 0), (4, vi x4)]) rfl (rfl : 853 + 2 = 855) (xdt tt_L_law6 54 rfl) ?_
      refine g_aload_n hC rfl 4 rfl (rfl : 855 + 1 = 856) (xdt tt_L_law6 55 rfl) ?_
      obtain ⟨v265, S264, hc263, h⟩ := bd2_i h
      refine g_lcallVi hC (lw_z0 hL (show m + 1 ≤ 512 by omega)) hk2 kclX12 ly4_0 m_X12_thrown q672 ⟨Nat.le_of_ble_eq_true rfl, Nat.le_of_ble_eq_true rfl⟩ [] rfl (fun l => c_X12_thrown_p4_0 l hk2 hc263) rfl (Nat.le_of_ble_eq_true rfl) (rfl : 856 + 3 = 859) (xdt tt_L_law6 56 rfl) ?_
      refine g_iload hC 1 rfl (rfl : 859 + 2 = 861) (xdt tt_L_law6 57 rfl) ?_
      refine g_icmp_eq hC (show ((861 : Nat) : Int) + 5 = ((866 : Nat) : Int) by decide) (rfl : 861 + 3 = 864) (xdt tt_L_law6 58 rfl) (fun hc269 => ?_) (fun hc269 => ?_)
      · replace h := (if_pos hc269).symm.trans h
        refine g_iload hC 1 rfl (rfl : 866 + 2 = 868) (xdt tt_L_law7 1 rfl) ?_
        refine g_if_ne hC (show ((868 : Nat) : Int) + 15 = ((883 : Nat) : Int) by decide) (rfl : 868 + 3 = 871) (xdt tt_L_law7 2 rfl) (fun hc268 => ?_) (fun hc268 => ?_)
        · replace h := (if_pos hc268).symm.trans h
          refine g_goto hC (show ((883 : Nat) : Int) + 1656 = ((2539 : Nat) : Int) by decide) (xdt tt_L_law7 12 rfl) ?_
          refine g_iinc hC 6 rfl (by decide) (lv' := [(4, vi (x4 + 6)), (6, vi v261), (5, vi v255), (0, .ref b), (1, vr E r1 0), (2, vr E r2 0), (3, vr E r3 0)]) rfl (rfl : 2539 + 3 = 2542) (xdt tt_L_law24 22 rfl) ?_
          refine g_goto hC (show ((2542 : Nat) : Int) + (-2519) = ((23 : Nat) : Int) by decide) (xdt tt_L_law24 23 rfl) ?_
          refine g_sub [3, 4, 5, 6, 0] (lv' := [(0, .ref b), (1, vr E r1 0), (2, vr E r2 0), (3, vr E r3 0), (4, vi (x4 + 6))]) rfl ?_
          exact hrec _ _ _ (m + 1) h (by omega) (by omega)
        · replace h := (if_neg hc268).symm.trans h
          refine g_aload_n hC rfl 5 rfl (rfl : 871 + 1 = 872) (xdt tt_L_law7 3 rfl) ?_
          refine g_iconst hC (rfl : 872 + 1 = 873) (xdt tt_L_law7 4 rfl) ?_
          refine g_lald hC hk3 ly5_0 (by decide) (rfl : 873 + 1 = 874) (xdt tt_L_law7 5 rfl) (k0 := 0) (by decide) ?_
          refine g_iload hC 0 rfl (rfl : 874 + 2 = 876) (xdt tt_L_law7 6 rfl) ?_
          refine g_i2l hC (rfl : 876 + 1 = 877) (xdt tt_L_law7 7 rfl) ?_
          refine g_lcmp hC (rfl : 877 + 1 = 878) (xdt tt_L_law7 8 rfl) ?_
          refine g_if_eq hC (show ((878 : Nat) : Int) + 5 = ((883 : Nat) : Int) by decide) (rfl : 878 + 3 = 881) (xdt tt_L_law7 9 rfl) (fun hc267 => ?_) (fun hc267 => ?_)
          · replace h := (if_pos hc267).symm.trans h
            refine g_goto hC (show ((883 : Nat) : Int) + 1656 = ((2539 : Nat) : Int) by decide) (xdt tt_L_law7 12 rfl) ?_
            refine g_iinc hC 6 rfl (by decide) (lv' := [(4, vi (x4 + 6)), (6, vi v261), (5, vi v255), (0, .ref b), (1, vr E r1 0), (2, vr E r2 0), (3, vr E r3 0)]) rfl (rfl : 2539 + 3 = 2542) (xdt tt_L_law24 22 rfl) ?_
            refine g_goto hC (show ((2542 : Nat) : Int) + (-2519) = ((23 : Nat) : Int) by decide) (xdt tt_L_law24 23 rfl) ?_
            refine g_sub [3, 4, 5, 6, 0] (lv' := [(0, .ref b), (1, vr E r1 0), (2, vr E r2 0), (3, vr E r3 0), (4, vi (x4 + 6))]) rfl ?_
            exact hrec _ _ _ (m + 1) h (by omega) (by omega)
          · replace h := (if_neg hc267).symm.trans h
            cases h
      · replace h := (if_neg hc269).symm.trans h
        cases h
    · replace h := (if_neg hc281).symm.trans h
      refine g_iconst hC (rfl : 845 + 1 = 846) (xdt tt_L_law6 50 rfl) ?_
      refine g_goto hC (show ((846 : Nat) : Int) + 4 = ((850 : Nat) : Int) by decide) (xdt tt_L_law6 51 rfl) ?_
      obtain ⟨v272, S271, hc270, h⟩ := bd2_i h
      refine g_lcallVi hC (lw_z0 hL (show m + 1 ≤ 512 by omega)) hk2 kclX12 ly4_0 m_X12_rule q803 ⟨Nat.le_of_ble_eq_true rfl, Nat.le_of_ble_eq_true rfl⟩ [vi (sc (wr (x4 + 1)).toNat), vi 1] rfl (fun l => c_X12_rule_p4_0 l hk2 hc270) rfl (Nat.le_of_ble_eq_true rfl) (rfl : 850 + 3 = 853) (xdt tt_L_law6 53 rfl) ?_
      refine g_istore hC (by decide) (lv' := [(6, vi v272), (5, vi v255), (0, .ref b), (1, vr E r1 0), (2, vr E r2 0), (3, vr E r3 0), (4, vi x4)]) rfl (rfl : 853 + 2 = 855) (xdt tt_L_law6 54 rfl) ?_
      refine g_aload_n hC rfl 4 rfl (rfl : 855 + 1 = 856) (xdt tt_L_law6 55 rfl) ?_
      obtain ⟨v276, S275, hc274, h⟩ := bd2_i h
      refine g_lcallVi hC (lw_z0 hL (show m + 1 ≤ 512 by omega)) hk2 kclX12 ly4_0 m_X12_thrown q672 ⟨Nat.le_of_ble_eq_true rfl, Nat.le_of_ble_eq_true rfl⟩ [] rfl (fun l => c_X12_thrown_p4_0 l hk2 hc274) rfl (Nat.le_of_ble_eq_true rfl) (rfl : 856 + 3 = 859) (xdt tt_L_law6 56 rfl) ?_
      refine g_iload hC 1 rfl (rfl : 859 + 2 = 861) (xdt tt_L_law6 57 rfl) ?_
      refine g_icmp_eq hC (show ((861 : Nat) : Int) + 5 = ((866 : Nat) : Int) by decide) (rfl : 861 + 3 = 864) (xdt tt_L_law6 58 rfl) (fun hc280 => ?_) (fun hc280 => ?_)
      · replace h := (if_pos hc280).symm.trans h
        refine g_iload hC 1 rfl (rfl : 866 + 2 = 868) (xdt tt_L_law7 1 rfl) ?_
        refine g_if_ne hC (show ((868 : Nat) : Int) + 15 = ((883 : Nat) : Int) by decide) (rfl : 868 + 3 = 871) (xdt tt_L_law7 2 rfl) (fun hc279 => ?_) (fun hc279 => ?_)
        · replace h := (if_pos hc279).symm.trans h
          refine g_goto hC (show ((883 : Nat) : Int) + 1656 = ((2539 : Nat) : Int) by decide) (xdt tt_L_law7 12 rfl) ?_
          refine g_iinc hC 6 rfl (by decide) (lv' := [(4, vi (x4 + 6)), (6, vi v272), (5, vi v255), (0, .ref b), (1, vr E r1 0), (2, vr E r2 0), (3, vr E r3 0)]) rfl (rfl : 2539 + 3 = 2542) (xdt tt_L_law24 22 rfl) ?_
          refine g_goto hC (show ((2542 : Nat) : Int) + (-2519) = ((23 : Nat) : Int) by decide) (xdt tt_L_law24 23 rfl) ?_
          refine g_sub [3, 4, 5, 6, 0] (lv' := [(0, .ref b), (1, vr E r1 0), (2, vr E r2 0), (3, vr E r3 0), (4, vi (x4 + 6))]) rfl ?_
          exact hrec _ _ _ (m + 1) h (by omega) (by omega)
        · replace h := (if_neg hc279).symm.trans h
          refine g_aload_n hC rfl 5 rfl (rfl : 871 + 1 = 872) (xdt tt_L_law7 3 rfl) ?_
          refine g_iconst hC (rfl : 872 + 1 = 873) (xdt tt_L_law7 4 rfl) ?_
          refine g_lald hC hk3 ly5_0 (by decide) (rfl : 873 + 1 = 874) (xdt tt_L_law7 5 rfl) (k0 := 0) (by decide) ?_
          refine g_iload hC 0 rfl (rfl : 874 + 2 = 876) (xdt tt_L_law7 6 rfl) ?_
          refine g_i2l hC (rfl : 876 + 1 = 877) (xdt tt_L_law7 7 rfl) ?_
          refine g_lcmp hC (rfl : 877 + 1 = 878) (xdt tt_L_law7 8 rfl) ?_
          refine g_if_eq hC (show ((878 : Nat) : Int) + 5 = ((883 : Nat) : Int) by decide) (rfl : 878 + 3 = 881) (xdt tt_L_law7 9 rfl) (fun hc278 => ?_) (fun hc278 => ?_)
          · replace h := (if_pos hc278).symm.trans h
            refine g_goto hC (show ((883 : Nat) : Int) + 1656 = ((2539 : Nat) : Int) by decide) (xdt tt_L_law7 12 rfl) ?_
            refine g_iinc hC 6 rfl (by decide) (lv' := [(4, vi (x4 + 6)), (6, vi v272), (5, vi v255), (0, .ref b), (1, vr E r1 0), (2, vr E r2 0), (3, vr E r3 0)]) rfl (rfl : 2539 + 3 = 2542) (xdt tt_L_law24 22 rfl) ?_
            refine g_goto hC (show ((2542 : Nat) : Int) + (-2519) = ((23 : Nat) : Int) by decide) (xdt tt_L_law24 23 rfl) ?_
            refine g_sub [3, 4, 5, 6, 0] (lv' := [(0, .ref b), (1, vr E r1 0), (2, vr E r2 0), (3, vr E r3 0), (4, vi (x4 + 6))]) rfl ?_
            exact hrec _ _ _ (m + 1) h (by omega) (by omega)
          · replace h := (if_neg hc278).symm.trans h
            cases h
      · replace h := (if_neg hc280).symm.trans h
        cases h
  · replace h := (if_neg hc311).symm.trans h
    refine g_iconst hC (rfl : 818 + 1 = 819) (xdt tt_L_law6 32 rfl) ?_
    refine g_goto hC (show ((819 : Nat) : Int) + 4 = ((823 : Nat) : Int) by decide) (xdt tt_L_law6 33 rfl) ?_
    refine g_aload_n hC rfl 3 rfl (rfl : 823 + 1 = 824) (xdt tt_L_law6 35 rfl) ?_
    obtain ⟨v284, S283, hc282, h⟩ := bd2_i h
    refine g_lcallW hC (lw_z16 hL hm2) (lw_tr hL) mw_L_rule q794 ⟨Nat.le_of_ble_eq_true rfl, Nat.le_of_ble_eq_true rfl⟩ [vr E r1 0, vi (sc (wr (x4 + 1)).toNat), vi 1, vr E r3 0] rfl (fun l htr => c_L_rule_p3_0_5_0 l htr hk1 hA1 hk3 hc282) rfl (Nat.le_of_ble_eq_true rfl) (xdt tt_L_law6 36 rfl) ?_
    rw [bump_kc]
    have hC := hL.1 (m + 1)
    have hs := hL.2.1 (m + 1)
    refine g_istore hC (by decide) (lv' := [(5, vi v284), (0, .ref b), (1, vr E r1 0), (2, vr E r2 0), (3, vr E r3 0), (4, vi x4)]) rfl (rfl : 827 + 2 = 829) (xdt tt_L_law6 37 rfl) ?_
    refine g_aload_n hC rfl 3 rfl (rfl : 829 + 1 = 830) (xdt tt_L_law6 38 rfl) ?_
    refine g_aload_n hC rfl 1 rfl (rfl : 830 + 1 = 831) (xdt tt_L_law6 39 rfl) ?_
    refine g_iload hC 5 rfl (rfl : 831 + 2 = 833) (xdt tt_L_law6 40 rfl) ?_
    refine g_iconst hC (rfl : 833 + 1 = 834) (xdt tt_L_law6 41 rfl) ?_
    refine g_iadd hC (rfl : 834 + 1 = 835) (xdt tt_L_law6 42 rfl) ?_
    obtain ⟨hi286, h⟩ := ckI_i h
    refine g_sld hC hs hi286 (rfl : 835 + 1 = 836) (xdt tt_L_law6 43 rfl) ?_
    refine g_aload_n hC rfl 1 rfl (rfl : 836 + 1 = 837) (xdt tt_L_law6 44 rfl) ?_
    refine g_iload hC 5 rfl (rfl : 837 + 2 = 839) (xdt tt_L_law6 45 rfl) ?_
    refine g_iconst hC (rfl : 839 + 1 = 840) (xdt tt_L_law6 46 rfl) ?_
    refine g_iadd hC (rfl : 840 + 1 = 841) (xdt tt_L_law6 47 rfl) ?_
    obtain ⟨hi287, h⟩ := ckI_i h
    refine g_sld hC hs hi287 (rfl : 841 + 1 = 842) (xdt tt_L_law6 48 rfl) ?_
    refine g_if_eq hC (show ((842 : Nat) : Int) + 7 = ((849 : Nat) : Int) by decide) (rfl : 842 + 3 = 845) (xdt tt_L_law6 49 rfl) (fun hc310 => ?_) (fun hc310 => ?_)
    · replace h := (if_pos hc310).symm.trans h
      refine g_iconst hC (rfl : 849 + 1 = 850) (xdt tt_L_law6 52 rfl) ?_
      obtain ⟨v290, S289, hc288, h⟩ := bd2_i h
      refine g_lcallVi hC (lw_z0 hL (show m + 1 ≤ 512 by omega)) hk2 kclX12 ly4_0 m_X12_rule q803 ⟨Nat.le_of_ble_eq_true rfl, Nat.le_of_ble_eq_true rfl⟩ [vi (sc (wr (x4 + 1)).toNat), vi 0] rfl (fun l => c_X12_rule_p4_0 l hk2 hc288) rfl (Nat.le_of_ble_eq_true rfl) (rfl : 850 + 3 = 853) (xdt tt_L_law6 53 rfl) ?_
      refine g_istore hC (by decide) (lv' := [(6, vi v290), (5, vi v284), (0, .ref b), (1, vr E r1 0), (2, vr E r2 0), (3, vr E r3 0), (4, vi x4)]) rfl (rfl : 853 + 2 = 855) (xdt tt_L_law6 54 rfl) ?_
      refine g_aload_n hC rfl 4 rfl (rfl : 855 + 1 = 856) (xdt tt_L_law6 55 rfl) ?_
      obtain ⟨v294, S293, hc292, h⟩ := bd2_i h
      refine g_lcallVi hC (lw_z0 hL (show m + 1 ≤ 512 by omega)) hk2 kclX12 ly4_0 m_X12_thrown q672 ⟨Nat.le_of_ble_eq_true rfl, Nat.le_of_ble_eq_true rfl⟩ [] rfl (fun l => c_X12_thrown_p4_0 l hk2 hc292) rfl (Nat.le_of_ble_eq_true rfl) (rfl : 856 + 3 = 859) (xdt tt_L_law6 56 rfl) ?_
      refine g_iload hC 1 rfl (rfl : 859 + 2 = 861) (xdt tt_L_law6 57 rfl) ?_
      refine g_icmp_eq hC (show ((861 : Nat) : Int) + 5 = ((866 : Nat) : Int) by decide) (rfl : 861 + 3 = 864) (xdt tt_L_law6 58 rfl) (fun hc298 => ?_) (fun hc298 => ?_)
      · replace h := (if_pos hc298).symm.trans h
        refine g_iload hC 1 rfl (rfl : 866 + 2 = 868) (xdt tt_L_law7 1 rfl) ?_
        refine g_if_ne hC (show ((868 : Nat) : Int) + 15 = ((883 : Nat) : Int) by decide) (rfl : 868 + 3 = 871) (xdt tt_L_law7 2 rfl) (fun hc297 => ?_) (fun hc297 => ?_)
        · replace h := (if_pos hc297).symm.trans h
          refine g_goto hC (show ((883 : Nat) : Int) + 1656 = ((2539 : Nat) : Int) by decide) (xdt tt_L_law7 12 rfl) ?_
          refine g_iinc hC 6 rfl (by decide) (lv' := [(4, vi (x4 + 6)), (6, vi v290), (5, vi v284), (0, .ref b), (1, vr E r1 0), (2, vr E r2 0), (3, vr E r3 0)]) rfl (rfl : 2539 + 3 = 2542) (xdt tt_L_law24 22 rfl) ?_
          refine g_goto hC (show ((2542 : Nat) : Int) + (-2519) = ((23 : Nat) : Int) by decide) (xdt tt_L_law24 23 rfl) ?_
          refine g_sub [3, 4, 5, 6, 0] (lv' := [(0, .ref b), (1, vr E r1 0), (2, vr E r2 0), (3, vr E r3 0), (4, vi (x4 + 6))]) rfl ?_
          exact hrec _ _ _ (m + 1) h (by omega) (by omega)
        · replace h := (if_neg hc297).symm.trans h
          refine g_aload_n hC rfl 5 rfl (rfl : 871 + 1 = 872) (xdt tt_L_law7 3 rfl) ?_
          refine g_iconst hC (rfl : 872 + 1 = 873) (xdt tt_L_law7 4 rfl) ?_
          refine g_lald hC hk3 ly5_0 (by decide) (rfl : 873 + 1 = 874) (xdt tt_L_law7 5 rfl) (k0 := 0) (by decide) ?_
          refine g_iload hC 0 rfl (rfl : 874 + 2 = 876) (xdt tt_L_law7 6 rfl) ?_
          refine g_i2l hC (rfl : 876 + 1 = 877) (xdt tt_L_law7 7 rfl) ?_
          refine g_lcmp hC (rfl : 877 + 1 = 878) (xdt tt_L_law7 8 rfl) ?_
          refine g_if_eq hC (show ((878 : Nat) : Int) + 5 = ((883 : Nat) : Int) by decide) (rfl : 878 + 3 = 881) (xdt tt_L_law7 9 rfl) (fun hc296 => ?_) (fun hc296 => ?_)
          · replace h := (if_pos hc296).symm.trans h
            refine g_goto hC (show ((883 : Nat) : Int) + 1656 = ((2539 : Nat) : Int) by decide) (xdt tt_L_law7 12 rfl) ?_
            refine g_iinc hC 6 rfl (by decide) (lv' := [(4, vi (x4 + 6)), (6, vi v290), (5, vi v284), (0, .ref b), (1, vr E r1 0), (2, vr E r2 0), (3, vr E r3 0)]) rfl (rfl : 2539 + 3 = 2542) (xdt tt_L_law24 22 rfl) ?_
            refine g_goto hC (show ((2542 : Nat) : Int) + (-2519) = ((23 : Nat) : Int) by decide) (xdt tt_L_law24 23 rfl) ?_
            refine g_sub [3, 4, 5, 6, 0] (lv' := [(0, .ref b), (1, vr E r1 0), (2, vr E r2 0), (3, vr E r3 0), (4, vi (x4 + 6))]) rfl ?_
            exact hrec _ _ _ (m + 1) h (by omega) (by omega)
          · replace h := (if_neg hc296).symm.trans h
            cases h
      · replace h := (if_neg hc298).symm.trans h
        cases h
    · replace h := (if_neg hc310).symm.trans h
      refine g_iconst hC (rfl : 845 + 1 = 846) (xdt tt_L_law6 50 rfl) ?_
      refine g_goto hC (show ((846 : Nat) : Int) + 4 = ((850 : Nat) : Int) by decide) (xdt tt_L_law6 51 rfl) ?_
      obtain ⟨v301, S300, hc299, h⟩ := bd2_i h
      refine g_lcallVi hC (lw_z0 hL (show m + 1 ≤ 512 by omega)) hk2 kclX12 ly4_0 m_X12_rule q803 ⟨Nat.le_of_ble_eq_true rfl, Nat.le_of_ble_eq_true rfl⟩ [vi (sc (wr (x4 + 1)).toNat), vi 1] rfl (fun l => c_X12_rule_p4_0 l hk2 hc299) rfl (Nat.le_of_ble_eq_true rfl) (rfl : 850 + 3 = 853) (xdt tt_L_law6 53 rfl) ?_
      refine g_istore hC (by decide) (lv' := [(6, vi v301), (5, vi v284), (0, .ref b), (1, vr E r1 0), (2, vr E r2 0), (3, vr E r3 0), (4, vi x4)]) rfl (rfl : 853 + 2 = 855) (xdt tt_L_law6 54 rfl) ?_
      refine g_aload_n hC rfl 4 rfl (rfl : 855 + 1 = 856) (xdt tt_L_law6 55 rfl) ?_
      obtain ⟨v305, S304, hc303, h⟩ := bd2_i h
      refine g_lcallVi hC (lw_z0 hL (show m + 1 ≤ 512 by omega)) hk2 kclX12 ly4_0 m_X12_thrown q672 ⟨Nat.le_of_ble_eq_true rfl, Nat.le_of_ble_eq_true rfl⟩ [] rfl (fun l => c_X12_thrown_p4_0 l hk2 hc303) rfl (Nat.le_of_ble_eq_true rfl) (rfl : 856 + 3 = 859) (xdt tt_L_law6 56 rfl) ?_
      refine g_iload hC 1 rfl (rfl : 859 + 2 = 861) (xdt tt_L_law6 57 rfl) ?_
      refine g_icmp_eq hC (show ((861 : Nat) : Int) + 5 = ((866 : Nat) : Int) by decide) (rfl : 861 + 3 = 864) (xdt tt_L_law6 58 rfl) (fun hc309 => ?_) (fun hc309 => ?_)
      · replace h := (if_pos hc309).symm.trans h
        refine g_iload hC 1 rfl (rfl : 866 + 2 = 868) (xdt tt_L_law7 1 rfl) ?_
        refine g_if_ne hC (show ((868 : Nat) : Int) + 15 = ((883 : Nat) : Int) by decide) (rfl : 868 + 3 = 871) (xdt tt_L_law7 2 rfl) (fun hc308 => ?_) (fun hc308 => ?_)
        · replace h := (if_pos hc308).symm.trans h
          refine g_goto hC (show ((883 : Nat) : Int) + 1656 = ((2539 : Nat) : Int) by decide) (xdt tt_L_law7 12 rfl) ?_
          refine g_iinc hC 6 rfl (by decide) (lv' := [(4, vi (x4 + 6)), (6, vi v301), (5, vi v284), (0, .ref b), (1, vr E r1 0), (2, vr E r2 0), (3, vr E r3 0)]) rfl (rfl : 2539 + 3 = 2542) (xdt tt_L_law24 22 rfl) ?_
          refine g_goto hC (show ((2542 : Nat) : Int) + (-2519) = ((23 : Nat) : Int) by decide) (xdt tt_L_law24 23 rfl) ?_
          refine g_sub [3, 4, 5, 6, 0] (lv' := [(0, .ref b), (1, vr E r1 0), (2, vr E r2 0), (3, vr E r3 0), (4, vi (x4 + 6))]) rfl ?_
          exact hrec _ _ _ (m + 1) h (by omega) (by omega)
        · replace h := (if_neg hc308).symm.trans h
          refine g_aload_n hC rfl 5 rfl (rfl : 871 + 1 = 872) (xdt tt_L_law7 3 rfl) ?_
          refine g_iconst hC (rfl : 872 + 1 = 873) (xdt tt_L_law7 4 rfl) ?_
          refine g_lald hC hk3 ly5_0 (by decide) (rfl : 873 + 1 = 874) (xdt tt_L_law7 5 rfl) (k0 := 0) (by decide) ?_
          refine g_iload hC 0 rfl (rfl : 874 + 2 = 876) (xdt tt_L_law7 6 rfl) ?_
          refine g_i2l hC (rfl : 876 + 1 = 877) (xdt tt_L_law7 7 rfl) ?_
          refine g_lcmp hC (rfl : 877 + 1 = 878) (xdt tt_L_law7 8 rfl) ?_
          refine g_if_eq hC (show ((878 : Nat) : Int) + 5 = ((883 : Nat) : Int) by decide) (rfl : 878 + 3 = 881) (xdt tt_L_law7 9 rfl) (fun hc307 => ?_) (fun hc307 => ?_)
          · replace h := (if_pos hc307).symm.trans h
            refine g_goto hC (show ((883 : Nat) : Int) + 1656 = ((2539 : Nat) : Int) by decide) (xdt tt_L_law7 12 rfl) ?_
            refine g_iinc hC 6 rfl (by decide) (lv' := [(4, vi (x4 + 6)), (6, vi v301), (5, vi v284), (0, .ref b), (1, vr E r1 0), (2, vr E r2 0), (3, vr E r3 0)]) rfl (rfl : 2539 + 3 = 2542) (xdt tt_L_law24 22 rfl) ?_
            refine g_goto hC (show ((2542 : Nat) : Int) + (-2519) = ((23 : Nat) : Int) by decide) (xdt tt_L_law24 23 rfl) ?_
            refine g_sub [3, 4, 5, 6, 0] (lv' := [(0, .ref b), (1, vr E r1 0), (2, vr E r2 0), (3, vr E r3 0), (4, vi (x4 + 6))]) rfl ?_
            exact hrec _ _ _ (m + 1) h (by omega) (by omega)
          · replace h := (if_neg hc307).symm.trans h
            cases h
      · replace h := (if_neg hc309).symm.trans h
        cases h
set_option maxRecDepth 100000 in
set_option maxHeartbeats 4000000 in
theorem k_law_b886 {K : xCtx} {E : xE} {b0 b1 b L : Nat} {sc : Nat → Int} {r1 r2 r3 : Nat} (hL : lwC K E b0 b1 b L sc) (hk1 : xkd E r1 = 3) (hA1 : xFam E r1) (hk2 : xkd E r2 = 4) (hk3 : xkd E r3 = 5) {c23 : xSt → Int → Option xSt} {x4 : Int} {m : Nat} (hm : x4 = 6 * (m : Int)) (hm2 : m < 512) {S S' : xSt} (hrec : ∀ (S S' : xSt) (z : Int) (k : Nat), c23 S z = some S' → z = 6 * (k : Int) → k ≤ 512 → WG (kc K b0 b1 k) E 23 [(0, .ref b), (1, vr E r1 0), (2, vr E r2 0), (3, vr E r3 0), (4, vi z)] [] S) (h : f_law_b886 c23 r1 r2 r3 L sc S x4 = some S') : WG (kc K b0 b1 m) E 886 [(0, .ref b), (1, vr E r1 0), (2, vr E r2 0), (3, vr E r3 0), (4, vi x4)] [] S := by
  unfold f_law_b886 at h
  have hC := hL.1 m
  have hs := hL.2.1 m
  refine g_aload_n hC rfl 1 rfl (rfl : 886 + 1 = 887) (xdt tt_L_law7 13 rfl) ?_
  refine g_aload_n hC rfl 0 rfl (rfl : 887 + 1 = 888) (xdt tt_L_law7 14 rfl) ?_
  refine g_iload hC 4 rfl (rfl : 888 + 2 = 890) (xdt tt_L_law7 15 rfl) ?_
  refine g_iconst hC (rfl : 890 + 1 = 891) (xdt tt_L_law7 16 rfl) ?_
  refine g_iadd hC (rfl : 891 + 1 = 892) (xdt tt_L_law7 17 rfl) ?_
  obtain ⟨hi313, h⟩ := ckI_i h
  refine g_sld hC hs hi313 (rfl : 892 + 1 = 893) (xdt tt_L_law7 18 rfl) ?_
  refine g_aload_n hC rfl 3 rfl (rfl : 893 + 1 = 894) (xdt tt_L_law7 19 rfl) ?_
  obtain ⟨v316, S315, hc314, h⟩ := bd2_i h
  refine g_lcallW hC (lw_z16 hL hm2) (lw_tr hL) mw_L_queueAt q811 ⟨Nat.le_of_ble_eq_true rfl, Nat.le_of_ble_eq_true rfl⟩ [vr E r1 0, vi (sc (wr (x4 + 1)).toNat), vr E r3 0] rfl (fun l htr => c_L_queueAt_p3_0_5_0 l htr hk1 hA1 hk3 hc314) rfl (Nat.le_of_ble_eq_true rfl) (xdt tt_L_law7 20 rfl) ?_
  rw [bump_kc]
  have hC := hL.1 (m + 1)
  have hs := hL.2.1 (m + 1)
  refine g_istore hC (by decide) (lv' := [(5, vi v316), (0, .ref b), (1, vr E r1 0), (2, vr E r2 0), (3, vr E r3 0), (4, vi x4)]) rfl (rfl : 897 + 2 = 899) (xdt tt_L_law7 21 rfl) ?_
  refine g_aload_n hC rfl 3 rfl (rfl : 899 + 1 = 900) (xdt tt_L_law7 22 rfl) ?_
  refine g_aload_n hC rfl 1 rfl (rfl : 900 + 1 = 901) (xdt tt_L_law7 23 rfl) ?_
  refine g_iload hC 5 rfl (rfl : 901 + 2 = 903) (xdt tt_L_law7 24 rfl) ?_
  refine g_iconst hC (rfl : 903 + 1 = 904) (xdt tt_L_law7 25 rfl) ?_
  refine g_iadd hC (rfl : 904 + 1 = 905) (xdt tt_L_law7 26 rfl) ?_
  obtain ⟨hi318, h⟩ := ckI_i h
  refine g_sld hC hs hi318 (rfl : 905 + 1 = 906) (xdt tt_L_law7 27 rfl) ?_
  obtain ⟨v321, S320, hc319, h⟩ := bd2_i h
  refine g_lcallVi hC (lw_z0 hL (show m + 1 ≤ 512 by omega)) hk2 kclX12 ly4_0 m_X12_queueAt q822 ⟨Nat.le_of_ble_eq_true rfl, Nat.le_of_ble_eq_true rfl⟩ [vi (sc (wr (x4 + 1)).toNat)] rfl (fun l => c_X12_queueAt_p4_0 l hk2 hc319) rfl (Nat.le_of_ble_eq_true rfl) (rfl : 906 + 3 = 909) (xdt tt_L_law7 28 rfl) ?_
  refine g_istore hC (by decide) (lv' := [(6, vi v321), (5, vi v316), (0, .ref b), (1, vr E r1 0), (2, vr E r2 0), (3, vr E r3 0), (4, vi x4)]) rfl (rfl : 909 + 2 = 911) (xdt tt_L_law7 29 rfl) ?_
  refine g_aload_n hC rfl 4 rfl (rfl : 911 + 1 = 912) (xdt tt_L_law7 30 rfl) ?_
  obtain ⟨v325, S324, hc323, h⟩ := bd2_i h
  refine g_lcallVi hC (lw_z0 hL (show m + 1 ≤ 512 by omega)) hk2 kclX12 ly4_0 m_X12_thrown q672 ⟨Nat.le_of_ble_eq_true rfl, Nat.le_of_ble_eq_true rfl⟩ [] rfl (fun l => c_X12_thrown_p4_0 l hk2 hc323) rfl (Nat.le_of_ble_eq_true rfl) (rfl : 912 + 3 = 915) (xdt tt_L_law7 31 rfl) ?_
  refine g_iload hC 1 rfl (rfl : 915 + 2 = 917) (xdt tt_L_law7 32 rfl) ?_
  refine g_icmp_eq hC (show ((917 : Nat) : Int) + 5 = ((922 : Nat) : Int) by decide) (rfl : 917 + 3 = 920) (xdt tt_L_law7 33 rfl) (fun hc329 => ?_) (fun hc329 => ?_)
  · replace h := (if_pos hc329).symm.trans h
    refine g_iload hC 1 rfl (rfl : 922 + 2 = 924) (xdt tt_L_law7 36 rfl) ?_
    refine g_if_ne hC (show ((924 : Nat) : Int) + 15 = ((939 : Nat) : Int) by decide) (rfl : 924 + 3 = 927) (xdt tt_L_law7 37 rfl) (fun hc328 => ?_) (fun hc328 => ?_)
    · replace h := (if_pos hc328).symm.trans h
      refine g_goto hC (show ((939 : Nat) : Int) + 1600 = ((2539 : Nat) : Int) by decide) (xdt tt_L_law7 47 rfl) ?_
      refine g_iinc hC 6 rfl (by decide) (lv' := [(4, vi (x4 + 6)), (6, vi v321), (5, vi v316), (0, .ref b), (1, vr E r1 0), (2, vr E r2 0), (3, vr E r3 0)]) rfl (rfl : 2539 + 3 = 2542) (xdt tt_L_law24 22 rfl) ?_
      refine g_goto hC (show ((2542 : Nat) : Int) + (-2519) = ((23 : Nat) : Int) by decide) (xdt tt_L_law24 23 rfl) ?_
      refine g_sub [3, 4, 5, 6, 0] (lv' := [(0, .ref b), (1, vr E r1 0), (2, vr E r2 0), (3, vr E r3 0), (4, vi (x4 + 6))]) rfl ?_
      exact hrec _ _ _ (m + 1) h (by omega) (by omega)
    · replace h := (if_neg hc328).symm.trans h
      refine g_aload_n hC rfl 5 rfl (rfl : 927 + 1 = 928) (xdt tt_L_law7 38 rfl) ?_
      refine g_iconst hC (rfl : 928 + 1 = 929) (xdt tt_L_law7 39 rfl) ?_
      refine g_lald hC hk3 ly5_0 (by decide) (rfl : 929 + 1 = 930) (xdt tt_L_law7 40 rfl) (k0 := 0) (by decide) ?_
      refine g_iload hC 0 rfl (rfl : 930 + 2 = 932) (xdt tt_L_law7 41 rfl) ?_
      refine g_i2l hC (rfl : 932 + 1 = 933) (xdt tt_L_law7 42 rfl) ?_
      refine g_lcmp hC (rfl : 933 + 1 = 934) (xdt tt_L_law7 43 rfl) ?_
      refine g_if_eq hC (show ((934 : Nat) : Int) + 5 = ((939 : Nat) : Int) by decide) (rfl : 934 + 3 = 937) (xdt tt_L_law7 44 rfl) (fun hc327 => ?_) (fun hc327 => ?_)
      · replace h := (if_pos hc327).symm.trans h
        refine g_goto hC (show ((939 : Nat) : Int) + 1600 = ((2539 : Nat) : Int) by decide) (xdt tt_L_law7 47 rfl) ?_
        refine g_iinc hC 6 rfl (by decide) (lv' := [(4, vi (x4 + 6)), (6, vi v321), (5, vi v316), (0, .ref b), (1, vr E r1 0), (2, vr E r2 0), (3, vr E r3 0)]) rfl (rfl : 2539 + 3 = 2542) (xdt tt_L_law24 22 rfl) ?_
        refine g_goto hC (show ((2542 : Nat) : Int) + (-2519) = ((23 : Nat) : Int) by decide) (xdt tt_L_law24 23 rfl) ?_
        refine g_sub [3, 4, 5, 6, 0] (lv' := [(0, .ref b), (1, vr E r1 0), (2, vr E r2 0), (3, vr E r3 0), (4, vi (x4 + 6))]) rfl ?_
        exact hrec _ _ _ (m + 1) h (by omega) (by omega)
      · replace h := (if_neg hc327).symm.trans h
        cases h
  · replace h := (if_neg hc329).symm.trans h
    cases h
set_option maxRecDepth 100000 in
set_option maxHeartbeats 4000000 in
theorem k_law_b942 {K : xCtx} {E : xE} {b0 b1 b L : Nat} {sc : Nat → Int} {r1 r2 r3 : Nat} (hL : lwC K E b0 b1 b L sc) (hk1 : xkd E r1 = 3) (hA1 : xFam E r1) (hk2 : xkd E r2 = 4) (hk3 : xkd E r3 = 5) {c23 : xSt → Int → Option xSt} {x4 : Int} {m : Nat} (hm : x4 = 6 * (m : Int)) (hm2 : m < 512) {S S' : xSt} (hrec : ∀ (S S' : xSt) (z : Int) (k : Nat), c23 S z = some S' → z = 6 * (k : Int) → k ≤ 512 → WG (kc K b0 b1 k) E 23 [(0, .ref b), (1, vr E r1 0), (2, vr E r2 0), (3, vr E r3 0), (4, vi z)] [] S) (h : f_law_b942 c23 r1 r2 r3 L sc S x4 = some S') : WG (kc K b0 b1 m) E 942 [(0, .ref b), (1, vr E r1 0), (2, vr E r2 0), (3, vr E r3 0), (4, vi x4)] [] S := by
  unfold f_law_b942 at h
  have hC := hL.1 m
  have hs := hL.2.1 m
  refine g_aload_n hC rfl 1 rfl (rfl : 942 + 1 = 943) (xdt tt_L_law7 48 rfl) ?_
  refine g_aload_n hC rfl 0 rfl (rfl : 943 + 1 = 944) (xdt tt_L_law7 49 rfl) ?_
  refine g_iload hC 4 rfl (rfl : 944 + 2 = 946) (xdt tt_L_law7 50 rfl) ?_
  refine g_iconst hC (rfl : 946 + 1 = 947) (xdt tt_L_law7 51 rfl) ?_
  refine g_iadd hC (rfl : 947 + 1 = 948) (xdt tt_L_law7 52 rfl) ?_
  obtain ⟨hi331, h⟩ := ckI_i h
  refine g_sld hC hs hi331 (rfl : 948 + 1 = 949) (xdt tt_L_law7 53 rfl) ?_
  refine g_aload_n hC rfl 3 rfl (rfl : 949 + 1 = 950) (xdt tt_L_law7 54 rfl) ?_
  obtain ⟨v334, S333, hc332, h⟩ := bd2_i h
  refine g_lcallW hC (lw_z16 hL hm2) (lw_tr hL) mw_L_loop q826 ⟨Nat.le_of_ble_eq_true rfl, Nat.le_of_ble_eq_true rfl⟩ [vr E r1 0, vi (sc (wr (x4 + 1)).toNat), vr E r3 0] rfl (fun l htr => c_L_loop_p3_0_5_0 l htr hk1 hA1 hk3 hc332) rfl (Nat.le_of_ble_eq_true rfl) (xdt tt_L_law7 55 rfl) ?_
  rw [bump_kc]
  have hC := hL.1 (m + 1)
  have hs := hL.2.1 (m + 1)
  refine g_istore hC (by decide) (lv' := [(5, vi v334), (0, .ref b), (1, vr E r1 0), (2, vr E r2 0), (3, vr E r3 0), (4, vi x4)]) rfl (rfl : 953 + 2 = 955) (xdt tt_L_law7 56 rfl) ?_
  refine g_aload_n hC rfl 3 rfl (rfl : 955 + 1 = 956) (xdt tt_L_law7 57 rfl) ?_
  refine g_aload_n hC rfl 1 rfl (rfl : 956 + 1 = 957) (xdt tt_L_law7 58 rfl) ?_
  refine g_iload hC 5 rfl (rfl : 957 + 2 = 959) (xdt tt_L_law7 59 rfl) ?_
  refine g_iconst hC (rfl : 959 + 1 = 960) (xdt tt_L_law8 0 rfl) ?_
  refine g_iadd hC (rfl : 960 + 1 = 961) (xdt tt_L_law8 1 rfl) ?_
  obtain ⟨hi336, h⟩ := ckI_i h
  refine g_sld hC hs hi336 (rfl : 961 + 1 = 962) (xdt tt_L_law8 2 rfl) ?_
  obtain ⟨v339, S338, hc337, h⟩ := bd2_i h
  refine g_lcallVi hC (lw_z0 hL (show m + 1 ≤ 512 by omega)) hk2 kclX12 ly4_0 m_X12_loop q839 ⟨Nat.le_of_ble_eq_true rfl, Nat.le_of_ble_eq_true rfl⟩ [vi (sc (wr (x4 + 1)).toNat)] rfl (fun l => c_X12_loop_p4_0 l hk2 hc337) rfl (Nat.le_of_ble_eq_true rfl) (rfl : 962 + 3 = 965) (xdt tt_L_law8 3 rfl) ?_
  refine g_istore hC (by decide) (lv' := [(6, vi v339), (5, vi v334), (0, .ref b), (1, vr E r1 0), (2, vr E r2 0), (3, vr E r3 0), (4, vi x4)]) rfl (rfl : 965 + 2 = 967) (xdt tt_L_law8 4 rfl) ?_
  refine g_aload_n hC rfl 4 rfl (rfl : 967 + 1 = 968) (xdt tt_L_law8 5 rfl) ?_
  obtain ⟨v343, S342, hc341, h⟩ := bd2_i h
  refine g_lcallVi hC (lw_z0 hL (show m + 1 ≤ 512 by omega)) hk2 kclX12 ly4_0 m_X12_thrown q672 ⟨Nat.le_of_ble_eq_true rfl, Nat.le_of_ble_eq_true rfl⟩ [] rfl (fun l => c_X12_thrown_p4_0 l hk2 hc341) rfl (Nat.le_of_ble_eq_true rfl) (rfl : 968 + 3 = 971) (xdt tt_L_law8 6 rfl) ?_
  refine g_iload hC 1 rfl (rfl : 971 + 2 = 973) (xdt tt_L_law8 7 rfl) ?_
  refine g_icmp_eq hC (show ((973 : Nat) : Int) + 5 = ((978 : Nat) : Int) by decide) (rfl : 973 + 3 = 976) (xdt tt_L_law8 8 rfl) (fun hc347 => ?_) (fun hc347 => ?_)
  · replace h := (if_pos hc347).symm.trans h
    refine g_iload hC 1 rfl (rfl : 978 + 2 = 980) (xdt tt_L_law8 11 rfl) ?_
    refine g_if_ne hC (show ((980 : Nat) : Int) + 15 = ((995 : Nat) : Int) by decide) (rfl : 980 + 3 = 983) (xdt tt_L_law8 12 rfl) (fun hc346 => ?_) (fun hc346 => ?_)
    · replace h := (if_pos hc346).symm.trans h
      refine g_goto hC (show ((995 : Nat) : Int) + 1544 = ((2539 : Nat) : Int) by decide) (xdt tt_L_law8 22 rfl) ?_
      refine g_iinc hC 6 rfl (by decide) (lv' := [(4, vi (x4 + 6)), (6, vi v339), (5, vi v334), (0, .ref b), (1, vr E r1 0), (2, vr E r2 0), (3, vr E r3 0)]) rfl (rfl : 2539 + 3 = 2542) (xdt tt_L_law24 22 rfl) ?_
      refine g_goto hC (show ((2542 : Nat) : Int) + (-2519) = ((23 : Nat) : Int) by decide) (xdt tt_L_law24 23 rfl) ?_
      refine g_sub [3, 4, 5, 6, 0] (lv' := [(0, .ref b), (1, vr E r1 0), (2, vr E r2 0), (3, vr E r3 0), (4, vi (x4 + 6))]) rfl ?_
      exact hrec _ _ _ (m + 1) h (by omega) (by omega)
    · replace h := (if_neg hc346).symm.trans h
      refine g_aload_n hC rfl 5 rfl (rfl : 983 + 1 = 984) (xdt tt_L_law8 13 rfl) ?_
      refine g_iconst hC (rfl : 984 + 1 = 985) (xdt tt_L_law8 14 rfl) ?_
      refine g_lald hC hk3 ly5_0 (by decide) (rfl : 985 + 1 = 986) (xdt tt_L_law8 15 rfl) (k0 := 0) (by decide) ?_
      refine g_iload hC 0 rfl (rfl : 986 + 2 = 988) (xdt tt_L_law8 16 rfl) ?_
      refine g_i2l hC (rfl : 988 + 1 = 989) (xdt tt_L_law8 17 rfl) ?_
      refine g_lcmp hC (rfl : 989 + 1 = 990) (xdt tt_L_law8 18 rfl) ?_
      refine g_if_eq hC (show ((990 : Nat) : Int) + 5 = ((995 : Nat) : Int) by decide) (rfl : 990 + 3 = 993) (xdt tt_L_law8 19 rfl) (fun hc345 => ?_) (fun hc345 => ?_)
      · replace h := (if_pos hc345).symm.trans h
        refine g_goto hC (show ((995 : Nat) : Int) + 1544 = ((2539 : Nat) : Int) by decide) (xdt tt_L_law8 22 rfl) ?_
        refine g_iinc hC 6 rfl (by decide) (lv' := [(4, vi (x4 + 6)), (6, vi v339), (5, vi v334), (0, .ref b), (1, vr E r1 0), (2, vr E r2 0), (3, vr E r3 0)]) rfl (rfl : 2539 + 3 = 2542) (xdt tt_L_law24 22 rfl) ?_
        refine g_goto hC (show ((2542 : Nat) : Int) + (-2519) = ((23 : Nat) : Int) by decide) (xdt tt_L_law24 23 rfl) ?_
        refine g_sub [3, 4, 5, 6, 0] (lv' := [(0, .ref b), (1, vr E r1 0), (2, vr E r2 0), (3, vr E r3 0), (4, vi (x4 + 6))]) rfl ?_
        exact hrec _ _ _ (m + 1) h (by omega) (by omega)
      · replace h := (if_neg hc345).symm.trans h
        cases h
  · replace h := (if_neg hc347).symm.trans h
    cases h
set_option maxRecDepth 100000 in
set_option maxHeartbeats 4000000 in
theorem k_law_b998 {K : xCtx} {E : xE} {b0 b1 b L : Nat} {sc : Nat → Int} {r1 r2 r3 : Nat} (hL : lwC K E b0 b1 b L sc) (hk1 : xkd E r1 = 3) (hA1 : xFam E r1) (hk2 : xkd E r2 = 4) (hk3 : xkd E r3 = 5) {c23 : xSt → Int → Option xSt} {x4 : Int} {m : Nat} (hm : x4 = 6 * (m : Int)) (hm2 : m < 512) {S S' : xSt} (hrec : ∀ (S S' : xSt) (z : Int) (k : Nat), c23 S z = some S' → z = 6 * (k : Int) → k ≤ 512 → WG (kc K b0 b1 k) E 23 [(0, .ref b), (1, vr E r1 0), (2, vr E r2 0), (3, vr E r3 0), (4, vi z)] [] S) (h : f_law_b998 c23 r1 r2 r3 L sc S x4 = some S') : WG (kc K b0 b1 m) E 998 [(0, .ref b), (1, vr E r1 0), (2, vr E r2 0), (3, vr E r3 0), (4, vi x4)] [] S := by
  unfold f_law_b998 at h
  have hC := hL.1 m
  have hs := hL.2.1 m
  refine g_aload_n hC rfl 1 rfl (rfl : 998 + 1 = 999) (xdt tt_L_law8 23 rfl) ?_
  obtain ⟨v351, S350, hc349, h⟩ := bd2_i h
  refine g_lcallVz hC (lw_z0 hL (show m ≤ 512 by omega)) hk1 kclX11 ly3_0 m_X11_isCut q848 ⟨Nat.le_of_ble_eq_true rfl, Nat.le_of_ble_eq_true rfl⟩ [] rfl (fun l => c_X11_isCut_p3_0 l hk1 hA1 hc349) rfl (Nat.le_of_ble_eq_true rfl) (rfl : 999 + 3 = 1002) (xdt tt_L_law8 24 rfl) (fun hb352 => ?_)
  refine g_aload_n hC rfl 2 rfl (rfl : 1002 + 1 = 1003) (xdt tt_L_law8 25 rfl) ?_
  obtain ⟨v355, S354, hc353, h⟩ := bd2_i h
  refine g_lcallVz hC (lw_z0 hL (show m ≤ 512 by omega)) hk2 kclX12 ly4_0 m_X12_isCut q853 ⟨Nat.le_of_ble_eq_true rfl, Nat.le_of_ble_eq_true rfl⟩ [] rfl (fun l => c_X12_isCut_p4_0 l hk2 hc353) rfl (Nat.le_of_ble_eq_true rfl) (rfl : 1003 + 3 = 1006) (xdt tt_L_law8 26 rfl) (fun hb356 => ?_)
  refine g_icmp_eq hC (show ((1006 : Nat) : Int) + 1533 = ((2539 : Nat) : Int) by decide) (rfl : 1006 + 3 = 1009) (xdt tt_L_law8 27 rfl) (fun hc357 => ?_) (fun hc357 => ?_)
  · replace h := (if_pos hc357).symm.trans h
    refine g_iinc hC 4 rfl (by decide) (lv' := [(4, vi (x4 + 6)), (0, .ref b), (1, vr E r1 0), (2, vr E r2 0), (3, vr E r3 0)]) rfl (rfl : 2539 + 3 = 2542) (xdt tt_L_law24 22 rfl) ?_
    refine g_goto hC (show ((2542 : Nat) : Int) + (-2519) = ((23 : Nat) : Int) by decide) (xdt tt_L_law24 23 rfl) ?_
    refine g_sub [1, 2, 3, 4, 0] (lv' := [(0, .ref b), (1, vr E r1 0), (2, vr E r2 0), (3, vr E r3 0), (4, vi (x4 + 6))]) rfl ?_
    refine l_wid ?_
    exact hrec _ _ _ (m + 1) h (by omega) (by omega)
  · replace h := (if_neg hc357).symm.trans h
    cases h
set_option maxRecDepth 100000 in
set_option maxHeartbeats 4000000 in
theorem k_law_b1011 {K : xCtx} {E : xE} {b0 b1 b L : Nat} {sc : Nat → Int} {r1 r2 r3 : Nat} (hL : lwC K E b0 b1 b L sc) (hk1 : xkd E r1 = 3) (hA1 : xFam E r1) (hk2 : xkd E r2 = 4) (hk3 : xkd E r3 = 5) {c23 : xSt → Int → Option xSt} {x4 : Int} {m : Nat} (hm : x4 = 6 * (m : Int)) (hm2 : m < 512) {S S' : xSt} (hrec : ∀ (S S' : xSt) (z : Int) (k : Nat), c23 S z = some S' → z = 6 * (k : Int) → k ≤ 512 → WG (kc K b0 b1 k) E 23 [(0, .ref b), (1, vr E r1 0), (2, vr E r2 0), (3, vr E r3 0), (4, vi z)] [] S) (h : f_law_b1011 c23 r1 r2 r3 L sc S x4 = some S') : WG (kc K b0 b1 m) E 1011 [(0, .ref b), (1, vr E r1 0), (2, vr E r2 0), (3, vr E r3 0), (4, vi x4)] [] S := by
  unfold f_law_b1011 at h
  have hC := hL.1 m
  have hs := hL.2.1 m
  refine g_aload_n hC rfl 1 rfl (rfl : 1011 + 1 = 1012) (xdt tt_L_law8 30 rfl) ?_
  refine g_aload_n hC rfl 0 rfl (rfl : 1012 + 1 = 1013) (xdt tt_L_law8 31 rfl) ?_
  refine g_iload hC 4 rfl (rfl : 1013 + 2 = 1015) (xdt tt_L_law8 32 rfl) ?_
  refine g_iconst hC (rfl : 1015 + 1 = 1016) (xdt tt_L_law8 33 rfl) ?_
  refine g_iadd hC (rfl : 1016 + 1 = 1017) (xdt tt_L_law8 34 rfl) ?_
  obtain ⟨hi359, h⟩ := ckI_i h
  refine g_sld hC hs hi359 (rfl : 1017 + 1 = 1018) (xdt tt_L_law8 35 rfl) ?_
  refine g_aload_n hC rfl 3 rfl (rfl : 1018 + 1 = 1019) (xdt tt_L_law8 36 rfl) ?_
  obtain ⟨v362, S361, hc360, h⟩ := bd2_i h
  refine g_lcallW hC (lw_z16 hL hm2) (lw_tr hL) mw_L_bubbles q857 ⟨Nat.le_of_ble_eq_true rfl, Nat.le_of_ble_eq_true rfl⟩ [vr E r1 0, vi (sc (wr (x4 + 1)).toNat), vr E r3 0] rfl (fun l htr => c_L_bubbles_p3_0_5_0 l htr hk1 hA1 hk3 hc360) rfl (Nat.le_of_ble_eq_true rfl) (xdt tt_L_law8 37 rfl) ?_
  rw [bump_kc]
  have hC := hL.1 (m + 1)
  have hs := hL.2.1 (m + 1)
  refine g_istore hC (by decide) (lv' := [(5, vi v362), (0, .ref b), (1, vr E r1 0), (2, vr E r2 0), (3, vr E r3 0), (4, vi x4)]) rfl (rfl : 1022 + 2 = 1024) (xdt tt_L_law8 38 rfl) ?_
  refine g_aload_n hC rfl 3 rfl (rfl : 1024 + 1 = 1025) (xdt tt_L_law8 39 rfl) ?_
  refine g_aload_n hC rfl 1 rfl (rfl : 1025 + 1 = 1026) (xdt tt_L_law8 40 rfl) ?_
  refine g_iload hC 5 rfl (rfl : 1026 + 2 = 1028) (xdt tt_L_law8 41 rfl) ?_
  refine g_iconst hC (rfl : 1028 + 1 = 1029) (xdt tt_L_law8 42 rfl) ?_
  refine g_iadd hC (rfl : 1029 + 1 = 1030) (xdt tt_L_law8 43 rfl) ?_
  obtain ⟨hi364, h⟩ := ckI_i h
  refine g_sld hC hs hi364 (rfl : 1030 + 1 = 1031) (xdt tt_L_law8 44 rfl) ?_
  obtain ⟨v367, S366, hc365, h⟩ := bd2_i h
  refine g_lcallVi hC (lw_z0 hL (show m + 1 ≤ 512 by omega)) hk2 kclX12 ly4_0 m_X12_bubbles q865 ⟨Nat.le_of_ble_eq_true rfl, Nat.le_of_ble_eq_true rfl⟩ [vi (sc (wr (x4 + 1)).toNat)] rfl (fun l => c_X12_bubbles_p4_0 l hk2 hc365) rfl (Nat.le_of_ble_eq_true rfl) (rfl : 1031 + 3 = 1034) (xdt tt_L_law8 45 rfl) ?_
  refine g_istore hC (by decide) (lv' := [(6, vi v367), (5, vi v362), (0, .ref b), (1, vr E r1 0), (2, vr E r2 0), (3, vr E r3 0), (4, vi x4)]) rfl (rfl : 1034 + 2 = 1036) (xdt tt_L_law8 46 rfl) ?_
  refine g_aload_n hC rfl 4 rfl (rfl : 1036 + 1 = 1037) (xdt tt_L_law8 47 rfl) ?_
  obtain ⟨v371, S370, hc369, h⟩ := bd2_i h
  refine g_lcallVi hC (lw_z0 hL (show m + 1 ≤ 512 by omega)) hk2 kclX12 ly4_0 m_X12_thrown q672 ⟨Nat.le_of_ble_eq_true rfl, Nat.le_of_ble_eq_true rfl⟩ [] rfl (fun l => c_X12_thrown_p4_0 l hk2 hc369) rfl (Nat.le_of_ble_eq_true rfl) (rfl : 1037 + 3 = 1040) (xdt tt_L_law8 48 rfl) ?_
  refine g_iload hC 1 rfl (rfl : 1040 + 2 = 1042) (xdt tt_L_law8 49 rfl) ?_
  refine g_icmp_eq hC (show ((1042 : Nat) : Int) + 5 = ((1047 : Nat) : Int) by decide) (rfl : 1042 + 3 = 1045) (xdt tt_L_law8 50 rfl) (fun hc375 => ?_) (fun hc375 => ?_)
  · replace h := (if_pos hc375).symm.trans h
    refine g_iload hC 1 rfl (rfl : 1047 + 2 = 1049) (xdt tt_L_law8 53 rfl) ?_
    refine g_if_ne hC (show ((1049 : Nat) : Int) + 15 = ((1064 : Nat) : Int) by decide) (rfl : 1049 + 3 = 1052) (xdt tt_L_law8 54 rfl) (fun hc374 => ?_) (fun hc374 => ?_)
    · replace h := (if_pos hc374).symm.trans h
      refine g_goto hC (show ((1064 : Nat) : Int) + 1475 = ((2539 : Nat) : Int) by decide) (xdt tt_L_law9 4 rfl) ?_
      refine g_iinc hC 6 rfl (by decide) (lv' := [(4, vi (x4 + 6)), (6, vi v367), (5, vi v362), (0, .ref b), (1, vr E r1 0), (2, vr E r2 0), (3, vr E r3 0)]) rfl (rfl : 2539 + 3 = 2542) (xdt tt_L_law24 22 rfl) ?_
      refine g_goto hC (show ((2542 : Nat) : Int) + (-2519) = ((23 : Nat) : Int) by decide) (xdt tt_L_law24 23 rfl) ?_
      refine g_sub [3, 4, 5, 6, 0] (lv' := [(0, .ref b), (1, vr E r1 0), (2, vr E r2 0), (3, vr E r3 0), (4, vi (x4 + 6))]) rfl ?_
      exact hrec _ _ _ (m + 1) h (by omega) (by omega)
    · replace h := (if_neg hc374).symm.trans h
      refine g_aload_n hC rfl 5 rfl (rfl : 1052 + 1 = 1053) (xdt tt_L_law8 55 rfl) ?_
      refine g_iconst hC (rfl : 1053 + 1 = 1054) (xdt tt_L_law8 56 rfl) ?_
      refine g_lald hC hk3 ly5_0 (by decide) (rfl : 1054 + 1 = 1055) (xdt tt_L_law8 57 rfl) (k0 := 0) (by decide) ?_
      refine g_iload hC 0 rfl (rfl : 1055 + 2 = 1057) (xdt tt_L_law8 58 rfl) ?_
      refine g_i2l hC (rfl : 1057 + 1 = 1058) (xdt tt_L_law8 59 rfl) ?_
      refine g_lcmp hC (rfl : 1058 + 1 = 1059) (xdt tt_L_law9 0 rfl) ?_
      refine g_if_eq hC (show ((1059 : Nat) : Int) + 5 = ((1064 : Nat) : Int) by decide) (rfl : 1059 + 3 = 1062) (xdt tt_L_law9 1 rfl) (fun hc373 => ?_) (fun hc373 => ?_)
      · replace h := (if_pos hc373).symm.trans h
        refine g_goto hC (show ((1064 : Nat) : Int) + 1475 = ((2539 : Nat) : Int) by decide) (xdt tt_L_law9 4 rfl) ?_
        refine g_iinc hC 6 rfl (by decide) (lv' := [(4, vi (x4 + 6)), (6, vi v367), (5, vi v362), (0, .ref b), (1, vr E r1 0), (2, vr E r2 0), (3, vr E r3 0)]) rfl (rfl : 2539 + 3 = 2542) (xdt tt_L_law24 22 rfl) ?_
        refine g_goto hC (show ((2542 : Nat) : Int) + (-2519) = ((23 : Nat) : Int) by decide) (xdt tt_L_law24 23 rfl) ?_
        refine g_sub [3, 4, 5, 6, 0] (lv' := [(0, .ref b), (1, vr E r1 0), (2, vr E r2 0), (3, vr E r3 0), (4, vi (x4 + 6))]) rfl ?_
        exact hrec _ _ _ (m + 1) h (by omega) (by omega)
      · replace h := (if_neg hc373).symm.trans h
        cases h
  · replace h := (if_neg hc375).symm.trans h
    cases h
set_option maxRecDepth 100000 in
set_option maxHeartbeats 4000000 in
theorem k_law_b1067 {K : xCtx} {E : xE} {b0 b1 b L : Nat} {sc : Nat → Int} {r1 r2 r3 : Nat} (hL : lwC K E b0 b1 b L sc) (hk1 : xkd E r1 = 3) (hA1 : xFam E r1) (hk2 : xkd E r2 = 4) (hk3 : xkd E r3 = 5) {c23 : xSt → Int → Option xSt} {x4 : Int} {m : Nat} (hm : x4 = 6 * (m : Int)) (hm2 : m < 512) {S S' : xSt} (hrec : ∀ (S S' : xSt) (z : Int) (k : Nat), c23 S z = some S' → z = 6 * (k : Int) → k ≤ 512 → WG (kc K b0 b1 k) E 23 [(0, .ref b), (1, vr E r1 0), (2, vr E r2 0), (3, vr E r3 0), (4, vi z)] [] S) (h : f_law_b1067 c23 r1 r2 r3 L sc S x4 = some S') : WG (kc K b0 b1 m) E 1067 [(0, .ref b), (1, vr E r1 0), (2, vr E r2 0), (3, vr E r3 0), (4, vi x4)] [] S := by
  unfold f_law_b1067 at h
  have hC := hL.1 m
  have hs := hL.2.1 m
  refine g_aload_n hC rfl 1 rfl (rfl : 1067 + 1 = 1068) (xdt tt_L_law9 5 rfl) ?_
  obtain ⟨v379, S378, hc377, h⟩ := bd2_i h
  refine g_lcallVi hC (lw_z0 hL (show m ≤ 512 by omega)) hk1 kclX11 ly3_0 m_X11_mainCause q873 ⟨Nat.le_of_ble_eq_true rfl, Nat.le_of_ble_eq_true rfl⟩ [] rfl (fun l => c_X11_mainCause_p3_0 l hk1 hA1 hc377) rfl (Nat.le_of_ble_eq_true rfl) (rfl : 1068 + 3 = 1071) (xdt tt_L_law9 6 rfl) ?_
  refine g_aload_n hC rfl 2 rfl (rfl : 1071 + 1 = 1072) (xdt tt_L_law9 7 rfl) ?_
  obtain ⟨v383, S382, hc381, h⟩ := bd2_i h
  refine g_lcallVi hC (lw_z0 hL (show m ≤ 512 by omega)) hk2 kclX12 ly4_0 m_X12_mainCause q882 ⟨Nat.le_of_ble_eq_true rfl, Nat.le_of_ble_eq_true rfl⟩ [] rfl (fun l => c_X12_mainCause_p4_0 l hk2 hc381) rfl (Nat.le_of_ble_eq_true rfl) (rfl : 1072 + 3 = 1075) (xdt tt_L_law9 8 rfl) ?_
  refine g_icmp_eq hC (show ((1075 : Nat) : Int) + 1464 = ((2539 : Nat) : Int) by decide) (rfl : 1075 + 3 = 1078) (xdt tt_L_law9 9 rfl) (fun hc385 => ?_) (fun hc385 => ?_)
  · replace h := (if_pos hc385).symm.trans h
    refine g_iinc hC 4 rfl (by decide) (lv' := [(4, vi (x4 + 6)), (0, .ref b), (1, vr E r1 0), (2, vr E r2 0), (3, vr E r3 0)]) rfl (rfl : 2539 + 3 = 2542) (xdt tt_L_law24 22 rfl) ?_
    refine g_goto hC (show ((2542 : Nat) : Int) + (-2519) = ((23 : Nat) : Int) by decide) (xdt tt_L_law24 23 rfl) ?_
    refine g_sub [1, 2, 3, 4, 0] (lv' := [(0, .ref b), (1, vr E r1 0), (2, vr E r2 0), (3, vr E r3 0), (4, vi (x4 + 6))]) rfl ?_
    refine l_wid ?_
    exact hrec _ _ _ (m + 1) h (by omega) (by omega)
  · replace h := (if_neg hc385).symm.trans h
    cases h
set_option maxRecDepth 100000 in
set_option maxHeartbeats 4000000 in
theorem k_law_b1080 {K : xCtx} {E : xE} {b0 b1 b L : Nat} {sc : Nat → Int} {r1 r2 r3 : Nat} (hL : lwC K E b0 b1 b L sc) (hk1 : xkd E r1 = 3) (hA1 : xFam E r1) (hk2 : xkd E r2 = 4) (hk3 : xkd E r3 = 5) {c23 : xSt → Int → Option xSt} {x4 : Int} {m : Nat} (hm : x4 = 6 * (m : Int)) (hm2 : m < 512) {S S' : xSt} (hrec : ∀ (S S' : xSt) (z : Int) (k : Nat), c23 S z = some S' → z = 6 * (k : Int) → k ≤ 512 → WG (kc K b0 b1 k) E 23 [(0, .ref b), (1, vr E r1 0), (2, vr E r2 0), (3, vr E r3 0), (4, vi z)] [] S) (h : f_law_b1080 c23 r1 r2 r3 L sc S x4 = some S') : WG (kc K b0 b1 m) E 1080 [(0, .ref b), (1, vr E r1 0), (2, vr E r2 0), (3, vr E r3 0), (4, vi x4)] [] S := by
  unfold f_law_b1080 at h
  have hC := hL.1 m
  have hs := hL.2.1 m
  refine g_aload_n hC rfl 1 rfl (rfl : 1080 + 1 = 1081) (xdt tt_L_law9 12 rfl) ?_
  refine g_aload_n hC rfl 0 rfl (rfl : 1081 + 1 = 1082) (xdt tt_L_law9 13 rfl) ?_
  refine g_iload hC 4 rfl (rfl : 1082 + 2 = 1084) (xdt tt_L_law9 14 rfl) ?_
  refine g_iconst hC (rfl : 1084 + 1 = 1085) (xdt tt_L_law9 15 rfl) ?_
  refine g_iadd hC (rfl : 1085 + 1 = 1086) (xdt tt_L_law9 16 rfl) ?_
  obtain ⟨hi387, h⟩ := ckI_i h
  refine g_sld hC hs hi387 (rfl : 1086 + 1 = 1087) (xdt tt_L_law9 17 rfl) ?_
  refine g_aload_n hC rfl 3 rfl (rfl : 1087 + 1 = 1088) (xdt tt_L_law9 18 rfl) ?_
  obtain ⟨v390, S389, hc388, h⟩ := bd2_i h
  refine g_lcallW hC (lw_z16 hL hm2) (lw_tr hL) mw_L_decoded q886 ⟨Nat.le_of_ble_eq_true rfl, Nat.le_of_ble_eq_true rfl⟩ [vr E r1 0, vi (sc (wr (x4 + 1)).toNat), vr E r3 0] rfl (fun l htr => c_L_decoded_p3_0_5_0 l htr hk1 hA1 hk3 hc388) rfl (Nat.le_of_ble_eq_true rfl) (xdt tt_L_law9 19 rfl) ?_
  rw [bump_kc]
  have hC := hL.1 (m + 1)
  have hs := hL.2.1 (m + 1)
  refine g_istore hC (by decide) (lv' := [(5, vi v390), (0, .ref b), (1, vr E r1 0), (2, vr E r2 0), (3, vr E r3 0), (4, vi x4)]) rfl (rfl : 1091 + 2 = 1093) (xdt tt_L_law9 20 rfl) ?_
  refine g_aload_n hC rfl 3 rfl (rfl : 1093 + 1 = 1094) (xdt tt_L_law9 21 rfl) ?_
  refine g_aload_n hC rfl 1 rfl (rfl : 1094 + 1 = 1095) (xdt tt_L_law9 22 rfl) ?_
  refine g_iload hC 5 rfl (rfl : 1095 + 2 = 1097) (xdt tt_L_law9 23 rfl) ?_
  refine g_iconst hC (rfl : 1097 + 1 = 1098) (xdt tt_L_law9 24 rfl) ?_
  refine g_iadd hC (rfl : 1098 + 1 = 1099) (xdt tt_L_law9 25 rfl) ?_
  obtain ⟨hi392, h⟩ := ckI_i h
  refine g_sld hC hs hi392 (rfl : 1099 + 1 = 1100) (xdt tt_L_law9 26 rfl) ?_
  obtain ⟨v395, S394, hc393, h⟩ := bd2_i h
  refine g_lcallVi hC (lw_z0 hL (show m + 1 ≤ 512 by omega)) hk2 kclX12 ly4_0 m_X12_decoded q894 ⟨Nat.le_of_ble_eq_true rfl, Nat.le_of_ble_eq_true rfl⟩ [vi (sc (wr (x4 + 1)).toNat)] rfl (fun l => c_X12_decoded_p4_0 l hk2 hc393) rfl (Nat.le_of_ble_eq_true rfl) (rfl : 1100 + 3 = 1103) (xdt tt_L_law9 27 rfl) ?_
  refine g_istore hC (by decide) (lv' := [(6, vi v395), (5, vi v390), (0, .ref b), (1, vr E r1 0), (2, vr E r2 0), (3, vr E r3 0), (4, vi x4)]) rfl (rfl : 1103 + 2 = 1105) (xdt tt_L_law9 28 rfl) ?_
  refine g_aload_n hC rfl 4 rfl (rfl : 1105 + 1 = 1106) (xdt tt_L_law9 29 rfl) ?_
  obtain ⟨v399, S398, hc397, h⟩ := bd2_i h
  refine g_lcallVi hC (lw_z0 hL (show m + 1 ≤ 512 by omega)) hk2 kclX12 ly4_0 m_X12_thrown q672 ⟨Nat.le_of_ble_eq_true rfl, Nat.le_of_ble_eq_true rfl⟩ [] rfl (fun l => c_X12_thrown_p4_0 l hk2 hc397) rfl (Nat.le_of_ble_eq_true rfl) (rfl : 1106 + 3 = 1109) (xdt tt_L_law9 30 rfl) ?_
  refine g_iload hC 1 rfl (rfl : 1109 + 2 = 1111) (xdt tt_L_law9 31 rfl) ?_
  refine g_icmp_eq hC (show ((1111 : Nat) : Int) + 5 = ((1116 : Nat) : Int) by decide) (rfl : 1111 + 3 = 1114) (xdt tt_L_law9 32 rfl) (fun hc403 => ?_) (fun hc403 => ?_)
  · replace h := (if_pos hc403).symm.trans h
    refine g_iload hC 1 rfl (rfl : 1116 + 2 = 1118) (xdt tt_L_law9 35 rfl) ?_
    refine g_if_ne hC (show ((1118 : Nat) : Int) + 15 = ((1133 : Nat) : Int) by decide) (rfl : 1118 + 3 = 1121) (xdt tt_L_law9 36 rfl) (fun hc402 => ?_) (fun hc402 => ?_)
    · replace h := (if_pos hc402).symm.trans h
      refine g_goto hC (show ((1133 : Nat) : Int) + 1406 = ((2539 : Nat) : Int) by decide) (xdt tt_L_law9 46 rfl) ?_
      refine g_iinc hC 6 rfl (by decide) (lv' := [(4, vi (x4 + 6)), (6, vi v395), (5, vi v390), (0, .ref b), (1, vr E r1 0), (2, vr E r2 0), (3, vr E r3 0)]) rfl (rfl : 2539 + 3 = 2542) (xdt tt_L_law24 22 rfl) ?_
      refine g_goto hC (show ((2542 : Nat) : Int) + (-2519) = ((23 : Nat) : Int) by decide) (xdt tt_L_law24 23 rfl) ?_
      refine g_sub [3, 4, 5, 6, 0] (lv' := [(0, .ref b), (1, vr E r1 0), (2, vr E r2 0), (3, vr E r3 0), (4, vi (x4 + 6))]) rfl ?_
      exact hrec _ _ _ (m + 1) h (by omega) (by omega)
    · replace h := (if_neg hc402).symm.trans h
      refine g_aload_n hC rfl 5 rfl (rfl : 1121 + 1 = 1122) (xdt tt_L_law9 37 rfl) ?_
      refine g_iconst hC (rfl : 1122 + 1 = 1123) (xdt tt_L_law9 38 rfl) ?_
      refine g_lald hC hk3 ly5_0 (by decide) (rfl : 1123 + 1 = 1124) (xdt tt_L_law9 39 rfl) (k0 := 0) (by decide) ?_
      refine g_iload hC 0 rfl (rfl : 1124 + 2 = 1126) (xdt tt_L_law9 40 rfl) ?_
      refine g_i2l hC (rfl : 1126 + 1 = 1127) (xdt tt_L_law9 41 rfl) ?_
      refine g_lcmp hC (rfl : 1127 + 1 = 1128) (xdt tt_L_law9 42 rfl) ?_
      refine g_if_eq hC (show ((1128 : Nat) : Int) + 5 = ((1133 : Nat) : Int) by decide) (rfl : 1128 + 3 = 1131) (xdt tt_L_law9 43 rfl) (fun hc401 => ?_) (fun hc401 => ?_)
      · replace h := (if_pos hc401).symm.trans h
        refine g_goto hC (show ((1133 : Nat) : Int) + 1406 = ((2539 : Nat) : Int) by decide) (xdt tt_L_law9 46 rfl) ?_
        refine g_iinc hC 6 rfl (by decide) (lv' := [(4, vi (x4 + 6)), (6, vi v395), (5, vi v390), (0, .ref b), (1, vr E r1 0), (2, vr E r2 0), (3, vr E r3 0)]) rfl (rfl : 2539 + 3 = 2542) (xdt tt_L_law24 22 rfl) ?_
        refine g_goto hC (show ((2542 : Nat) : Int) + (-2519) = ((23 : Nat) : Int) by decide) (xdt tt_L_law24 23 rfl) ?_
        refine g_sub [3, 4, 5, 6, 0] (lv' := [(0, .ref b), (1, vr E r1 0), (2, vr E r2 0), (3, vr E r3 0), (4, vi (x4 + 6))]) rfl ?_
        exact hrec _ _ _ (m + 1) h (by omega) (by omega)
      · replace h := (if_neg hc401).symm.trans h
        cases h
  · replace h := (if_neg hc403).symm.trans h
    cases h
set_option maxRecDepth 100000 in
set_option maxHeartbeats 4000000 in
theorem k_law_b1136 {K : xCtx} {E : xE} {b0 b1 b L : Nat} {sc : Nat → Int} {r1 r2 r3 : Nat} (hL : lwC K E b0 b1 b L sc) (hk1 : xkd E r1 = 3) (hA1 : xFam E r1) (hk2 : xkd E r2 = 4) (hk3 : xkd E r3 = 5) {c23 : xSt → Int → Option xSt} {x4 : Int} {m : Nat} (hm : x4 = 6 * (m : Int)) (hm2 : m < 512) {S S' : xSt} (hrec : ∀ (S S' : xSt) (z : Int) (k : Nat), c23 S z = some S' → z = 6 * (k : Int) → k ≤ 512 → WG (kc K b0 b1 k) E 23 [(0, .ref b), (1, vr E r1 0), (2, vr E r2 0), (3, vr E r3 0), (4, vi z)] [] S) (h : f_law_b1136 c23 r1 r2 r3 L sc S x4 = some S') : WG (kc K b0 b1 m) E 1136 [(0, .ref b), (1, vr E r1 0), (2, vr E r2 0), (3, vr E r3 0), (4, vi x4)] [] S := by
  unfold f_law_b1136 at h
  have hC := hL.1 m
  have hs := hL.2.1 m
  refine g_aload_n hC rfl 1 rfl (rfl : 1136 + 1 = 1137) (xdt tt_L_law9 47 rfl) ?_
  refine g_aload_n hC rfl 0 rfl (rfl : 1137 + 1 = 1138) (xdt tt_L_law9 48 rfl) ?_
  refine g_iload hC 4 rfl (rfl : 1138 + 2 = 1140) (xdt tt_L_law9 49 rfl) ?_
  refine g_iconst hC (rfl : 1140 + 1 = 1141) (xdt tt_L_law9 50 rfl) ?_
  refine g_iadd hC (rfl : 1141 + 1 = 1142) (xdt tt_L_law9 51 rfl) ?_
  obtain ⟨hi405, h⟩ := ckI_i h
  refine g_sld hC hs hi405 (rfl : 1142 + 1 = 1143) (xdt tt_L_law9 52 rfl) ?_
  refine g_aload_n hC rfl 3 rfl (rfl : 1143 + 1 = 1144) (xdt tt_L_law9 53 rfl) ?_
  obtain ⟨v408, S407, hc406, h⟩ := bd2_i h
  refine g_lcallW hC (lw_z16 hL hm2) (lw_tr hL) mw_L_plain q907 ⟨Nat.le_of_ble_eq_true rfl, Nat.le_of_ble_eq_true rfl⟩ [vr E r1 0, vi (sc (wr (x4 + 1)).toNat), vr E r3 0] rfl (fun l htr => c_L_plain_p3_0_5_0 l htr hk1 hA1 hk3 hc406) rfl (Nat.le_of_ble_eq_true rfl) (xdt tt_L_law9 54 rfl) ?_
  rw [bump_kc]
  have hC := hL.1 (m + 1)
  have hs := hL.2.1 (m + 1)
  refine g_istore hC (by decide) (lv' := [(5, vi v408), (0, .ref b), (1, vr E r1 0), (2, vr E r2 0), (3, vr E r3 0), (4, vi x4)]) rfl (rfl : 1147 + 2 = 1149) (xdt tt_L_law9 55 rfl) ?_
  refine g_aload_n hC rfl 3 rfl (rfl : 1149 + 1 = 1150) (xdt tt_L_law9 56 rfl) ?_
  refine g_aload_n hC rfl 1 rfl (rfl : 1150 + 1 = 1151) (xdt tt_L_law9 57 rfl) ?_
  refine g_iload hC 5 rfl (rfl : 1151 + 2 = 1153) (xdt tt_L_law9 58 rfl) ?_
  refine g_iconst hC (rfl : 1153 + 1 = 1154) (xdt tt_L_law9 59 rfl) ?_
  refine g_iadd hC (rfl : 1154 + 1 = 1155) (xdt tt_L_law10 0 rfl) ?_
  obtain ⟨hi410, h⟩ := ckI_i h
  refine g_sld hC hs hi410 (rfl : 1155 + 1 = 1156) (xdt tt_L_law10 1 rfl) ?_
  obtain ⟨v413, S412, hc411, h⟩ := bd2_i h
  refine g_lcallVi hC (lw_z0 hL (show m + 1 ≤ 512 by omega)) hk2 kclX12 ly4_0 m_X12_plain q928 ⟨Nat.le_of_ble_eq_true rfl, Nat.le_of_ble_eq_true rfl⟩ [vi (sc (wr (x4 + 1)).toNat)] rfl (fun l => c_X12_plain_p4_0 l hk2 hc411) rfl (Nat.le_of_ble_eq_true rfl) (rfl : 1156 + 3 = 1159) (xdt tt_L_law10 2 rfl) ?_
  refine g_istore hC (by decide) (lv' := [(6, vi v413), (5, vi v408), (0, .ref b), (1, vr E r1 0), (2, vr E r2 0), (3, vr E r3 0), (4, vi x4)]) rfl (rfl : 1159 + 2 = 1161) (xdt tt_L_law10 3 rfl) ?_
  refine g_aload_n hC rfl 4 rfl (rfl : 1161 + 1 = 1162) (xdt tt_L_law10 4 rfl) ?_
  obtain ⟨v417, S416, hc415, h⟩ := bd2_i h
  refine g_lcallVi hC (lw_z0 hL (show m + 1 ≤ 512 by omega)) hk2 kclX12 ly4_0 m_X12_thrown q672 ⟨Nat.le_of_ble_eq_true rfl, Nat.le_of_ble_eq_true rfl⟩ [] rfl (fun l => c_X12_thrown_p4_0 l hk2 hc415) rfl (Nat.le_of_ble_eq_true rfl) (rfl : 1162 + 3 = 1165) (xdt tt_L_law10 5 rfl) ?_
  refine g_iload hC 1 rfl (rfl : 1165 + 2 = 1167) (xdt tt_L_law10 6 rfl) ?_
  refine g_icmp_eq hC (show ((1167 : Nat) : Int) + 5 = ((1172 : Nat) : Int) by decide) (rfl : 1167 + 3 = 1170) (xdt tt_L_law10 7 rfl) (fun hc421 => ?_) (fun hc421 => ?_)
  · replace h := (if_pos hc421).symm.trans h
    refine g_iload hC 1 rfl (rfl : 1172 + 2 = 1174) (xdt tt_L_law10 10 rfl) ?_
    refine g_if_ne hC (show ((1174 : Nat) : Int) + 15 = ((1189 : Nat) : Int) by decide) (rfl : 1174 + 3 = 1177) (xdt tt_L_law10 11 rfl) (fun hc420 => ?_) (fun hc420 => ?_)
    · replace h := (if_pos hc420).symm.trans h
      refine g_goto hC (show ((1189 : Nat) : Int) + 1350 = ((2539 : Nat) : Int) by decide) (xdt tt_L_law10 21 rfl) ?_
      refine g_iinc hC 6 rfl (by decide) (lv' := [(4, vi (x4 + 6)), (6, vi v413), (5, vi v408), (0, .ref b), (1, vr E r1 0), (2, vr E r2 0), (3, vr E r3 0)]) rfl (rfl : 2539 + 3 = 2542) (xdt tt_L_law24 22 rfl) ?_
      refine g_goto hC (show ((2542 : Nat) : Int) + (-2519) = ((23 : Nat) : Int) by decide) (xdt tt_L_law24 23 rfl) ?_
      refine g_sub [3, 4, 5, 6, 0] (lv' := [(0, .ref b), (1, vr E r1 0), (2, vr E r2 0), (3, vr E r3 0), (4, vi (x4 + 6))]) rfl ?_
      exact hrec _ _ _ (m + 1) h (by omega) (by omega)
    · replace h := (if_neg hc420).symm.trans h
      refine g_aload_n hC rfl 5 rfl (rfl : 1177 + 1 = 1178) (xdt tt_L_law10 12 rfl) ?_
      refine g_iconst hC (rfl : 1178 + 1 = 1179) (xdt tt_L_law10 13 rfl) ?_
      refine g_lald hC hk3 ly5_0 (by decide) (rfl : 1179 + 1 = 1180) (xdt tt_L_law10 14 rfl) (k0 := 0) (by decide) ?_
      refine g_iload hC 0 rfl (rfl : 1180 + 2 = 1182) (xdt tt_L_law10 15 rfl) ?_
      refine g_i2l hC (rfl : 1182 + 1 = 1183) (xdt tt_L_law10 16 rfl) ?_
      refine g_lcmp hC (rfl : 1183 + 1 = 1184) (xdt tt_L_law10 17 rfl) ?_
      refine g_if_eq hC (show ((1184 : Nat) : Int) + 5 = ((1189 : Nat) : Int) by decide) (rfl : 1184 + 3 = 1187) (xdt tt_L_law10 18 rfl) (fun hc419 => ?_) (fun hc419 => ?_)
      · replace h := (if_pos hc419).symm.trans h
        refine g_goto hC (show ((1189 : Nat) : Int) + 1350 = ((2539 : Nat) : Int) by decide) (xdt tt_L_law10 21 rfl) ?_
        refine g_iinc hC 6 rfl (by decide) (lv' := [(4, vi (x4 + 6)), (6, vi v413), (5, vi v408), (0, .ref b), (1, vr E r1 0), (2, vr E r2 0), (3, vr E r3 0)]) rfl (rfl : 2539 + 3 = 2542) (xdt tt_L_law24 22 rfl) ?_
        refine g_goto hC (show ((2542 : Nat) : Int) + (-2519) = ((23 : Nat) : Int) by decide) (xdt tt_L_law24 23 rfl) ?_
        refine g_sub [3, 4, 5, 6, 0] (lv' := [(0, .ref b), (1, vr E r1 0), (2, vr E r2 0), (3, vr E r3 0), (4, vi (x4 + 6))]) rfl ?_
        exact hrec _ _ _ (m + 1) h (by omega) (by omega)
      · replace h := (if_neg hc419).symm.trans h
        cases h
  · replace h := (if_neg hc421).symm.trans h
    cases h
set_option maxRecDepth 100000 in
set_option maxHeartbeats 4000000 in
theorem k_law_b1192 {K : xCtx} {E : xE} {b0 b1 b L : Nat} {sc : Nat → Int} {r1 r2 r3 : Nat} (hL : lwC K E b0 b1 b L sc) (hk1 : xkd E r1 = 3) (hA1 : xFam E r1) (hk2 : xkd E r2 = 4) (hk3 : xkd E r3 = 5) {c23 : xSt → Int → Option xSt} {x4 : Int} {m : Nat} (hm : x4 = 6 * (m : Int)) (hm2 : m < 512) {S S' : xSt} (hrec : ∀ (S S' : xSt) (z : Int) (k : Nat), c23 S z = some S' → z = 6 * (k : Int) → k ≤ 512 → WG (kc K b0 b1 k) E 23 [(0, .ref b), (1, vr E r1 0), (2, vr E r2 0), (3, vr E r3 0), (4, vi z)] [] S) (h : f_law_b1192 c23 r1 r2 r3 L sc S x4 = some S') : WG (kc K b0 b1 m) E 1192 [(0, .ref b), (1, vr E r1 0), (2, vr E r2 0), (3, vr E r3 0), (4, vi x4)] [] S := by
  unfold f_law_b1192 at h
  have hC := hL.1 m
  have hs := hL.2.1 m
  refine g_aload_n hC rfl 1 rfl (rfl : 1192 + 1 = 1193) (xdt tt_L_law10 22 rfl) ?_
  obtain ⟨v425, S424, hc423, h⟩ := bd2_i h
  refine g_lcallVz hC (lw_z0 hL (show m ≤ 512 by omega)) hk1 kclX11 ly3_0 m_X11_agrees q942 ⟨Nat.le_of_ble_eq_true rfl, Nat.le_of_ble_eq_true rfl⟩ [] rfl (fun l => c_X11_agrees_p3_0 l hk1 hA1 hc423) rfl (Nat.le_of_ble_eq_true rfl) (rfl : 1193 + 3 = 1196) (xdt tt_L_law10 23 rfl) (fun hb426 => ?_)
  refine g_aload_n hC rfl 2 rfl (rfl : 1196 + 1 = 1197) (xdt tt_L_law10 24 rfl) ?_
  obtain ⟨v429, S428, hc427, h⟩ := bd2_i h
  refine g_lcallVz hC (lw_z0 hL (show m ≤ 512 by omega)) hk2 kclX12 ly4_0 m_X12_agrees q948 ⟨Nat.le_of_ble_eq_true rfl, Nat.le_of_ble_eq_true rfl⟩ [] rfl (fun l => c_X12_agrees_p4_0 l hk2 hc427) rfl (Nat.le_of_ble_eq_true rfl) (rfl : 1197 + 3 = 1200) (xdt tt_L_law10 25 rfl) (fun hb430 => ?_)
  refine g_icmp_eq hC (show ((1200 : Nat) : Int) + 1339 = ((2539 : Nat) : Int) by decide) (rfl : 1200 + 3 = 1203) (xdt tt_L_law10 26 rfl) (fun hc431 => ?_) (fun hc431 => ?_)
  · replace h := (if_pos hc431).symm.trans h
    refine g_iinc hC 4 rfl (by decide) (lv' := [(4, vi (x4 + 6)), (0, .ref b), (1, vr E r1 0), (2, vr E r2 0), (3, vr E r3 0)]) rfl (rfl : 2539 + 3 = 2542) (xdt tt_L_law24 22 rfl) ?_
    refine g_goto hC (show ((2542 : Nat) : Int) + (-2519) = ((23 : Nat) : Int) by decide) (xdt tt_L_law24 23 rfl) ?_
    refine g_sub [1, 2, 3, 4, 0] (lv' := [(0, .ref b), (1, vr E r1 0), (2, vr E r2 0), (3, vr E r3 0), (4, vi (x4 + 6))]) rfl ?_
    refine l_wid ?_
    exact hrec _ _ _ (m + 1) h (by omega) (by omega)
  · replace h := (if_neg hc431).symm.trans h
    cases h
set_option maxRecDepth 100000 in
set_option maxHeartbeats 4000000 in
theorem k_law_b1205 {K : xCtx} {E : xE} {b0 b1 b L : Nat} {sc : Nat → Int} {r1 r2 r3 : Nat} (hL : lwC K E b0 b1 b L sc) (hk1 : xkd E r1 = 3) (hA1 : xFam E r1) (hk2 : xkd E r2 = 4) (hk3 : xkd E r3 = 5) {c23 : xSt → Int → Option xSt} {x4 : Int} {m : Nat} (hm : x4 = 6 * (m : Int)) (hm2 : m < 512) {S S' : xSt} (hrec : ∀ (S S' : xSt) (z : Int) (k : Nat), c23 S z = some S' → z = 6 * (k : Int) → k ≤ 512 → WG (kc K b0 b1 k) E 23 [(0, .ref b), (1, vr E r1 0), (2, vr E r2 0), (3, vr E r3 0), (4, vi z)] [] S) (h : f_law_b1205 c23 r1 r2 r3 L sc S x4 = some S') : WG (kc K b0 b1 m) E 1205 [(0, .ref b), (1, vr E r1 0), (2, vr E r2 0), (3, vr E r3 0), (4, vi x4)] [] S := by
  unfold f_law_b1205 at h
  have hC := hL.1 m
  have hs := hL.2.1 m
  refine g_aload_n hC rfl 1 rfl (rfl : 1205 + 1 = 1206) (xdt tt_L_law10 29 rfl) ?_
  refine g_aload_n hC rfl 0 rfl (rfl : 1206 + 1 = 1207) (xdt tt_L_law10 30 rfl) ?_
  refine g_iload hC 4 rfl (rfl : 1207 + 2 = 1209) (xdt tt_L_law10 31 rfl) ?_
  refine g_iconst hC (rfl : 1209 + 1 = 1210) (xdt tt_L_law10 32 rfl) ?_
  refine g_iadd hC (rfl : 1210 + 1 = 1211) (xdt tt_L_law10 33 rfl) ?_
  obtain ⟨hi433, h⟩ := ckI_i h
  refine g_sld hC hs hi433 (rfl : 1211 + 1 = 1212) (xdt tt_L_law10 34 rfl) ?_
  refine g_aload_n hC rfl 3 rfl (rfl : 1212 + 1 = 1213) (xdt tt_L_law10 35 rfl) ?_
  obtain ⟨v436, S435, hc434, h⟩ := bd2_i h
  refine g_lcallW hC (lw_z16 hL hm2) (lw_tr hL) mw_L_times q952 ⟨Nat.le_of_ble_eq_true rfl, Nat.le_of_ble_eq_true rfl⟩ [vr E r1 0, vi (sc (wr (x4 + 1)).toNat), vr E r3 0] rfl (fun l htr => c_L_times_p3_0_5_0 l htr hk1 hA1 hk3 hc434) rfl (Nat.le_of_ble_eq_true rfl) (xdt tt_L_law10 36 rfl) ?_
  rw [bump_kc]
  have hC := hL.1 (m + 1)
  have hs := hL.2.1 (m + 1)
  refine g_istore hC (by decide) (lv' := [(5, vi v436), (0, .ref b), (1, vr E r1 0), (2, vr E r2 0), (3, vr E r3 0), (4, vi x4)]) rfl (rfl : 1216 + 2 = 1218) (xdt tt_L_law10 37 rfl) ?_
  refine g_aload_n hC rfl 3 rfl (rfl : 1218 + 1 = 1219) (xdt tt_L_law10 38 rfl) ?_
  refine g_aload_n hC rfl 1 rfl (rfl : 1219 + 1 = 1220) (xdt tt_L_law10 39 rfl) ?_
  refine g_iload hC 5 rfl (rfl : 1220 + 2 = 1222) (xdt tt_L_law10 40 rfl) ?_
  refine g_iconst hC (rfl : 1222 + 1 = 1223) (xdt tt_L_law10 41 rfl) ?_
  refine g_iadd hC (rfl : 1223 + 1 = 1224) (xdt tt_L_law10 42 rfl) ?_
  obtain ⟨hi438, h⟩ := ckI_i h
  refine g_sld hC hs hi438 (rfl : 1224 + 1 = 1225) (xdt tt_L_law10 43 rfl) ?_
  obtain ⟨v441, S440, hc439, h⟩ := bd2_i h
  refine g_lcallVi hC (lw_z0 hL (show m + 1 ≤ 512 by omega)) hk2 kclX12 ly4_0 m_X12_times q959 ⟨Nat.le_of_ble_eq_true rfl, Nat.le_of_ble_eq_true rfl⟩ [vi (sc (wr (x4 + 1)).toNat)] rfl (fun l => c_X12_times_p4_0 l hk2 hc439) rfl (Nat.le_of_ble_eq_true rfl) (rfl : 1225 + 3 = 1228) (xdt tt_L_law10 44 rfl) ?_
  refine g_istore hC (by decide) (lv' := [(6, vi v441), (5, vi v436), (0, .ref b), (1, vr E r1 0), (2, vr E r2 0), (3, vr E r3 0), (4, vi x4)]) rfl (rfl : 1228 + 2 = 1230) (xdt tt_L_law10 45 rfl) ?_
  refine g_aload_n hC rfl 4 rfl (rfl : 1230 + 1 = 1231) (xdt tt_L_law10 46 rfl) ?_
  obtain ⟨v445, S444, hc443, h⟩ := bd2_i h
  refine g_lcallVi hC (lw_z0 hL (show m + 1 ≤ 512 by omega)) hk2 kclX12 ly4_0 m_X12_thrown q672 ⟨Nat.le_of_ble_eq_true rfl, Nat.le_of_ble_eq_true rfl⟩ [] rfl (fun l => c_X12_thrown_p4_0 l hk2 hc443) rfl (Nat.le_of_ble_eq_true rfl) (rfl : 1231 + 3 = 1234) (xdt tt_L_law10 47 rfl) ?_
  refine g_iload hC 1 rfl (rfl : 1234 + 2 = 1236) (xdt tt_L_law10 48 rfl) ?_
  refine g_icmp_eq hC (show ((1236 : Nat) : Int) + 5 = ((1241 : Nat) : Int) by decide) (rfl : 1236 + 3 = 1239) (xdt tt_L_law10 49 rfl) (fun hc449 => ?_) (fun hc449 => ?_)
  · replace h := (if_pos hc449).symm.trans h
    refine g_iload hC 1 rfl (rfl : 1241 + 2 = 1243) (xdt tt_L_law10 52 rfl) ?_
    refine g_if_ne hC (show ((1243 : Nat) : Int) + 15 = ((1258 : Nat) : Int) by decide) (rfl : 1243 + 3 = 1246) (xdt tt_L_law10 53 rfl) (fun hc448 => ?_) (fun hc448 => ?_)
    · replace h := (if_pos hc448).symm.trans h
      refine g_goto hC (show ((1258 : Nat) : Int) + 1281 = ((2539 : Nat) : Int) by decide) (xdt tt_L_law11 3 rfl) ?_
      refine g_iinc hC 6 rfl (by decide) (lv' := [(4, vi (x4 + 6)), (6, vi v441), (5, vi v436), (0, .ref b), (1, vr E r1 0), (2, vr E r2 0), (3, vr E r3 0)]) rfl (rfl : 2539 + 3 = 2542) (xdt tt_L_law24 22 rfl) ?_
      refine g_goto hC (show ((2542 : Nat) : Int) + (-2519) = ((23 : Nat) : Int) by decide) (xdt tt_L_law24 23 rfl) ?_
      refine g_sub [3, 4, 5, 6, 0] (lv' := [(0, .ref b), (1, vr E r1 0), (2, vr E r2 0), (3, vr E r3 0), (4, vi (x4 + 6))]) rfl ?_
      exact hrec _ _ _ (m + 1) h (by omega) (by omega)
    · replace h := (if_neg hc448).symm.trans h
      refine g_aload_n hC rfl 5 rfl (rfl : 1246 + 1 = 1247) (xdt tt_L_law10 54 rfl) ?_
      refine g_iconst hC (rfl : 1247 + 1 = 1248) (xdt tt_L_law10 55 rfl) ?_
      refine g_lald hC hk3 ly5_0 (by decide) (rfl : 1248 + 1 = 1249) (xdt tt_L_law10 56 rfl) (k0 := 0) (by decide) ?_
      refine g_iload hC 0 rfl (rfl : 1249 + 2 = 1251) (xdt tt_L_law10 57 rfl) ?_
      refine g_i2l hC (rfl : 1251 + 1 = 1252) (xdt tt_L_law10 58 rfl) ?_
      refine g_lcmp hC (rfl : 1252 + 1 = 1253) (xdt tt_L_law10 59 rfl) ?_
      refine g_if_eq hC (show ((1253 : Nat) : Int) + 5 = ((1258 : Nat) : Int) by decide) (rfl : 1253 + 3 = 1256) (xdt tt_L_law11 0 rfl) (fun hc447 => ?_) (fun hc447 => ?_)
      · replace h := (if_pos hc447).symm.trans h
        refine g_goto hC (show ((1258 : Nat) : Int) + 1281 = ((2539 : Nat) : Int) by decide) (xdt tt_L_law11 3 rfl) ?_
        refine g_iinc hC 6 rfl (by decide) (lv' := [(4, vi (x4 + 6)), (6, vi v441), (5, vi v436), (0, .ref b), (1, vr E r1 0), (2, vr E r2 0), (3, vr E r3 0)]) rfl (rfl : 2539 + 3 = 2542) (xdt tt_L_law24 22 rfl) ?_
        refine g_goto hC (show ((2542 : Nat) : Int) + (-2519) = ((23 : Nat) : Int) by decide) (xdt tt_L_law24 23 rfl) ?_
        refine g_sub [3, 4, 5, 6, 0] (lv' := [(0, .ref b), (1, vr E r1 0), (2, vr E r2 0), (3, vr E r3 0), (4, vi (x4 + 6))]) rfl ?_
        exact hrec _ _ _ (m + 1) h (by omega) (by omega)
      · replace h := (if_neg hc447).symm.trans h
        cases h
  · replace h := (if_neg hc449).symm.trans h
    cases h
set_option maxRecDepth 100000 in
set_option maxHeartbeats 4000000 in
theorem k_law_b1261 {K : xCtx} {E : xE} {b0 b1 b L : Nat} {sc : Nat → Int} {r1 r2 r3 : Nat} (hL : lwC K E b0 b1 b L sc) (hk1 : xkd E r1 = 3) (hA1 : xFam E r1) (hk2 : xkd E r2 = 4) (hk3 : xkd E r3 = 5) {c23 : xSt → Int → Option xSt} {x4 : Int} {m : Nat} (hm : x4 = 6 * (m : Int)) (hm2 : m < 512) {S S' : xSt} (hrec : ∀ (S S' : xSt) (z : Int) (k : Nat), c23 S z = some S' → z = 6 * (k : Int) → k ≤ 512 → WG (kc K b0 b1 k) E 23 [(0, .ref b), (1, vr E r1 0), (2, vr E r2 0), (3, vr E r3 0), (4, vi z)] [] S) (h : f_law_b1261 c23 r1 r2 r3 L sc S x4 = some S') : WG (kc K b0 b1 m) E 1261 [(0, .ref b), (1, vr E r1 0), (2, vr E r2 0), (3, vr E r3 0), (4, vi x4)] [] S := by
  unfold f_law_b1261 at h
  have hC := hL.1 m
  have hs := hL.2.1 m
  refine g_aload_n hC rfl 1 rfl (rfl : 1261 + 1 = 1262) (xdt tt_L_law11 4 rfl) ?_
  obtain ⟨v453, S452, hc451, h⟩ := bd2_i h
  refine g_lcallVd hC (lw_z0 hL (show m ≤ 512 by omega)) hk1 kclX11 ly3_0 m_X11_perCycle q963 ⟨Nat.le_of_ble_eq_true rfl, Nat.le_of_ble_eq_true rfl⟩ [] rfl (fun l => c_X11_perCycle_p3_0 l hk1 hA1 hc451) rfl (Nat.le_of_ble_eq_true rfl) (rfl : 1262 + 3 = 1265) (xdt tt_L_law11 5 rfl) ?_
  refine g_dstore hC (by decide) (lv' := [(5, vd v453), (0, .ref b), (1, vr E r1 0), (2, vr E r2 0), (3, vr E r3 0), (4, vi x4)]) rfl (rfl : 1265 + 2 = 1267) (xdt tt_L_law11 6 rfl) ?_
  refine g_aload_n hC rfl 3 rfl (rfl : 1267 + 1 = 1268) (xdt tt_L_law11 7 rfl) ?_
  obtain ⟨v457, S456, hc455, h⟩ := bd2_i h
  refine g_lcallVd hC (lw_z0 hL (show m ≤ 512 by omega)) hk2 kclX12 ly4_0 m_X12_perCycle q967 ⟨Nat.le_of_ble_eq_true rfl, Nat.le_of_ble_eq_true rfl⟩ [] rfl (fun l => c_X12_perCycle_p4_0 l hk2 hc455) rfl (Nat.le_of_ble_eq_true rfl) (rfl : 1268 + 3 = 1271) (xdt tt_L_law11 8 rfl) ?_
  refine g_dstore hC (by decide) (lv' := [(7, vd v457), (5, vd v453), (0, .ref b), (1, vr E r1 0), (2, vr E r2 0), (3, vr E r3 0), (4, vi x4)]) rfl (rfl : 1271 + 2 = 1273) (xdt tt_L_law11 9 rfl) ?_
  refine g_dload hC 1 rfl (rfl : 1273 + 2 = 1275) (xdt tt_L_law11 10 rfl) ?_
  refine g_dload hC 0 rfl (rfl : 1275 + 2 = 1277) (xdt tt_L_law11 11 rfl) ?_
  refine g_dcmp hC (rfl : 1277 + 1 = 1278) (xdt tt_L_law11 12 rfl) ?_
  refine g_if_eq hC (show ((1278 : Nat) : Int) + 21 = ((1299 : Nat) : Int) by decide) (rfl : 1278 + 3 = 1281) (xdt tt_L_law11 13 rfl) (fun hc461 => ?_) (fun hc461 => ?_)
  · replace h := (if_pos hc461).symm.trans h
    refine g_goto hC (show ((1299 : Nat) : Int) + 1240 = ((2539 : Nat) : Int) by decide) (xdt tt_L_law11 24 rfl) ?_
    refine g_iinc hC 6 rfl (by decide) (lv' := [(4, vi (x4 + 6)), (7, vd v457), (5, vd v453), (0, .ref b), (1, vr E r1 0), (2, vr E r2 0), (3, vr E r3 0)]) rfl (rfl : 2539 + 3 = 2542) (xdt tt_L_law24 22 rfl) ?_
    refine g_goto hC (show ((2542 : Nat) : Int) + (-2519) = ((23 : Nat) : Int) by decide) (xdt tt_L_law24 23 rfl) ?_
    refine g_sub [3, 4, 5, 6, 0] (lv' := [(0, .ref b), (1, vr E r1 0), (2, vr E r2 0), (3, vr E r3 0), (4, vi (x4 + 6))]) rfl ?_
    refine l_wid ?_
    exact hrec _ _ _ (m + 1) h (by omega) (by omega)
  · replace h := (if_neg hc461).symm.trans h
    refine g_dload hC 1 rfl (rfl : 1281 + 2 = 1283) (xdt tt_L_law11 14 rfl) ?_
    refine g_dload hC 1 rfl (rfl : 1283 + 2 = 1285) (xdt tt_L_law11 15 rfl) ?_
    refine g_dcmp hC (rfl : 1285 + 1 = 1286) (xdt tt_L_law11 16 rfl) ?_
    refine g_if_eq hC (show ((1286 : Nat) : Int) + 11 = ((1297 : Nat) : Int) by decide) (rfl : 1286 + 3 = 1289) (xdt tt_L_law11 17 rfl) (fun hc460 => ?_) (fun hc460 => ?_)
    · replace h := (if_pos hc460).symm.trans h
      cases h
    · replace h := (if_neg hc460).symm.trans h
      refine g_dload hC 0 rfl (rfl : 1289 + 2 = 1291) (xdt tt_L_law11 18 rfl) ?_
      refine g_dload hC 0 rfl (rfl : 1291 + 2 = 1293) (xdt tt_L_law11 19 rfl) ?_
      refine g_dcmp hC (rfl : 1293 + 1 = 1294) (xdt tt_L_law11 20 rfl) ?_
      refine g_if_ne hC (show ((1294 : Nat) : Int) + 5 = ((1299 : Nat) : Int) by decide) (rfl : 1294 + 3 = 1297) (xdt tt_L_law11 21 rfl) (fun hc459 => ?_) (fun hc459 => ?_)
      · replace h := (if_pos hc459).symm.trans h
        refine g_goto hC (show ((1299 : Nat) : Int) + 1240 = ((2539 : Nat) : Int) by decide) (xdt tt_L_law11 24 rfl) ?_
        refine g_iinc hC 6 rfl (by decide) (lv' := [(4, vi (x4 + 6)), (7, vd v457), (5, vd v453), (0, .ref b), (1, vr E r1 0), (2, vr E r2 0), (3, vr E r3 0)]) rfl (rfl : 2539 + 3 = 2542) (xdt tt_L_law24 22 rfl) ?_
        refine g_goto hC (show ((2542 : Nat) : Int) + (-2519) = ((23 : Nat) : Int) by decide) (xdt tt_L_law24 23 rfl) ?_
        refine g_sub [3, 4, 5, 6, 0] (lv' := [(0, .ref b), (1, vr E r1 0), (2, vr E r2 0), (3, vr E r3 0), (4, vi (x4 + 6))]) rfl ?_
        refine l_wid ?_
        exact hrec _ _ _ (m + 1) h (by omega) (by omega)
      · replace h := (if_neg hc459).symm.trans h
        cases h
set_option maxRecDepth 100000 in
set_option maxHeartbeats 4000000 in
theorem k_law_b1302 {K : xCtx} {E : xE} {b0 b1 b L : Nat} {sc : Nat → Int} {r1 r2 r3 : Nat} (hL : lwC K E b0 b1 b L sc) (hk1 : xkd E r1 = 3) (hA1 : xFam E r1) (hk2 : xkd E r2 = 4) (hk3 : xkd E r3 = 5) {c23 : xSt → Int → Option xSt} {x4 : Int} {m : Nat} (hm : x4 = 6 * (m : Int)) (hm2 : m < 512) {S S' : xSt} (hrec : ∀ (S S' : xSt) (z : Int) (k : Nat), c23 S z = some S' → z = 6 * (k : Int) → k ≤ 512 → WG (kc K b0 b1 k) E 23 [(0, .ref b), (1, vr E r1 0), (2, vr E r2 0), (3, vr E r3 0), (4, vi z)] [] S) (h : f_law_b1302 c23 r1 r2 r3 L sc S x4 = some S') : WG (kc K b0 b1 m) E 1302 [(0, .ref b), (1, vr E r1 0), (2, vr E r2 0), (3, vr E r3 0), (4, vi x4)] [] S := by
  unfold f_law_b1302 at h
  have hC := hL.1 m
  have hs := hL.2.1 m
  refine g_aload_n hC rfl 1 rfl (rfl : 1302 + 1 = 1303) (xdt tt_L_law11 25 rfl) ?_
  obtain ⟨v465, S464, hc463, h⟩ := bd2_i h
  refine g_lcallVf hC (lw_z0 hL (show m ≤ 512 by omega)) hk1 kclX11 ly3_0 m_X11_fusedShare q971 ⟨Nat.le_of_ble_eq_true rfl, Nat.le_of_ble_eq_true rfl⟩ [] rfl (fun l => c_X11_fusedShare_p3_0 l hk1 hA1 hc463) rfl (Nat.le_of_ble_eq_true rfl) (rfl : 1303 + 3 = 1306) (xdt tt_L_law11 26 rfl) ?_
  obtain ⟨hn467, h⟩ := ckNd_i h
  refine g_f2d hC hn467 (rfl : 1306 + 1 = 1307) (xdt tt_L_law11 27 rfl) ?_
  refine g_dstore hC (by decide) (lv' := [(5, vd (FP.f2d v465)), (0, .ref b), (1, vr E r1 0), (2, vr E r2 0), (3, vr E r3 0), (4, vi x4)]) rfl (rfl : 1307 + 2 = 1309) (xdt tt_L_law11 28 rfl) ?_
  refine g_aload_n hC rfl 3 rfl (rfl : 1309 + 1 = 1310) (xdt tt_L_law11 29 rfl) ?_
  obtain ⟨v470, S469, hc468, h⟩ := bd2_i h
  refine g_lcallVf hC (lw_z0 hL (show m ≤ 512 by omega)) hk2 kclX12 ly4_0 m_X12_fusedShare q975 ⟨Nat.le_of_ble_eq_true rfl, Nat.le_of_ble_eq_true rfl⟩ [] rfl (fun l => c_X12_fusedShare_p4_0 l hk2 hc468) rfl (Nat.le_of_ble_eq_true rfl) (rfl : 1310 + 3 = 1313) (xdt tt_L_law11 30 rfl) ?_
  obtain ⟨hn472, h⟩ := ckNd_i h
  refine g_f2d hC hn472 (rfl : 1313 + 1 = 1314) (xdt tt_L_law11 31 rfl) ?_
  refine g_dstore hC (by decide) (lv' := [(7, vd (FP.f2d v470)), (5, vd (FP.f2d v465)), (0, .ref b), (1, vr E r1 0), (2, vr E r2 0), (3, vr E r3 0), (4, vi x4)]) rfl (rfl : 1314 + 2 = 1316) (xdt tt_L_law11 32 rfl) ?_
  refine g_dload hC 1 rfl (rfl : 1316 + 2 = 1318) (xdt tt_L_law11 33 rfl) ?_
  refine g_dload hC 0 rfl (rfl : 1318 + 2 = 1320) (xdt tt_L_law11 34 rfl) ?_
  refine g_dcmp hC (rfl : 1320 + 1 = 1321) (xdt tt_L_law11 35 rfl) ?_
  refine g_if_eq hC (show ((1321 : Nat) : Int) + 21 = ((1342 : Nat) : Int) by decide) (rfl : 1321 + 3 = 1324) (xdt tt_L_law11 36 rfl) (fun hc475 => ?_) (fun hc475 => ?_)
  · replace h := (if_pos hc475).symm.trans h
    refine g_goto hC (show ((1342 : Nat) : Int) + 1197 = ((2539 : Nat) : Int) by decide) (xdt tt_L_law11 47 rfl) ?_
    refine g_iinc hC 6 rfl (by decide) (lv' := [(4, vi (x4 + 6)), (7, vd (FP.f2d v470)), (5, vd (FP.f2d v465)), (0, .ref b), (1, vr E r1 0), (2, vr E r2 0), (3, vr E r3 0)]) rfl (rfl : 2539 + 3 = 2542) (xdt tt_L_law24 22 rfl) ?_
    refine g_goto hC (show ((2542 : Nat) : Int) + (-2519) = ((23 : Nat) : Int) by decide) (xdt tt_L_law24 23 rfl) ?_
    refine g_sub [3, 4, 5, 6, 0] (lv' := [(0, .ref b), (1, vr E r1 0), (2, vr E r2 0), (3, vr E r3 0), (4, vi (x4 + 6))]) rfl ?_
    refine l_wid ?_
    exact hrec _ _ _ (m + 1) h (by omega) (by omega)
  · replace h := (if_neg hc475).symm.trans h
    refine g_dload hC 1 rfl (rfl : 1324 + 2 = 1326) (xdt tt_L_law11 37 rfl) ?_
    refine g_dload hC 1 rfl (rfl : 1326 + 2 = 1328) (xdt tt_L_law11 38 rfl) ?_
    refine g_dcmp hC (rfl : 1328 + 1 = 1329) (xdt tt_L_law11 39 rfl) ?_
    refine g_if_eq hC (show ((1329 : Nat) : Int) + 11 = ((1340 : Nat) : Int) by decide) (rfl : 1329 + 3 = 1332) (xdt tt_L_law11 40 rfl) (fun hc474 => ?_) (fun hc474 => ?_)
    · replace h := (if_pos hc474).symm.trans h
      cases h
    · replace h := (if_neg hc474).symm.trans h
      refine g_dload hC 0 rfl (rfl : 1332 + 2 = 1334) (xdt tt_L_law11 41 rfl) ?_
      refine g_dload hC 0 rfl (rfl : 1334 + 2 = 1336) (xdt tt_L_law11 42 rfl) ?_
      refine g_dcmp hC (rfl : 1336 + 1 = 1337) (xdt tt_L_law11 43 rfl) ?_
      refine g_if_ne hC (show ((1337 : Nat) : Int) + 5 = ((1342 : Nat) : Int) by decide) (rfl : 1337 + 3 = 1340) (xdt tt_L_law11 44 rfl) (fun hc473 => ?_) (fun hc473 => ?_)
      · replace h := (if_pos hc473).symm.trans h
        refine g_goto hC (show ((1342 : Nat) : Int) + 1197 = ((2539 : Nat) : Int) by decide) (xdt tt_L_law11 47 rfl) ?_
        refine g_iinc hC 6 rfl (by decide) (lv' := [(4, vi (x4 + 6)), (7, vd (FP.f2d v470)), (5, vd (FP.f2d v465)), (0, .ref b), (1, vr E r1 0), (2, vr E r2 0), (3, vr E r3 0)]) rfl (rfl : 2539 + 3 = 2542) (xdt tt_L_law24 22 rfl) ?_
        refine g_goto hC (show ((2542 : Nat) : Int) + (-2519) = ((23 : Nat) : Int) by decide) (xdt tt_L_law24 23 rfl) ?_
        refine g_sub [3, 4, 5, 6, 0] (lv' := [(0, .ref b), (1, vr E r1 0), (2, vr E r2 0), (3, vr E r3 0), (4, vi (x4 + 6))]) rfl ?_
        refine l_wid ?_
        exact hrec _ _ _ (m + 1) h (by omega) (by omega)
      · replace h := (if_neg hc473).symm.trans h
        cases h
set_option maxRecDepth 100000 in
set_option maxHeartbeats 4000000 in
theorem k_law_b1345 {K : xCtx} {E : xE} {b0 b1 b L : Nat} {sc : Nat → Int} {r1 r2 r3 : Nat} (hL : lwC K E b0 b1 b L sc) (hk1 : xkd E r1 = 3) (hA1 : xFam E r1) (hk2 : xkd E r2 = 4) (hk3 : xkd E r3 = 5) {c23 : xSt → Int → Option xSt} {x4 : Int} {m : Nat} (hm : x4 = 6 * (m : Int)) (hm2 : m < 512) {S S' : xSt} (hrec : ∀ (S S' : xSt) (z : Int) (k : Nat), c23 S z = some S' → z = 6 * (k : Int) → k ≤ 512 → WG (kc K b0 b1 k) E 23 [(0, .ref b), (1, vr E r1 0), (2, vr E r2 0), (3, vr E r3 0), (4, vi z)] [] S) (h : f_law_b1345 c23 r1 r2 r3 L sc S x4 = some S') : WG (kc K b0 b1 m) E 1345 [(0, .ref b), (1, vr E r1 0), (2, vr E r2 0), (3, vr E r3 0), (4, vi x4)] [] S := by
  unfold f_law_b1345 at h
  have hC := hL.1 m
  have hs := hL.2.1 m
  refine g_aload_n hC rfl 1 rfl (rfl : 1345 + 1 = 1346) (xdt tt_L_law11 48 rfl) ?_
  refine g_aload_n hC rfl 0 rfl (rfl : 1346 + 1 = 1347) (xdt tt_L_law11 49 rfl) ?_
  refine g_iload hC 4 rfl (rfl : 1347 + 2 = 1349) (xdt tt_L_law11 50 rfl) ?_
  refine g_iconst hC (rfl : 1349 + 1 = 1350) (xdt tt_L_law11 51 rfl) ?_
  refine g_iadd hC (rfl : 1350 + 1 = 1351) (xdt tt_L_law11 52 rfl) ?_
  obtain ⟨hi477, h⟩ := ckI_i h
  refine g_sld hC hs hi477 (rfl : 1351 + 1 = 1352) (xdt tt_L_law11 53 rfl) ?_
  refine g_aload_n hC rfl 3 rfl (rfl : 1352 + 1 = 1353) (xdt tt_L_law11 54 rfl) ?_
  obtain ⟨v480, S479, hc478, h⟩ := bd2_i h
  refine g_lcallW hC (lw_z16 hL hm2) (lw_tr hL) mw_L_run q979 ⟨Nat.le_of_ble_eq_true rfl, Nat.le_of_ble_eq_true rfl⟩ [vr E r1 0, vi (sc (wr (x4 + 1)).toNat), vr E r3 0] rfl (fun l htr => c_L_run_p3_0_5_0 l htr hk1 hA1 hk3 hc478) rfl (Nat.le_of_ble_eq_true rfl) (xdt tt_L_law11 55 rfl) ?_
  rw [bump_kc]
  have hC := hL.1 (m + 1)
  have hs := hL.2.1 (m + 1)
  refine g_istore hC (by decide) (lv' := [(5, vi v480), (0, .ref b), (1, vr E r1 0), (2, vr E r2 0), (3, vr E r3 0), (4, vi x4)]) rfl (rfl : 1356 + 2 = 1358) (xdt tt_L_law11 56 rfl) ?_
  refine g_aload_n hC rfl 3 rfl (rfl : 1358 + 1 = 1359) (xdt tt_L_law11 57 rfl) ?_
  refine g_aload_n hC rfl 1 rfl (rfl : 1359 + 1 = 1360) (xdt tt_L_law11 58 rfl) ?_
  refine g_iload hC 5 rfl (rfl : 1360 + 2 = 1362) (xdt tt_L_law11 59 rfl) ?_
  refine g_iconst hC (rfl : 1362 + 1 = 1363) (xdt tt_L_law12 0 rfl) ?_
  refine g_iadd hC (rfl : 1363 + 1 = 1364) (xdt tt_L_law12 1 rfl) ?_
  obtain ⟨hi482, h⟩ := ckI_i h
  refine g_sld hC hs hi482 (rfl : 1364 + 1 = 1365) (xdt tt_L_law12 2 rfl) ?_
  obtain ⟨v485, S484, hc483, h⟩ := bd2_i h
  refine g_lcallVi hC (lw_z0 hL (show m + 1 ≤ 512 by omega)) hk2 kclX12 ly4_0 m_X12_run q1138 ⟨Nat.le_of_ble_eq_true rfl, Nat.le_of_ble_eq_true rfl⟩ [vi (sc (wr (x4 + 1)).toNat)] rfl (fun l => c_X12_run_p4_0 l hk2 hc483) rfl (Nat.le_of_ble_eq_true rfl) (rfl : 1365 + 3 = 1368) (xdt tt_L_law12 3 rfl) ?_
  refine g_istore hC (by decide) (lv' := [(6, vi v485), (5, vi v480), (0, .ref b), (1, vr E r1 0), (2, vr E r2 0), (3, vr E r3 0), (4, vi x4)]) rfl (rfl : 1368 + 2 = 1370) (xdt tt_L_law12 4 rfl) ?_
  refine g_aload_n hC rfl 4 rfl (rfl : 1370 + 1 = 1371) (xdt tt_L_law12 5 rfl) ?_
  obtain ⟨v489, S488, hc487, h⟩ := bd2_i h
  refine g_lcallVi hC (lw_z0 hL (show m + 1 ≤ 512 by omega)) hk2 kclX12 ly4_0 m_X12_thrown q672 ⟨Nat.le_of_ble_eq_true rfl, Nat.le_of_ble_eq_true rfl⟩ [] rfl (fun l => c_X12_thrown_p4_0 l hk2 hc487) rfl (Nat.le_of_ble_eq_true rfl) (rfl : 1371 + 3 = 1374) (xdt tt_L_law12 6 rfl) ?_
  refine g_iload hC 1 rfl (rfl : 1374 + 2 = 1376) (xdt tt_L_law12 7 rfl) ?_
  refine g_icmp_eq hC (show ((1376 : Nat) : Int) + 5 = ((1381 : Nat) : Int) by decide) (rfl : 1376 + 3 = 1379) (xdt tt_L_law12 8 rfl) (fun hc493 => ?_) (fun hc493 => ?_)
  · replace h := (if_pos hc493).symm.trans h
    refine g_iload hC 1 rfl (rfl : 1381 + 2 = 1383) (xdt tt_L_law12 11 rfl) ?_
    refine g_if_ne hC (show ((1383 : Nat) : Int) + 15 = ((1398 : Nat) : Int) by decide) (rfl : 1383 + 3 = 1386) (xdt tt_L_law12 12 rfl) (fun hc492 => ?_) (fun hc492 => ?_)
    · replace h := (if_pos hc492).symm.trans h
      refine g_goto hC (show ((1398 : Nat) : Int) + 1141 = ((2539 : Nat) : Int) by decide) (xdt tt_L_law12 22 rfl) ?_
      refine g_iinc hC 6 rfl (by decide) (lv' := [(4, vi (x4 + 6)), (6, vi v485), (5, vi v480), (0, .ref b), (1, vr E r1 0), (2, vr E r2 0), (3, vr E r3 0)]) rfl (rfl : 2539 + 3 = 2542) (xdt tt_L_law24 22 rfl) ?_
      refine g_goto hC (show ((2542 : Nat) : Int) + (-2519) = ((23 : Nat) : Int) by decide) (xdt tt_L_law24 23 rfl) ?_
      refine g_sub [3, 4, 5, 6, 0] (lv' := [(0, .ref b), (1, vr E r1 0), (2, vr E r2 0), (3, vr E r3 0), (4, vi (x4 + 6))]) rfl ?_
      exact hrec _ _ _ (m + 1) h (by omega) (by omega)
    · replace h := (if_neg hc492).symm.trans h
      refine g_aload_n hC rfl 5 rfl (rfl : 1386 + 1 = 1387) (xdt tt_L_law12 13 rfl) ?_
      refine g_iconst hC (rfl : 1387 + 1 = 1388) (xdt tt_L_law12 14 rfl) ?_
      refine g_lald hC hk3 ly5_0 (by decide) (rfl : 1388 + 1 = 1389) (xdt tt_L_law12 15 rfl) (k0 := 0) (by decide) ?_
      refine g_iload hC 0 rfl (rfl : 1389 + 2 = 1391) (xdt tt_L_law12 16 rfl) ?_
      refine g_i2l hC (rfl : 1391 + 1 = 1392) (xdt tt_L_law12 17 rfl) ?_
      refine g_lcmp hC (rfl : 1392 + 1 = 1393) (xdt tt_L_law12 18 rfl) ?_
      refine g_if_eq hC (show ((1393 : Nat) : Int) + 5 = ((1398 : Nat) : Int) by decide) (rfl : 1393 + 3 = 1396) (xdt tt_L_law12 19 rfl) (fun hc491 => ?_) (fun hc491 => ?_)
      · replace h := (if_pos hc491).symm.trans h
        refine g_goto hC (show ((1398 : Nat) : Int) + 1141 = ((2539 : Nat) : Int) by decide) (xdt tt_L_law12 22 rfl) ?_
        refine g_iinc hC 6 rfl (by decide) (lv' := [(4, vi (x4 + 6)), (6, vi v485), (5, vi v480), (0, .ref b), (1, vr E r1 0), (2, vr E r2 0), (3, vr E r3 0)]) rfl (rfl : 2539 + 3 = 2542) (xdt tt_L_law24 22 rfl) ?_
        refine g_goto hC (show ((2542 : Nat) : Int) + (-2519) = ((23 : Nat) : Int) by decide) (xdt tt_L_law24 23 rfl) ?_
        refine g_sub [3, 4, 5, 6, 0] (lv' := [(0, .ref b), (1, vr E r1 0), (2, vr E r2 0), (3, vr E r3 0), (4, vi (x4 + 6))]) rfl ?_
        exact hrec _ _ _ (m + 1) h (by omega) (by omega)
      · replace h := (if_neg hc491).symm.trans h
        cases h
  · replace h := (if_neg hc493).symm.trans h
    cases h
set_option maxRecDepth 100000 in
set_option maxHeartbeats 4000000 in
theorem k_law_b1401 {K : xCtx} {E : xE} {b0 b1 b L : Nat} {sc : Nat → Int} {r1 r2 r3 : Nat} (hL : lwC K E b0 b1 b L sc) (hk1 : xkd E r1 = 3) (hA1 : xFam E r1) (hk2 : xkd E r2 = 4) (hk3 : xkd E r3 = 5) {c23 : xSt → Int → Option xSt} {x4 : Int} {m : Nat} (hm : x4 = 6 * (m : Int)) (hm2 : m < 512) {S S' : xSt} (hrec : ∀ (S S' : xSt) (z : Int) (k : Nat), c23 S z = some S' → z = 6 * (k : Int) → k ≤ 512 → WG (kc K b0 b1 k) E 23 [(0, .ref b), (1, vr E r1 0), (2, vr E r2 0), (3, vr E r3 0), (4, vi z)] [] S) (h : f_law_b1401 c23 r1 r2 r3 L sc S x4 = some S') : WG (kc K b0 b1 m) E 1401 [(0, .ref b), (1, vr E r1 0), (2, vr E r2 0), (3, vr E r3 0), (4, vi x4)] [] S := by
  unfold f_law_b1401 at h
  have hC := hL.1 m
  have hs := hL.2.1 m
  refine g_aload_n hC rfl 1 rfl (rfl : 1401 + 1 = 1402) (xdt tt_L_law12 23 rfl) ?_
  refine g_aload_n hC rfl 0 rfl (rfl : 1402 + 1 = 1403) (xdt tt_L_law12 24 rfl) ?_
  refine g_iload hC 4 rfl (rfl : 1403 + 2 = 1405) (xdt tt_L_law12 25 rfl) ?_
  refine g_iconst hC (rfl : 1405 + 1 = 1406) (xdt tt_L_law12 26 rfl) ?_
  refine g_iadd hC (rfl : 1406 + 1 = 1407) (xdt tt_L_law12 27 rfl) ?_
  obtain ⟨hi495, h⟩ := ckI_i h
  refine g_sld hC hs hi495 (rfl : 1407 + 1 = 1408) (xdt tt_L_law12 28 rfl) ?_
  refine g_aload_n hC rfl 3 rfl (rfl : 1408 + 1 = 1409) (xdt tt_L_law12 29 rfl) ?_
  obtain ⟨v498, S497, hc496, h⟩ := bd2_i h
  refine g_lcallW hC (lw_z16 hL hm2) (lw_tr hL) mw_L_runTo q1234 ⟨Nat.le_of_ble_eq_true rfl, Nat.le_of_ble_eq_true rfl⟩ [vr E r1 0, vi (sc (wr (x4 + 1)).toNat), vr E r3 0] rfl (fun l htr => c_L_runTo_p3_0_5_0 l htr hk1 hA1 hk3 hc496) rfl (Nat.le_of_ble_eq_true rfl) (xdt tt_L_law12 30 rfl) ?_
  rw [bump_kc]
  have hC := hL.1 (m + 1)
  have hs := hL.2.1 (m + 1)
  refine g_istore hC (by decide) (lv' := [(5, vi v498), (0, .ref b), (1, vr E r1 0), (2, vr E r2 0), (3, vr E r3 0), (4, vi x4)]) rfl (rfl : 1412 + 2 = 1414) (xdt tt_L_law12 31 rfl) ?_
  refine g_aload_n hC rfl 3 rfl (rfl : 1414 + 1 = 1415) (xdt tt_L_law12 32 rfl) ?_
  refine g_aload_n hC rfl 1 rfl (rfl : 1415 + 1 = 1416) (xdt tt_L_law12 33 rfl) ?_
  refine g_iload hC 5 rfl (rfl : 1416 + 2 = 1418) (xdt tt_L_law12 34 rfl) ?_
  refine g_iconst hC (rfl : 1418 + 1 = 1419) (xdt tt_L_law12 35 rfl) ?_
  refine g_iadd hC (rfl : 1419 + 1 = 1420) (xdt tt_L_law12 36 rfl) ?_
  obtain ⟨hi500, h⟩ := ckI_i h
  refine g_sld hC hs hi500 (rfl : 1420 + 1 = 1421) (xdt tt_L_law12 37 rfl) ?_
  obtain ⟨v503, S502, hc501, h⟩ := bd2_i h
  refine g_lcallVi hC (lw_z0 hL (show m + 1 ≤ 512 by omega)) hk2 kclX12 ly4_0 m_X12_runTo q1242 ⟨Nat.le_of_ble_eq_true rfl, Nat.le_of_ble_eq_true rfl⟩ [vi (sc (wr (x4 + 1)).toNat)] rfl (fun l => c_X12_runTo_p4_0 l hk2 hc501) rfl (Nat.le_of_ble_eq_true rfl) (rfl : 1421 + 3 = 1424) (xdt tt_L_law12 38 rfl) ?_
  refine g_istore hC (by decide) (lv' := [(6, vi v503), (5, vi v498), (0, .ref b), (1, vr E r1 0), (2, vr E r2 0), (3, vr E r3 0), (4, vi x4)]) rfl (rfl : 1424 + 2 = 1426) (xdt tt_L_law12 39 rfl) ?_
  refine g_aload_n hC rfl 4 rfl (rfl : 1426 + 1 = 1427) (xdt tt_L_law12 40 rfl) ?_
  obtain ⟨v507, S506, hc505, h⟩ := bd2_i h
  refine g_lcallVi hC (lw_z0 hL (show m + 1 ≤ 512 by omega)) hk2 kclX12 ly4_0 m_X12_thrown q672 ⟨Nat.le_of_ble_eq_true rfl, Nat.le_of_ble_eq_true rfl⟩ [] rfl (fun l => c_X12_thrown_p4_0 l hk2 hc505) rfl (Nat.le_of_ble_eq_true rfl) (rfl : 1427 + 3 = 1430) (xdt tt_L_law12 41 rfl) ?_
  refine g_iload hC 1 rfl (rfl : 1430 + 2 = 1432) (xdt tt_L_law12 42 rfl) ?_
  refine g_icmp_eq hC (show ((1432 : Nat) : Int) + 5 = ((1437 : Nat) : Int) by decide) (rfl : 1432 + 3 = 1435) (xdt tt_L_law12 43 rfl) (fun hc511 => ?_) (fun hc511 => ?_)
  · replace h := (if_pos hc511).symm.trans h
    refine g_iload hC 1 rfl (rfl : 1437 + 2 = 1439) (xdt tt_L_law12 46 rfl) ?_
    refine g_if_ne hC (show ((1439 : Nat) : Int) + 15 = ((1454 : Nat) : Int) by decide) (rfl : 1439 + 3 = 1442) (xdt tt_L_law12 47 rfl) (fun hc510 => ?_) (fun hc510 => ?_)
    · replace h := (if_pos hc510).symm.trans h
      refine g_goto hC (show ((1454 : Nat) : Int) + 1085 = ((2539 : Nat) : Int) by decide) (xdt tt_L_law12 57 rfl) ?_
      refine g_iinc hC 6 rfl (by decide) (lv' := [(4, vi (x4 + 6)), (6, vi v503), (5, vi v498), (0, .ref b), (1, vr E r1 0), (2, vr E r2 0), (3, vr E r3 0)]) rfl (rfl : 2539 + 3 = 2542) (xdt tt_L_law24 22 rfl) ?_
      refine g_goto hC (show ((2542 : Nat) : Int) + (-2519) = ((23 : Nat) : Int) by decide) (xdt tt_L_law24 23 rfl) ?_
      refine g_sub [3, 4, 5, 6, 0] (lv' := [(0, .ref b), (1, vr E r1 0), (2, vr E r2 0), (3, vr E r3 0), (4, vi (x4 + 6))]) rfl ?_
      exact hrec _ _ _ (m + 1) h (by omega) (by omega)
    · replace h := (if_neg hc510).symm.trans h
      refine g_aload_n hC rfl 5 rfl (rfl : 1442 + 1 = 1443) (xdt tt_L_law12 48 rfl) ?_
      refine g_iconst hC (rfl : 1443 + 1 = 1444) (xdt tt_L_law12 49 rfl) ?_
      refine g_lald hC hk3 ly5_0 (by decide) (rfl : 1444 + 1 = 1445) (xdt tt_L_law12 50 rfl) (k0 := 0) (by decide) ?_
      refine g_iload hC 0 rfl (rfl : 1445 + 2 = 1447) (xdt tt_L_law12 51 rfl) ?_
      refine g_i2l hC (rfl : 1447 + 1 = 1448) (xdt tt_L_law12 52 rfl) ?_
      refine g_lcmp hC (rfl : 1448 + 1 = 1449) (xdt tt_L_law12 53 rfl) ?_
      refine g_if_eq hC (show ((1449 : Nat) : Int) + 5 = ((1454 : Nat) : Int) by decide) (rfl : 1449 + 3 = 1452) (xdt tt_L_law12 54 rfl) (fun hc509 => ?_) (fun hc509 => ?_)
      · replace h := (if_pos hc509).symm.trans h
        refine g_goto hC (show ((1454 : Nat) : Int) + 1085 = ((2539 : Nat) : Int) by decide) (xdt tt_L_law12 57 rfl) ?_
        refine g_iinc hC 6 rfl (by decide) (lv' := [(4, vi (x4 + 6)), (6, vi v503), (5, vi v498), (0, .ref b), (1, vr E r1 0), (2, vr E r2 0), (3, vr E r3 0)]) rfl (rfl : 2539 + 3 = 2542) (xdt tt_L_law24 22 rfl) ?_
        refine g_goto hC (show ((2542 : Nat) : Int) + (-2519) = ((23 : Nat) : Int) by decide) (xdt tt_L_law24 23 rfl) ?_
        refine g_sub [3, 4, 5, 6, 0] (lv' := [(0, .ref b), (1, vr E r1 0), (2, vr E r2 0), (3, vr E r3 0), (4, vi (x4 + 6))]) rfl ?_
        exact hrec _ _ _ (m + 1) h (by omega) (by omega)
      · replace h := (if_neg hc509).symm.trans h
        cases h
  · replace h := (if_neg hc511).symm.trans h
    cases h
set_option maxRecDepth 100000 in
set_option maxHeartbeats 4000000 in
theorem k_law_b1457 {K : xCtx} {E : xE} {b0 b1 b L : Nat} {sc : Nat → Int} {r1 r2 r3 : Nat} (hL : lwC K E b0 b1 b L sc) (hk1 : xkd E r1 = 3) (hA1 : xFam E r1) (hk2 : xkd E r2 = 4) (hk3 : xkd E r3 = 5) {c23 : xSt → Int → Option xSt} {x4 : Int} {m : Nat} (hm : x4 = 6 * (m : Int)) (hm2 : m < 512) {S S' : xSt} (hrec : ∀ (S S' : xSt) (z : Int) (k : Nat), c23 S z = some S' → z = 6 * (k : Int) → k ≤ 512 → WG (kc K b0 b1 k) E 23 [(0, .ref b), (1, vr E r1 0), (2, vr E r2 0), (3, vr E r3 0), (4, vi z)] [] S) (h : f_law_b1457 c23 r1 r2 r3 L sc S x4 = some S') : WG (kc K b0 b1 m) E 1457 [(0, .ref b), (1, vr E r1 0), (2, vr E r2 0), (3, vr E r3 0), (4, vi x4)] [] S := by
  unfold f_law_b1457 at h
  have hC := hL.1 m
  have hs := hL.2.1 m
  refine g_aload_n hC rfl 1 rfl (rfl : 1457 + 1 = 1458) (xdt tt_L_law12 58 rfl) ?_
  refine g_aload_n hC rfl 0 rfl (rfl : 1458 + 1 = 1459) (xdt tt_L_law12 59 rfl) ?_
  refine g_iload hC 4 rfl (rfl : 1459 + 2 = 1461) (xdt tt_L_law13 0 rfl) ?_
  refine g_iconst hC (rfl : 1461 + 1 = 1462) (xdt tt_L_law13 1 rfl) ?_
  refine g_iadd hC (rfl : 1462 + 1 = 1463) (xdt tt_L_law13 2 rfl) ?_
  obtain ⟨hi513, h⟩ := ckI_i h
  refine g_sld hC hs hi513 (rfl : 1463 + 1 = 1464) (xdt tt_L_law13 3 rfl) ?_
  refine g_aload_n hC rfl 3 rfl (rfl : 1464 + 1 = 1465) (xdt tt_L_law13 4 rfl) ?_
  obtain ⟨v516, S515, hc514, h⟩ := bd2_i h
  refine g_lcallW hC (lw_z16 hL hm2) (lw_tr hL) mw_L_stall q1250 ⟨Nat.le_of_ble_eq_true rfl, Nat.le_of_ble_eq_true rfl⟩ [vr E r1 0, vi (sc (wr (x4 + 1)).toNat), vr E r3 0] rfl (fun l htr => c_L_stall_p3_0_5_0 l htr hk1 hA1 hk3 hc514) rfl (Nat.le_of_ble_eq_true rfl) (xdt tt_L_law13 5 rfl) ?_
  rw [bump_kc]
  have hC := hL.1 (m + 1)
  have hs := hL.2.1 (m + 1)
  refine g_istore hC (by decide) (lv' := [(5, vi v516), (0, .ref b), (1, vr E r1 0), (2, vr E r2 0), (3, vr E r3 0), (4, vi x4)]) rfl (rfl : 1468 + 2 = 1470) (xdt tt_L_law13 6 rfl) ?_
  refine g_aload_n hC rfl 3 rfl (rfl : 1470 + 1 = 1471) (xdt tt_L_law13 7 rfl) ?_
  refine g_aload_n hC rfl 1 rfl (rfl : 1471 + 1 = 1472) (xdt tt_L_law13 8 rfl) ?_
  refine g_iload hC 5 rfl (rfl : 1472 + 2 = 1474) (xdt tt_L_law13 9 rfl) ?_
  refine g_iconst hC (rfl : 1474 + 1 = 1475) (xdt tt_L_law13 10 rfl) ?_
  refine g_iadd hC (rfl : 1475 + 1 = 1476) (xdt tt_L_law13 11 rfl) ?_
  obtain ⟨hi518, h⟩ := ckI_i h
  refine g_sld hC hs hi518 (rfl : 1476 + 1 = 1477) (xdt tt_L_law13 12 rfl) ?_
  obtain ⟨v521, S520, hc519, h⟩ := bd2_i h
  refine g_lcallVi hC (lw_z0 hL (show m + 1 ≤ 512 by omega)) hk2 kclX12 ly4_0 m_X12_stall q1257 ⟨Nat.le_of_ble_eq_true rfl, Nat.le_of_ble_eq_true rfl⟩ [vi (sc (wr (x4 + 1)).toNat)] rfl (fun l => c_X12_stall_p4_0 l hk2 hc519) rfl (Nat.le_of_ble_eq_true rfl) (rfl : 1477 + 3 = 1480) (xdt tt_L_law13 13 rfl) ?_
  refine g_istore hC (by decide) (lv' := [(6, vi v521), (5, vi v516), (0, .ref b), (1, vr E r1 0), (2, vr E r2 0), (3, vr E r3 0), (4, vi x4)]) rfl (rfl : 1480 + 2 = 1482) (xdt tt_L_law13 14 rfl) ?_
  refine g_aload_n hC rfl 4 rfl (rfl : 1482 + 1 = 1483) (xdt tt_L_law13 15 rfl) ?_
  obtain ⟨v525, S524, hc523, h⟩ := bd2_i h
  refine g_lcallVi hC (lw_z0 hL (show m + 1 ≤ 512 by omega)) hk2 kclX12 ly4_0 m_X12_thrown q672 ⟨Nat.le_of_ble_eq_true rfl, Nat.le_of_ble_eq_true rfl⟩ [] rfl (fun l => c_X12_thrown_p4_0 l hk2 hc523) rfl (Nat.le_of_ble_eq_true rfl) (rfl : 1483 + 3 = 1486) (xdt tt_L_law13 16 rfl) ?_
  refine g_iload hC 1 rfl (rfl : 1486 + 2 = 1488) (xdt tt_L_law13 17 rfl) ?_
  refine g_icmp_eq hC (show ((1488 : Nat) : Int) + 5 = ((1493 : Nat) : Int) by decide) (rfl : 1488 + 3 = 1491) (xdt tt_L_law13 18 rfl) (fun hc529 => ?_) (fun hc529 => ?_)
  · replace h := (if_pos hc529).symm.trans h
    refine g_iload hC 1 rfl (rfl : 1493 + 2 = 1495) (xdt tt_L_law13 21 rfl) ?_
    refine g_if_ne hC (show ((1495 : Nat) : Int) + 15 = ((1510 : Nat) : Int) by decide) (rfl : 1495 + 3 = 1498) (xdt tt_L_law13 22 rfl) (fun hc528 => ?_) (fun hc528 => ?_)
    · replace h := (if_pos hc528).symm.trans h
      refine g_goto hC (show ((1510 : Nat) : Int) + 1029 = ((2539 : Nat) : Int) by decide) (xdt tt_L_law13 32 rfl) ?_
      refine g_iinc hC 6 rfl (by decide) (lv' := [(4, vi (x4 + 6)), (6, vi v521), (5, vi v516), (0, .ref b), (1, vr E r1 0), (2, vr E r2 0), (3, vr E r3 0)]) rfl (rfl : 2539 + 3 = 2542) (xdt tt_L_law24 22 rfl) ?_
      refine g_goto hC (show ((2542 : Nat) : Int) + (-2519) = ((23 : Nat) : Int) by decide) (xdt tt_L_law24 23 rfl) ?_
      refine g_sub [3, 4, 5, 6, 0] (lv' := [(0, .ref b), (1, vr E r1 0), (2, vr E r2 0), (3, vr E r3 0), (4, vi (x4 + 6))]) rfl ?_
      exact hrec _ _ _ (m + 1) h (by omega) (by omega)
    · replace h := (if_neg hc528).symm.trans h
      refine g_aload_n hC rfl 5 rfl (rfl : 1498 + 1 = 1499) (xdt tt_L_law13 23 rfl) ?_
      refine g_iconst hC (rfl : 1499 + 1 = 1500) (xdt tt_L_law13 24 rfl) ?_
      refine g_lald hC hk3 ly5_0 (by decide) (rfl : 1500 + 1 = 1501) (xdt tt_L_law13 25 rfl) (k0 := 0) (by decide) ?_
      refine g_iload hC 0 rfl (rfl : 1501 + 2 = 1503) (xdt tt_L_law13 26 rfl) ?_
      refine g_i2l hC (rfl : 1503 + 1 = 1504) (xdt tt_L_law13 27 rfl) ?_
      refine g_lcmp hC (rfl : 1504 + 1 = 1505) (xdt tt_L_law13 28 rfl) ?_
      refine g_if_eq hC (show ((1505 : Nat) : Int) + 5 = ((1510 : Nat) : Int) by decide) (rfl : 1505 + 3 = 1508) (xdt tt_L_law13 29 rfl) (fun hc527 => ?_) (fun hc527 => ?_)
      · replace h := (if_pos hc527).symm.trans h
        refine g_goto hC (show ((1510 : Nat) : Int) + 1029 = ((2539 : Nat) : Int) by decide) (xdt tt_L_law13 32 rfl) ?_
        refine g_iinc hC 6 rfl (by decide) (lv' := [(4, vi (x4 + 6)), (6, vi v521), (5, vi v516), (0, .ref b), (1, vr E r1 0), (2, vr E r2 0), (3, vr E r3 0)]) rfl (rfl : 2539 + 3 = 2542) (xdt tt_L_law24 22 rfl) ?_
        refine g_goto hC (show ((2542 : Nat) : Int) + (-2519) = ((23 : Nat) : Int) by decide) (xdt tt_L_law24 23 rfl) ?_
        refine g_sub [3, 4, 5, 6, 0] (lv' := [(0, .ref b), (1, vr E r1 0), (2, vr E r2 0), (3, vr E r3 0), (4, vi (x4 + 6))]) rfl ?_
        exact hrec _ _ _ (m + 1) h (by omega) (by omega)
      · replace h := (if_neg hc527).symm.trans h
        cases h
  · replace h := (if_neg hc529).symm.trans h
    cases h
set_option maxRecDepth 100000 in
set_option maxHeartbeats 4000000 in
theorem k_law_b1513 {K : xCtx} {E : xE} {b0 b1 b L : Nat} {sc : Nat → Int} {r1 r2 r3 : Nat} (hL : lwC K E b0 b1 b L sc) (hk1 : xkd E r1 = 3) (hA1 : xFam E r1) (hk2 : xkd E r2 = 4) (hk3 : xkd E r3 = 5) {c23 : xSt → Int → Option xSt} {x4 : Int} {m : Nat} (hm : x4 = 6 * (m : Int)) (hm2 : m < 512) {S S' : xSt} (hrec : ∀ (S S' : xSt) (z : Int) (k : Nat), c23 S z = some S' → z = 6 * (k : Int) → k ≤ 512 → WG (kc K b0 b1 k) E 23 [(0, .ref b), (1, vr E r1 0), (2, vr E r2 0), (3, vr E r3 0), (4, vi z)] [] S) (h : f_law_b1513 c23 r1 r2 r3 L sc S x4 = some S') : WG (kc K b0 b1 m) E 1513 [(0, .ref b), (1, vr E r1 0), (2, vr E r2 0), (3, vr E r3 0), (4, vi x4)] [] S := by
  unfold f_law_b1513 at h
  have hC := hL.1 m
  have hs := hL.2.1 m
  refine g_aload_n hC rfl 1 rfl (rfl : 1513 + 1 = 1514) (xdt tt_L_law13 33 rfl) ?_
  refine g_aload_n hC rfl 0 rfl (rfl : 1514 + 1 = 1515) (xdt tt_L_law13 34 rfl) ?_
  refine g_iload hC 4 rfl (rfl : 1515 + 2 = 1517) (xdt tt_L_law13 35 rfl) ?_
  refine g_iconst hC (rfl : 1517 + 1 = 1518) (xdt tt_L_law13 36 rfl) ?_
  refine g_iadd hC (rfl : 1518 + 1 = 1519) (xdt tt_L_law13 37 rfl) ?_
  obtain ⟨hi531, h⟩ := ckI_i h
  refine g_sld hC hs hi531 (rfl : 1519 + 1 = 1520) (xdt tt_L_law13 38 rfl) ?_
  refine g_aload_n hC rfl 0 rfl (rfl : 1520 + 1 = 1521) (xdt tt_L_law13 39 rfl) ?_
  refine g_iload hC 4 rfl (rfl : 1521 + 2 = 1523) (xdt tt_L_law13 40 rfl) ?_
  refine g_iconst hC (rfl : 1523 + 1 = 1524) (xdt tt_L_law13 41 rfl) ?_
  refine g_iadd hC (rfl : 1524 + 1 = 1525) (xdt tt_L_law13 42 rfl) ?_
  obtain ⟨hi532, h⟩ := ckI_i h
  refine g_sld hC hs hi532 (rfl : 1525 + 1 = 1526) (xdt tt_L_law13 43 rfl) ?_
  refine g_aload_n hC rfl 3 rfl (rfl : 1526 + 1 = 1527) (xdt tt_L_law13 44 rfl) ?_
  obtain ⟨v535, S534, hc533, h⟩ := bd2_i h
  refine g_lcallW hC (lw_z16 hL hm2) (lw_tr hL) mw_L_set q1261 ⟨Nat.le_of_ble_eq_true rfl, Nat.le_of_ble_eq_true rfl⟩ [vr E r1 0, vi (sc (wr (x4 + 1)).toNat), vi (sc (wr (x4 + 2)).toNat), vr E r3 0] rfl (fun l htr => c_L_set_p3_0_5_0 l htr hk1 hA1 hk3 hc533) rfl (Nat.le_of_ble_eq_true rfl) (xdt tt_L_law13 45 rfl) ?_
  rw [bump_kc]
  have hC := hL.1 (m + 1)
  have hs := hL.2.1 (m + 1)
  refine g_istore hC (by decide) (lv' := [(5, vi v535), (0, .ref b), (1, vr E r1 0), (2, vr E r2 0), (3, vr E r3 0), (4, vi x4)]) rfl (rfl : 1530 + 2 = 1532) (xdt tt_L_law13 46 rfl) ?_
  refine g_aload_n hC rfl 3 rfl (rfl : 1532 + 1 = 1533) (xdt tt_L_law13 47 rfl) ?_
  refine g_aload_n hC rfl 1 rfl (rfl : 1533 + 1 = 1534) (xdt tt_L_law13 48 rfl) ?_
  refine g_iload hC 5 rfl (rfl : 1534 + 2 = 1536) (xdt tt_L_law13 49 rfl) ?_
  refine g_iconst hC (rfl : 1536 + 1 = 1537) (xdt tt_L_law13 50 rfl) ?_
  refine g_iadd hC (rfl : 1537 + 1 = 1538) (xdt tt_L_law13 51 rfl) ?_
  obtain ⟨hi537, h⟩ := ckI_i h
  refine g_sld hC hs hi537 (rfl : 1538 + 1 = 1539) (xdt tt_L_law13 52 rfl) ?_
  refine g_aload_n hC rfl 1 rfl (rfl : 1539 + 1 = 1540) (xdt tt_L_law13 53 rfl) ?_
  refine g_iload hC 5 rfl (rfl : 1540 + 2 = 1542) (xdt tt_L_law13 54 rfl) ?_
  refine g_iconst hC (rfl : 1542 + 1 = 1543) (xdt tt_L_law13 55 rfl) ?_
  refine g_iadd hC (rfl : 1543 + 1 = 1544) (xdt tt_L_law13 56 rfl) ?_
  obtain ⟨hi538, h⟩ := ckI_i h
  refine g_sld hC hs hi538 (rfl : 1544 + 1 = 1545) (xdt tt_L_law13 57 rfl) ?_
  obtain ⟨v541, S540, hc539, h⟩ := bd2_i h
  refine g_lcallVi hC (lw_z0 hL (show m + 1 ≤ 512 by omega)) hk2 kclX12 ly4_0 m_X12_set q1269 ⟨Nat.le_of_ble_eq_true rfl, Nat.le_of_ble_eq_true rfl⟩ [vi (sc (wr (x4 + 1)).toNat), vi (sc (wr (x4 + 2)).toNat)] rfl (fun l => c_X12_set_p4_0 l hk2 hc539) rfl (Nat.le_of_ble_eq_true rfl) (rfl : 1545 + 3 = 1548) (xdt tt_L_law13 58 rfl) ?_
  refine g_istore hC (by decide) (lv' := [(6, vi v541), (5, vi v535), (0, .ref b), (1, vr E r1 0), (2, vr E r2 0), (3, vr E r3 0), (4, vi x4)]) rfl (rfl : 1548 + 2 = 1550) (xdt tt_L_law13 59 rfl) ?_
  refine g_aload_n hC rfl 4 rfl (rfl : 1550 + 1 = 1551) (xdt tt_L_law14 0 rfl) ?_
  obtain ⟨v545, S544, hc543, h⟩ := bd2_i h
  refine g_lcallVi hC (lw_z0 hL (show m + 1 ≤ 512 by omega)) hk2 kclX12 ly4_0 m_X12_thrown q672 ⟨Nat.le_of_ble_eq_true rfl, Nat.le_of_ble_eq_true rfl⟩ [] rfl (fun l => c_X12_thrown_p4_0 l hk2 hc543) rfl (Nat.le_of_ble_eq_true rfl) (rfl : 1551 + 3 = 1554) (xdt tt_L_law14 1 rfl) ?_
  refine g_iload hC 1 rfl (rfl : 1554 + 2 = 1556) (xdt tt_L_law14 2 rfl) ?_
  refine g_icmp_eq hC (show ((1556 : Nat) : Int) + 5 = ((1561 : Nat) : Int) by decide) (rfl : 1556 + 3 = 1559) (xdt tt_L_law14 3 rfl) (fun hc549 => ?_) (fun hc549 => ?_)
  · replace h := (if_pos hc549).symm.trans h
    refine g_iload hC 1 rfl (rfl : 1561 + 2 = 1563) (xdt tt_L_law14 6 rfl) ?_
    refine g_if_ne hC (show ((1563 : Nat) : Int) + 15 = ((1578 : Nat) : Int) by decide) (rfl : 1563 + 3 = 1566) (xdt tt_L_law14 7 rfl) (fun hc548 => ?_) (fun hc548 => ?_)
    · replace h := (if_pos hc548).symm.trans h
      refine g_goto hC (show ((1578 : Nat) : Int) + 961 = ((2539 : Nat) : Int) by decide) (xdt tt_L_law14 17 rfl) ?_
      refine g_iinc hC 6 rfl (by decide) (lv' := [(4, vi (x4 + 6)), (6, vi v541), (5, vi v535), (0, .ref b), (1, vr E r1 0), (2, vr E r2 0), (3, vr E r3 0)]) rfl (rfl : 2539 + 3 = 2542) (xdt tt_L_law24 22 rfl) ?_
      refine g_goto hC (show ((2542 : Nat) : Int) + (-2519) = ((23 : Nat) : Int) by decide) (xdt tt_L_law24 23 rfl) ?_
      refine g_sub [3, 4, 5, 6, 0] (lv' := [(0, .ref b), (1, vr E r1 0), (2, vr E r2 0), (3, vr E r3 0), (4, vi (x4 + 6))]) rfl ?_
      exact hrec _ _ _ (m + 1) h (by omega) (by omega)
    · replace h := (if_neg hc548).symm.trans h
      refine g_aload_n hC rfl 5 rfl (rfl : 1566 + 1 = 1567) (xdt tt_L_law14 8 rfl) ?_
      refine g_iconst hC (rfl : 1567 + 1 = 1568) (xdt tt_L_law14 9 rfl) ?_
      refine g_lald hC hk3 ly5_0 (by decide) (rfl : 1568 + 1 = 1569) (xdt tt_L_law14 10 rfl) (k0 := 0) (by decide) ?_
      refine g_iload hC 0 rfl (rfl : 1569 + 2 = 1571) (xdt tt_L_law14 11 rfl) ?_
      refine g_i2l hC (rfl : 1571 + 1 = 1572) (xdt tt_L_law14 12 rfl) ?_
      refine g_lcmp hC (rfl : 1572 + 1 = 1573) (xdt tt_L_law14 13 rfl) ?_
      refine g_if_eq hC (show ((1573 : Nat) : Int) + 5 = ((1578 : Nat) : Int) by decide) (rfl : 1573 + 3 = 1576) (xdt tt_L_law14 14 rfl) (fun hc547 => ?_) (fun hc547 => ?_)
      · replace h := (if_pos hc547).symm.trans h
        refine g_goto hC (show ((1578 : Nat) : Int) + 961 = ((2539 : Nat) : Int) by decide) (xdt tt_L_law14 17 rfl) ?_
        refine g_iinc hC 6 rfl (by decide) (lv' := [(4, vi (x4 + 6)), (6, vi v541), (5, vi v535), (0, .ref b), (1, vr E r1 0), (2, vr E r2 0), (3, vr E r3 0)]) rfl (rfl : 2539 + 3 = 2542) (xdt tt_L_law24 22 rfl) ?_
        refine g_goto hC (show ((2542 : Nat) : Int) + (-2519) = ((23 : Nat) : Int) by decide) (xdt tt_L_law24 23 rfl) ?_
        refine g_sub [3, 4, 5, 6, 0] (lv' := [(0, .ref b), (1, vr E r1 0), (2, vr E r2 0), (3, vr E r3 0), (4, vi (x4 + 6))]) rfl ?_
        exact hrec _ _ _ (m + 1) h (by omega) (by omega)
      · replace h := (if_neg hc547).symm.trans h
        cases h
  · replace h := (if_neg hc549).symm.trans h
    cases h
set_option maxRecDepth 100000 in
set_option maxHeartbeats 4000000 in
theorem k_law_b1581 {K : xCtx} {E : xE} {b0 b1 b L : Nat} {sc : Nat → Int} {r1 r2 r3 : Nat} (hL : lwC K E b0 b1 b L sc) (hk1 : xkd E r1 = 3) (hA1 : xFam E r1) (hk2 : xkd E r2 = 4) (hk3 : xkd E r3 = 5) {c23 : xSt → Int → Option xSt} {x4 : Int} {m : Nat} (hm : x4 = 6 * (m : Int)) (hm2 : m < 512) {S S' : xSt} (hrec : ∀ (S S' : xSt) (z : Int) (k : Nat), c23 S z = some S' → z = 6 * (k : Int) → k ≤ 512 → WG (kc K b0 b1 k) E 23 [(0, .ref b), (1, vr E r1 0), (2, vr E r2 0), (3, vr E r3 0), (4, vi z)] [] S) (h : f_law_b1581 c23 r1 r2 r3 L sc S x4 = some S') : WG (kc K b0 b1 m) E 1581 [(0, .ref b), (1, vr E r1 0), (2, vr E r2 0), (3, vr E r3 0), (4, vi x4)] [] S := by
  unfold f_law_b1581 at h
  have hC := hL.1 m
  have hs := hL.2.1 m
  refine g_aload_n hC rfl 1 rfl (rfl : 1581 + 1 = 1582) (xdt tt_L_law14 18 rfl) ?_
  refine g_aload_n hC rfl 0 rfl (rfl : 1582 + 1 = 1583) (xdt tt_L_law14 19 rfl) ?_
  refine g_iload hC 4 rfl (rfl : 1583 + 2 = 1585) (xdt tt_L_law14 20 rfl) ?_
  refine g_iconst hC (rfl : 1585 + 1 = 1586) (xdt tt_L_law14 21 rfl) ?_
  refine g_iadd hC (rfl : 1586 + 1 = 1587) (xdt tt_L_law14 22 rfl) ?_
  obtain ⟨hi551, h⟩ := ckI_i h
  refine g_sld hC hs hi551 (rfl : 1587 + 1 = 1588) (xdt tt_L_law14 23 rfl) ?_
  refine g_aload_n hC rfl 0 rfl (rfl : 1588 + 1 = 1589) (xdt tt_L_law14 24 rfl) ?_
  refine g_iload hC 4 rfl (rfl : 1589 + 2 = 1591) (xdt tt_L_law14 25 rfl) ?_
  refine g_iconst hC (rfl : 1591 + 1 = 1592) (xdt tt_L_law14 26 rfl) ?_
  refine g_iadd hC (rfl : 1592 + 1 = 1593) (xdt tt_L_law14 27 rfl) ?_
  obtain ⟨hi552, h⟩ := ckI_i h
  refine g_sld hC hs hi552 (rfl : 1593 + 1 = 1594) (xdt tt_L_law14 28 rfl) ?_
  refine g_aload_n hC rfl 3 rfl (rfl : 1594 + 1 = 1595) (xdt tt_L_law14 29 rfl) ?_
  obtain ⟨v555, S554, hc553, h⟩ := bd2_i h
  refine g_lcallW hC (lw_z16 hL hm2) (lw_tr hL) mw_L_addRule q1278 ⟨Nat.le_of_ble_eq_true rfl, Nat.le_of_ble_eq_true rfl⟩ [vr E r1 0, vi (sc (wr (x4 + 1)).toNat), vi (sc (wr (x4 + 2)).toNat), vr E r3 0] rfl (fun l htr => c_L_addRule_p3_0_5_0 l htr hk1 hA1 hk3 hc553) rfl (Nat.le_of_ble_eq_true rfl) (xdt tt_L_law14 30 rfl) ?_
  rw [bump_kc]
  have hC := hL.1 (m + 1)
  have hs := hL.2.1 (m + 1)
  refine g_istore hC (by decide) (lv' := [(5, vi v555), (0, .ref b), (1, vr E r1 0), (2, vr E r2 0), (3, vr E r3 0), (4, vi x4)]) rfl (rfl : 1598 + 2 = 1600) (xdt tt_L_law14 31 rfl) ?_
  refine g_aload_n hC rfl 3 rfl (rfl : 1600 + 1 = 1601) (xdt tt_L_law14 32 rfl) ?_
  refine g_aload_n hC rfl 1 rfl (rfl : 1601 + 1 = 1602) (xdt tt_L_law14 33 rfl) ?_
  refine g_iload hC 5 rfl (rfl : 1602 + 2 = 1604) (xdt tt_L_law14 34 rfl) ?_
  refine g_iconst hC (rfl : 1604 + 1 = 1605) (xdt tt_L_law14 35 rfl) ?_
  refine g_iadd hC (rfl : 1605 + 1 = 1606) (xdt tt_L_law14 36 rfl) ?_
  obtain ⟨hi557, h⟩ := ckI_i h
  refine g_sld hC hs hi557 (rfl : 1606 + 1 = 1607) (xdt tt_L_law14 37 rfl) ?_
  refine g_aload_n hC rfl 1 rfl (rfl : 1607 + 1 = 1608) (xdt tt_L_law14 38 rfl) ?_
  refine g_iload hC 5 rfl (rfl : 1608 + 2 = 1610) (xdt tt_L_law14 39 rfl) ?_
  refine g_iconst hC (rfl : 1610 + 1 = 1611) (xdt tt_L_law14 40 rfl) ?_
  refine g_iadd hC (rfl : 1611 + 1 = 1612) (xdt tt_L_law14 41 rfl) ?_
  obtain ⟨hi558, h⟩ := ckI_i h
  refine g_sld hC hs hi558 (rfl : 1612 + 1 = 1613) (xdt tt_L_law14 42 rfl) ?_
  obtain ⟨v561, S560, hc559, h⟩ := bd2_i h
  refine g_lcallVi hC (lw_z0 hL (show m + 1 ≤ 512 by omega)) hk2 kclX12 ly4_0 m_X12_addRule q1293 ⟨Nat.le_of_ble_eq_true rfl, Nat.le_of_ble_eq_true rfl⟩ [vi (sc (wr (x4 + 1)).toNat), vi (sc (wr (x4 + 2)).toNat)] rfl (fun l => c_X12_addRule_p4_0 l hk2 hc559) rfl (Nat.le_of_ble_eq_true rfl) (rfl : 1613 + 3 = 1616) (xdt tt_L_law14 43 rfl) ?_
  refine g_istore hC (by decide) (lv' := [(6, vi v561), (5, vi v555), (0, .ref b), (1, vr E r1 0), (2, vr E r2 0), (3, vr E r3 0), (4, vi x4)]) rfl (rfl : 1616 + 2 = 1618) (xdt tt_L_law14 44 rfl) ?_
  refine g_aload_n hC rfl 4 rfl (rfl : 1618 + 1 = 1619) (xdt tt_L_law14 45 rfl) ?_
  obtain ⟨v565, S564, hc563, h⟩ := bd2_i h
  refine g_lcallVi hC (lw_z0 hL (show m + 1 ≤ 512 by omega)) hk2 kclX12 ly4_0 m_X12_thrown q672 ⟨Nat.le_of_ble_eq_true rfl, Nat.le_of_ble_eq_true rfl⟩ [] rfl (fun l => c_X12_thrown_p4_0 l hk2 hc563) rfl (Nat.le_of_ble_eq_true rfl) (rfl : 1619 + 3 = 1622) (xdt tt_L_law14 46 rfl) ?_
  refine g_iload hC 1 rfl (rfl : 1622 + 2 = 1624) (xdt tt_L_law14 47 rfl) ?_
  refine g_icmp_eq hC (show ((1624 : Nat) : Int) + 5 = ((1629 : Nat) : Int) by decide) (rfl : 1624 + 3 = 1627) (xdt tt_L_law14 48 rfl) (fun hc569 => ?_) (fun hc569 => ?_)
  · replace h := (if_pos hc569).symm.trans h
    refine g_iload hC 1 rfl (rfl : 1629 + 2 = 1631) (xdt tt_L_law14 51 rfl) ?_
    refine g_if_ne hC (show ((1631 : Nat) : Int) + 15 = ((1646 : Nat) : Int) by decide) (rfl : 1631 + 3 = 1634) (xdt tt_L_law14 52 rfl) (fun hc568 => ?_) (fun hc568 => ?_)
    · replace h := (if_pos hc568).symm.trans h
      refine g_goto hC (show ((1646 : Nat) : Int) + 893 = ((2539 : Nat) : Int) by decide) (xdt tt_L_law15 2 rfl) ?_
      refine g_iinc hC 6 rfl (by decide) (lv' := [(4, vi (x4 + 6)), (6, vi v561), (5, vi v555), (0, .ref b), (1, vr E r1 0), (2, vr E r2 0), (3, vr E r3 0)]) rfl (rfl : 2539 + 3 = 2542) (xdt tt_L_law24 22 rfl) ?_
      refine g_goto hC (show ((2542 : Nat) : Int) + (-2519) = ((23 : Nat) : Int) by decide) (xdt tt_L_law24 23 rfl) ?_
      refine g_sub [3, 4, 5, 6, 0] (lv' := [(0, .ref b), (1, vr E r1 0), (2, vr E r2 0), (3, vr E r3 0), (4, vi (x4 + 6))]) rfl ?_
      exact hrec _ _ _ (m + 1) h (by omega) (by omega)
    · replace h := (if_neg hc568).symm.trans h
      refine g_aload_n hC rfl 5 rfl (rfl : 1634 + 1 = 1635) (xdt tt_L_law14 53 rfl) ?_
      refine g_iconst hC (rfl : 1635 + 1 = 1636) (xdt tt_L_law14 54 rfl) ?_
      refine g_lald hC hk3 ly5_0 (by decide) (rfl : 1636 + 1 = 1637) (xdt tt_L_law14 55 rfl) (k0 := 0) (by decide) ?_
      refine g_iload hC 0 rfl (rfl : 1637 + 2 = 1639) (xdt tt_L_law14 56 rfl) ?_
      refine g_i2l hC (rfl : 1639 + 1 = 1640) (xdt tt_L_law14 57 rfl) ?_
      refine g_lcmp hC (rfl : 1640 + 1 = 1641) (xdt tt_L_law14 58 rfl) ?_
      refine g_if_eq hC (show ((1641 : Nat) : Int) + 5 = ((1646 : Nat) : Int) by decide) (rfl : 1641 + 3 = 1644) (xdt tt_L_law14 59 rfl) (fun hc567 => ?_) (fun hc567 => ?_)
      · replace h := (if_pos hc567).symm.trans h
        refine g_goto hC (show ((1646 : Nat) : Int) + 893 = ((2539 : Nat) : Int) by decide) (xdt tt_L_law15 2 rfl) ?_
        refine g_iinc hC 6 rfl (by decide) (lv' := [(4, vi (x4 + 6)), (6, vi v561), (5, vi v555), (0, .ref b), (1, vr E r1 0), (2, vr E r2 0), (3, vr E r3 0)]) rfl (rfl : 2539 + 3 = 2542) (xdt tt_L_law24 22 rfl) ?_
        refine g_goto hC (show ((2542 : Nat) : Int) + (-2519) = ((23 : Nat) : Int) by decide) (xdt tt_L_law24 23 rfl) ?_
        refine g_sub [3, 4, 5, 6, 0] (lv' := [(0, .ref b), (1, vr E r1 0), (2, vr E r2 0), (3, vr E r3 0), (4, vi (x4 + 6))]) rfl ?_
        exact hrec _ _ _ (m + 1) h (by omega) (by omega)
      · replace h := (if_neg hc567).symm.trans h
        cases h
  · replace h := (if_neg hc569).symm.trans h
    cases h
set_option maxRecDepth 100000 in
set_option maxHeartbeats 4000000 in
theorem k_law_b1649 {K : xCtx} {E : xE} {b0 b1 b L : Nat} {sc : Nat → Int} {r1 r2 r3 : Nat} (hL : lwC K E b0 b1 b L sc) (hk1 : xkd E r1 = 3) (hA1 : xFam E r1) (hk2 : xkd E r2 = 4) (hk3 : xkd E r3 = 5) {c23 : xSt → Int → Option xSt} {x4 : Int} {m : Nat} (hm : x4 = 6 * (m : Int)) (hm2 : m < 512) {S S' : xSt} (hrec : ∀ (S S' : xSt) (z : Int) (k : Nat), c23 S z = some S' → z = 6 * (k : Int) → k ≤ 512 → WG (kc K b0 b1 k) E 23 [(0, .ref b), (1, vr E r1 0), (2, vr E r2 0), (3, vr E r3 0), (4, vi z)] [] S) (h : f_law_b1649 c23 r1 r2 r3 L sc S x4 = some S') : WG (kc K b0 b1 m) E 1649 [(0, .ref b), (1, vr E r1 0), (2, vr E r2 0), (3, vr E r3 0), (4, vi x4)] [] S := by
  unfold f_law_b1649 at h
  have hC := hL.1 m
  have hs := hL.2.1 m
  refine g_aload_n hC rfl 1 rfl (rfl : 1649 + 1 = 1650) (xdt tt_L_law15 3 rfl) ?_
  refine g_aload_n hC rfl 0 rfl (rfl : 1650 + 1 = 1651) (xdt tt_L_law15 4 rfl) ?_
  refine g_iload hC 4 rfl (rfl : 1651 + 2 = 1653) (xdt tt_L_law15 5 rfl) ?_
  refine g_iconst hC (rfl : 1653 + 1 = 1654) (xdt tt_L_law15 6 rfl) ?_
  refine g_iadd hC (rfl : 1654 + 1 = 1655) (xdt tt_L_law15 7 rfl) ?_
  obtain ⟨hi571, h⟩ := ckI_i h
  refine g_sld hC hs hi571 (rfl : 1655 + 1 = 1656) (xdt tt_L_law15 8 rfl) ?_
  refine g_aload_n hC rfl 3 rfl (rfl : 1656 + 1 = 1657) (xdt tt_L_law15 9 rfl) ?_
  obtain ⟨v574, S573, hc572, h⟩ := bd2_i h
  refine g_lcallW hC (lw_z16 hL hm2) (lw_tr hL) mw_L_removeRule q1308 ⟨Nat.le_of_ble_eq_true rfl, Nat.le_of_ble_eq_true rfl⟩ [vr E r1 0, vi (sc (wr (x4 + 1)).toNat), vr E r3 0] rfl (fun l htr => c_L_removeRule_p3_0_5_0 l htr hk1 hA1 hk3 hc572) rfl (Nat.le_of_ble_eq_true rfl) (xdt tt_L_law15 10 rfl) ?_
  rw [bump_kc]
  have hC := hL.1 (m + 1)
  have hs := hL.2.1 (m + 1)
  refine g_istore hC (by decide) (lv' := [(5, vi v574), (0, .ref b), (1, vr E r1 0), (2, vr E r2 0), (3, vr E r3 0), (4, vi x4)]) rfl (rfl : 1660 + 2 = 1662) (xdt tt_L_law15 11 rfl) ?_
  refine g_aload_n hC rfl 3 rfl (rfl : 1662 + 1 = 1663) (xdt tt_L_law15 12 rfl) ?_
  refine g_aload_n hC rfl 1 rfl (rfl : 1663 + 1 = 1664) (xdt tt_L_law15 13 rfl) ?_
  refine g_iload hC 5 rfl (rfl : 1664 + 2 = 1666) (xdt tt_L_law15 14 rfl) ?_
  refine g_iconst hC (rfl : 1666 + 1 = 1667) (xdt tt_L_law15 15 rfl) ?_
  refine g_iadd hC (rfl : 1667 + 1 = 1668) (xdt tt_L_law15 16 rfl) ?_
  obtain ⟨hi576, h⟩ := ckI_i h
  refine g_sld hC hs hi576 (rfl : 1668 + 1 = 1669) (xdt tt_L_law15 17 rfl) ?_
  obtain ⟨v579, S578, hc577, h⟩ := bd2_i h
  refine g_lcallVi hC (lw_z0 hL (show m + 1 ≤ 512 by omega)) hk2 kclX12 ly4_0 m_X12_removeRule q1319 ⟨Nat.le_of_ble_eq_true rfl, Nat.le_of_ble_eq_true rfl⟩ [vi (sc (wr (x4 + 1)).toNat)] rfl (fun l => c_X12_removeRule_p4_0 l hk2 hc577) rfl (Nat.le_of_ble_eq_true rfl) (rfl : 1669 + 3 = 1672) (xdt tt_L_law15 18 rfl) ?_
  refine g_istore hC (by decide) (lv' := [(6, vi v579), (5, vi v574), (0, .ref b), (1, vr E r1 0), (2, vr E r2 0), (3, vr E r3 0), (4, vi x4)]) rfl (rfl : 1672 + 2 = 1674) (xdt tt_L_law15 19 rfl) ?_
  refine g_aload_n hC rfl 4 rfl (rfl : 1674 + 1 = 1675) (xdt tt_L_law15 20 rfl) ?_
  obtain ⟨v583, S582, hc581, h⟩ := bd2_i h
  refine g_lcallVi hC (lw_z0 hL (show m + 1 ≤ 512 by omega)) hk2 kclX12 ly4_0 m_X12_thrown q672 ⟨Nat.le_of_ble_eq_true rfl, Nat.le_of_ble_eq_true rfl⟩ [] rfl (fun l => c_X12_thrown_p4_0 l hk2 hc581) rfl (Nat.le_of_ble_eq_true rfl) (rfl : 1675 + 3 = 1678) (xdt tt_L_law15 21 rfl) ?_
  refine g_iload hC 1 rfl (rfl : 1678 + 2 = 1680) (xdt tt_L_law15 22 rfl) ?_
  refine g_icmp_eq hC (show ((1680 : Nat) : Int) + 5 = ((1685 : Nat) : Int) by decide) (rfl : 1680 + 3 = 1683) (xdt tt_L_law15 23 rfl) (fun hc587 => ?_) (fun hc587 => ?_)
  · replace h := (if_pos hc587).symm.trans h
    refine g_iload hC 1 rfl (rfl : 1685 + 2 = 1687) (xdt tt_L_law15 26 rfl) ?_
    refine g_if_ne hC (show ((1687 : Nat) : Int) + 15 = ((1702 : Nat) : Int) by decide) (rfl : 1687 + 3 = 1690) (xdt tt_L_law15 27 rfl) (fun hc586 => ?_) (fun hc586 => ?_)
    · replace h := (if_pos hc586).symm.trans h
      refine g_goto hC (show ((1702 : Nat) : Int) + 837 = ((2539 : Nat) : Int) by decide) (xdt tt_L_law15 37 rfl) ?_
      refine g_iinc hC 6 rfl (by decide) (lv' := [(4, vi (x4 + 6)), (6, vi v579), (5, vi v574), (0, .ref b), (1, vr E r1 0), (2, vr E r2 0), (3, vr E r3 0)]) rfl (rfl : 2539 + 3 = 2542) (xdt tt_L_law24 22 rfl) ?_
      refine g_goto hC (show ((2542 : Nat) : Int) + (-2519) = ((23 : Nat) : Int) by decide) (xdt tt_L_law24 23 rfl) ?_
      refine g_sub [3, 4, 5, 6, 0] (lv' := [(0, .ref b), (1, vr E r1 0), (2, vr E r2 0), (3, vr E r3 0), (4, vi (x4 + 6))]) rfl ?_
      exact hrec _ _ _ (m + 1) h (by omega) (by omega)
    · replace h := (if_neg hc586).symm.trans h
      refine g_aload_n hC rfl 5 rfl (rfl : 1690 + 1 = 1691) (xdt tt_L_law15 28 rfl) ?_
      refine g_iconst hC (rfl : 1691 + 1 = 1692) (xdt tt_L_law15 29 rfl) ?_
      refine g_lald hC hk3 ly5_0 (by decide) (rfl : 1692 + 1 = 1693) (xdt tt_L_law15 30 rfl) (k0 := 0) (by decide) ?_
      refine g_iload hC 0 rfl (rfl : 1693 + 2 = 1695) (xdt tt_L_law15 31 rfl) ?_
      refine g_i2l hC (rfl : 1695 + 1 = 1696) (xdt tt_L_law15 32 rfl) ?_
      refine g_lcmp hC (rfl : 1696 + 1 = 1697) (xdt tt_L_law15 33 rfl) ?_
      refine g_if_eq hC (show ((1697 : Nat) : Int) + 5 = ((1702 : Nat) : Int) by decide) (rfl : 1697 + 3 = 1700) (xdt tt_L_law15 34 rfl) (fun hc585 => ?_) (fun hc585 => ?_)
      · replace h := (if_pos hc585).symm.trans h
        refine g_goto hC (show ((1702 : Nat) : Int) + 837 = ((2539 : Nat) : Int) by decide) (xdt tt_L_law15 37 rfl) ?_
        refine g_iinc hC 6 rfl (by decide) (lv' := [(4, vi (x4 + 6)), (6, vi v579), (5, vi v574), (0, .ref b), (1, vr E r1 0), (2, vr E r2 0), (3, vr E r3 0)]) rfl (rfl : 2539 + 3 = 2542) (xdt tt_L_law24 22 rfl) ?_
        refine g_goto hC (show ((2542 : Nat) : Int) + (-2519) = ((23 : Nat) : Int) by decide) (xdt tt_L_law24 23 rfl) ?_
        refine g_sub [3, 4, 5, 6, 0] (lv' := [(0, .ref b), (1, vr E r1 0), (2, vr E r2 0), (3, vr E r3 0), (4, vi (x4 + 6))]) rfl ?_
        exact hrec _ _ _ (m + 1) h (by omega) (by omega)
      · replace h := (if_neg hc585).symm.trans h
        cases h
  · replace h := (if_neg hc587).symm.trans h
    cases h
set_option maxRecDepth 100000 in
set_option maxHeartbeats 4000000 in
theorem k_law_b1705 {K : xCtx} {E : xE} {b0 b1 b L : Nat} {sc : Nat → Int} {r1 r2 r3 : Nat} (hL : lwC K E b0 b1 b L sc) (hk1 : xkd E r1 = 3) (hA1 : xFam E r1) (hk2 : xkd E r2 = 4) (hk3 : xkd E r3 = 5) {c23 : xSt → Int → Option xSt} {x4 : Int} {m : Nat} (hm : x4 = 6 * (m : Int)) (hm2 : m < 512) {S S' : xSt} (hrec : ∀ (S S' : xSt) (z : Int) (k : Nat), c23 S z = some S' → z = 6 * (k : Int) → k ≤ 512 → WG (kc K b0 b1 k) E 23 [(0, .ref b), (1, vr E r1 0), (2, vr E r2 0), (3, vr E r3 0), (4, vi z)] [] S) (h : f_law_b1705 c23 r1 r2 r3 L sc S x4 = some S') : WG (kc K b0 b1 m) E 1705 [(0, .ref b), (1, vr E r1 0), (2, vr E r2 0), (3, vr E r3 0), (4, vi x4)] [] S := by
  unfold f_law_b1705 at h
  have hC := hL.1 m
  have hs := hL.2.1 m
  refine g_aload_n hC rfl 1 rfl (rfl : 1705 + 1 = 1706) (xdt tt_L_law15 38 rfl) ?_
  refine g_aload_n hC rfl 0 rfl (rfl : 1706 + 1 = 1707) (xdt tt_L_law15 39 rfl) ?_
  refine g_iload hC 4 rfl (rfl : 1707 + 2 = 1709) (xdt tt_L_law15 40 rfl) ?_
  refine g_iconst hC (rfl : 1709 + 1 = 1710) (xdt tt_L_law15 41 rfl) ?_
  refine g_iadd hC (rfl : 1710 + 1 = 1711) (xdt tt_L_law15 42 rfl) ?_
  obtain ⟨hi589, h⟩ := ckI_i h
  refine g_sld hC hs hi589 (rfl : 1711 + 1 = 1712) (xdt tt_L_law15 43 rfl) ?_
  refine g_aload_n hC rfl 3 rfl (rfl : 1712 + 1 = 1713) (xdt tt_L_law15 44 rfl) ?_
  obtain ⟨v592, S591, hc590, h⟩ := bd2_i h
  refine g_lcallW hC (lw_z16 hL hm2) (lw_tr hL) mw_L_redirect q1323 ⟨Nat.le_of_ble_eq_true rfl, Nat.le_of_ble_eq_true rfl⟩ [vr E r1 0, vi (sc (wr (x4 + 1)).toNat), vr E r3 0] rfl (fun l htr => c_L_redirect_p3_0_5_0 l htr hk1 hA1 hk3 hc590) rfl (Nat.le_of_ble_eq_true rfl) (xdt tt_L_law15 45 rfl) ?_
  rw [bump_kc]
  have hC := hL.1 (m + 1)
  have hs := hL.2.1 (m + 1)
  refine g_istore hC (by decide) (lv' := [(5, vi v592), (0, .ref b), (1, vr E r1 0), (2, vr E r2 0), (3, vr E r3 0), (4, vi x4)]) rfl (rfl : 1716 + 2 = 1718) (xdt tt_L_law15 46 rfl) ?_
  refine g_aload_n hC rfl 3 rfl (rfl : 1718 + 1 = 1719) (xdt tt_L_law15 47 rfl) ?_
  refine g_aload_n hC rfl 1 rfl (rfl : 1719 + 1 = 1720) (xdt tt_L_law15 48 rfl) ?_
  refine g_iload hC 5 rfl (rfl : 1720 + 2 = 1722) (xdt tt_L_law15 49 rfl) ?_
  refine g_iconst hC (rfl : 1722 + 1 = 1723) (xdt tt_L_law15 50 rfl) ?_
  refine g_iadd hC (rfl : 1723 + 1 = 1724) (xdt tt_L_law15 51 rfl) ?_
  obtain ⟨hi594, h⟩ := ckI_i h
  refine g_sld hC hs hi594 (rfl : 1724 + 1 = 1725) (xdt tt_L_law15 52 rfl) ?_
  obtain ⟨v597, S596, hc595, h⟩ := bd2_i h
  refine g_lcallVi hC (lw_z0 hL (show m + 1 ≤ 512 by omega)) hk2 kclX12 ly4_0 m_X12_redirect q1331 ⟨Nat.le_of_ble_eq_true rfl, Nat.le_of_ble_eq_true rfl⟩ [vi (sc (wr (x4 + 1)).toNat)] rfl (fun l => c_X12_redirect_p4_0 l hk2 hc595) rfl (Nat.le_of_ble_eq_true rfl) (rfl : 1725 + 3 = 1728) (xdt tt_L_law15 53 rfl) ?_
  refine g_istore hC (by decide) (lv' := [(6, vi v597), (5, vi v592), (0, .ref b), (1, vr E r1 0), (2, vr E r2 0), (3, vr E r3 0), (4, vi x4)]) rfl (rfl : 1728 + 2 = 1730) (xdt tt_L_law15 54 rfl) ?_
  refine g_aload_n hC rfl 4 rfl (rfl : 1730 + 1 = 1731) (xdt tt_L_law15 55 rfl) ?_
  obtain ⟨v601, S600, hc599, h⟩ := bd2_i h
  refine g_lcallVi hC (lw_z0 hL (show m + 1 ≤ 512 by omega)) hk2 kclX12 ly4_0 m_X12_thrown q672 ⟨Nat.le_of_ble_eq_true rfl, Nat.le_of_ble_eq_true rfl⟩ [] rfl (fun l => c_X12_thrown_p4_0 l hk2 hc599) rfl (Nat.le_of_ble_eq_true rfl) (rfl : 1731 + 3 = 1734) (xdt tt_L_law15 56 rfl) ?_
  refine g_iload hC 1 rfl (rfl : 1734 + 2 = 1736) (xdt tt_L_law15 57 rfl) ?_
  refine g_icmp_eq hC (show ((1736 : Nat) : Int) + 5 = ((1741 : Nat) : Int) by decide) (rfl : 1736 + 3 = 1739) (xdt tt_L_law15 58 rfl) (fun hc605 => ?_) (fun hc605 => ?_)
  · replace h := (if_pos hc605).symm.trans h
    refine g_iload hC 1 rfl (rfl : 1741 + 2 = 1743) (xdt tt_L_law16 1 rfl) ?_
    refine g_if_ne hC (show ((1743 : Nat) : Int) + 15 = ((1758 : Nat) : Int) by decide) (rfl : 1743 + 3 = 1746) (xdt tt_L_law16 2 rfl) (fun hc604 => ?_) (fun hc604 => ?_)
    · replace h := (if_pos hc604).symm.trans h
      refine g_goto hC (show ((1758 : Nat) : Int) + 781 = ((2539 : Nat) : Int) by decide) (xdt tt_L_law16 12 rfl) ?_
      refine g_iinc hC 6 rfl (by decide) (lv' := [(4, vi (x4 + 6)), (6, vi v597), (5, vi v592), (0, .ref b), (1, vr E r1 0), (2, vr E r2 0), (3, vr E r3 0)]) rfl (rfl : 2539 + 3 = 2542) (xdt tt_L_law24 22 rfl) ?_
      refine g_goto hC (show ((2542 : Nat) : Int) + (-2519) = ((23 : Nat) : Int) by decide) (xdt tt_L_law24 23 rfl) ?_
      refine g_sub [3, 4, 5, 6, 0] (lv' := [(0, .ref b), (1, vr E r1 0), (2, vr E r2 0), (3, vr E r3 0), (4, vi (x4 + 6))]) rfl ?_
      exact hrec _ _ _ (m + 1) h (by omega) (by omega)
    · replace h := (if_neg hc604).symm.trans h
      refine g_aload_n hC rfl 5 rfl (rfl : 1746 + 1 = 1747) (xdt tt_L_law16 3 rfl) ?_
      refine g_iconst hC (rfl : 1747 + 1 = 1748) (xdt tt_L_law16 4 rfl) ?_
      refine g_lald hC hk3 ly5_0 (by decide) (rfl : 1748 + 1 = 1749) (xdt tt_L_law16 5 rfl) (k0 := 0) (by decide) ?_
      refine g_iload hC 0 rfl (rfl : 1749 + 2 = 1751) (xdt tt_L_law16 6 rfl) ?_
      refine g_i2l hC (rfl : 1751 + 1 = 1752) (xdt tt_L_law16 7 rfl) ?_
      refine g_lcmp hC (rfl : 1752 + 1 = 1753) (xdt tt_L_law16 8 rfl) ?_
      refine g_if_eq hC (show ((1753 : Nat) : Int) + 5 = ((1758 : Nat) : Int) by decide) (rfl : 1753 + 3 = 1756) (xdt tt_L_law16 9 rfl) (fun hc603 => ?_) (fun hc603 => ?_)
      · replace h := (if_pos hc603).symm.trans h
        refine g_goto hC (show ((1758 : Nat) : Int) + 781 = ((2539 : Nat) : Int) by decide) (xdt tt_L_law16 12 rfl) ?_
        refine g_iinc hC 6 rfl (by decide) (lv' := [(4, vi (x4 + 6)), (6, vi v597), (5, vi v592), (0, .ref b), (1, vr E r1 0), (2, vr E r2 0), (3, vr E r3 0)]) rfl (rfl : 2539 + 3 = 2542) (xdt tt_L_law24 22 rfl) ?_
        refine g_goto hC (show ((2542 : Nat) : Int) + (-2519) = ((23 : Nat) : Int) by decide) (xdt tt_L_law24 23 rfl) ?_
        refine g_sub [3, 4, 5, 6, 0] (lv' := [(0, .ref b), (1, vr E r1 0), (2, vr E r2 0), (3, vr E r3 0), (4, vi (x4 + 6))]) rfl ?_
        exact hrec _ _ _ (m + 1) h (by omega) (by omega)
      · replace h := (if_neg hc603).symm.trans h
        cases h
  · replace h := (if_neg hc605).symm.trans h
    cases h
set_option maxRecDepth 100000 in
set_option maxHeartbeats 4000000 in
theorem k_law_b1761 {K : xCtx} {E : xE} {b0 b1 b L : Nat} {sc : Nat → Int} {r1 r2 r3 : Nat} (hL : lwC K E b0 b1 b L sc) (hk1 : xkd E r1 = 3) (hA1 : xFam E r1) (hk2 : xkd E r2 = 4) (hk3 : xkd E r3 = 5) {c23 : xSt → Int → Option xSt} {x4 : Int} {m : Nat} (hm : x4 = 6 * (m : Int)) (hm2 : m < 512) {S S' : xSt} (hrec : ∀ (S S' : xSt) (z : Int) (k : Nat), c23 S z = some S' → z = 6 * (k : Int) → k ≤ 512 → WG (kc K b0 b1 k) E 23 [(0, .ref b), (1, vr E r1 0), (2, vr E r2 0), (3, vr E r3 0), (4, vi z)] [] S) (h : f_law_b1761 c23 r1 r2 r3 L sc S x4 = some S') : WG (kc K b0 b1 m) E 1761 [(0, .ref b), (1, vr E r1 0), (2, vr E r2 0), (3, vr E r3 0), (4, vi x4)] [] S := by
  unfold f_law_b1761 at h
  have hC := hL.1 m
  have hs := hL.2.1 m
  refine g_aload_n hC rfl 1 rfl (rfl : 1761 + 1 = 1762) (xdt tt_L_law16 13 rfl) ?_
  refine g_aload_n hC rfl 3 rfl (rfl : 1762 + 1 = 1763) (xdt tt_L_law16 14 rfl) ?_
  obtain ⟨v609, S608, hc607, h⟩ := bd2_i h
  refine g_lcallW hC (lw_z16 hL hm2) (lw_tr hL) mw_L_undo q1335 ⟨Nat.le_of_ble_eq_true rfl, Nat.le_of_ble_eq_true rfl⟩ [vr E r1 0, vr E r3 0] rfl (fun l htr => c_L_undo_p3_0_5_0 l htr hk1 hA1 hk3 hc607) rfl (Nat.le_of_ble_eq_true rfl) (xdt tt_L_law16 15 rfl) ?_
  rw [bump_kc]
  have hC := hL.1 (m + 1)
  have hs := hL.2.1 (m + 1)
  refine g_istore hC (by decide) (lv' := [(5, vi v609), (0, .ref b), (1, vr E r1 0), (2, vr E r2 0), (3, vr E r3 0), (4, vi x4)]) rfl (rfl : 1766 + 2 = 1768) (xdt tt_L_law16 16 rfl) ?_
  refine g_aload_n hC rfl 3 rfl (rfl : 1768 + 1 = 1769) (xdt tt_L_law16 17 rfl) ?_
  obtain ⟨v613, S612, hc611, h⟩ := bd2_i h
  refine g_lcallVi hC (lw_z0 hL (show m + 1 ≤ 512 by omega)) hk2 kclX12 ly4_0 m_X12_undo q1346 ⟨Nat.le_of_ble_eq_true rfl, Nat.le_of_ble_eq_true rfl⟩ [] rfl (fun l => c_X12_undo_p4_0 l hk2 hc611) rfl (Nat.le_of_ble_eq_true rfl) (rfl : 1769 + 3 = 1772) (xdt tt_L_law16 18 rfl) ?_
  refine g_istore hC (by decide) (lv' := [(6, vi v613), (5, vi v609), (0, .ref b), (1, vr E r1 0), (2, vr E r2 0), (3, vr E r3 0), (4, vi x4)]) rfl (rfl : 1772 + 2 = 1774) (xdt tt_L_law16 19 rfl) ?_
  refine g_aload_n hC rfl 4 rfl (rfl : 1774 + 1 = 1775) (xdt tt_L_law16 20 rfl) ?_
  obtain ⟨v617, S616, hc615, h⟩ := bd2_i h
  refine g_lcallVi hC (lw_z0 hL (show m + 1 ≤ 512 by omega)) hk2 kclX12 ly4_0 m_X12_thrown q672 ⟨Nat.le_of_ble_eq_true rfl, Nat.le_of_ble_eq_true rfl⟩ [] rfl (fun l => c_X12_thrown_p4_0 l hk2 hc615) rfl (Nat.le_of_ble_eq_true rfl) (rfl : 1775 + 3 = 1778) (xdt tt_L_law16 21 rfl) ?_
  refine g_iload hC 1 rfl (rfl : 1778 + 2 = 1780) (xdt tt_L_law16 22 rfl) ?_
  refine g_icmp_eq hC (show ((1780 : Nat) : Int) + 5 = ((1785 : Nat) : Int) by decide) (rfl : 1780 + 3 = 1783) (xdt tt_L_law16 23 rfl) (fun hc621 => ?_) (fun hc621 => ?_)
  · replace h := (if_pos hc621).symm.trans h
    refine g_iload hC 1 rfl (rfl : 1785 + 2 = 1787) (xdt tt_L_law16 26 rfl) ?_
    refine g_if_ne hC (show ((1787 : Nat) : Int) + 15 = ((1802 : Nat) : Int) by decide) (rfl : 1787 + 3 = 1790) (xdt tt_L_law16 27 rfl) (fun hc620 => ?_) (fun hc620 => ?_)
    · replace h := (if_pos hc620).symm.trans h
      refine g_goto hC (show ((1802 : Nat) : Int) + 737 = ((2539 : Nat) : Int) by decide) (xdt tt_L_law16 37 rfl) ?_
      refine g_iinc hC 6 rfl (by decide) (lv' := [(4, vi (x4 + 6)), (6, vi v613), (5, vi v609), (0, .ref b), (1, vr E r1 0), (2, vr E r2 0), (3, vr E r3 0)]) rfl (rfl : 2539 + 3 = 2542) (xdt tt_L_law24 22 rfl) ?_
      refine g_goto hC (show ((2542 : Nat) : Int) + (-2519) = ((23 : Nat) : Int) by decide) (xdt tt_L_law24 23 rfl) ?_
      refine g_sub [3, 4, 5, 6, 0] (lv' := [(0, .ref b), (1, vr E r1 0), (2, vr E r2 0), (3, vr E r3 0), (4, vi (x4 + 6))]) rfl ?_
      exact hrec _ _ _ (m + 1) h (by omega) (by omega)
    · replace h := (if_neg hc620).symm.trans h
      refine g_aload_n hC rfl 5 rfl (rfl : 1790 + 1 = 1791) (xdt tt_L_law16 28 rfl) ?_
      refine g_iconst hC (rfl : 1791 + 1 = 1792) (xdt tt_L_law16 29 rfl) ?_
      refine g_lald hC hk3 ly5_0 (by decide) (rfl : 1792 + 1 = 1793) (xdt tt_L_law16 30 rfl) (k0 := 0) (by decide) ?_
      refine g_iload hC 0 rfl (rfl : 1793 + 2 = 1795) (xdt tt_L_law16 31 rfl) ?_
      refine g_i2l hC (rfl : 1795 + 1 = 1796) (xdt tt_L_law16 32 rfl) ?_
      refine g_lcmp hC (rfl : 1796 + 1 = 1797) (xdt tt_L_law16 33 rfl) ?_
      refine g_if_eq hC (show ((1797 : Nat) : Int) + 5 = ((1802 : Nat) : Int) by decide) (rfl : 1797 + 3 = 1800) (xdt tt_L_law16 34 rfl) (fun hc619 => ?_) (fun hc619 => ?_)
      · replace h := (if_pos hc619).symm.trans h
        refine g_goto hC (show ((1802 : Nat) : Int) + 737 = ((2539 : Nat) : Int) by decide) (xdt tt_L_law16 37 rfl) ?_
        refine g_iinc hC 6 rfl (by decide) (lv' := [(4, vi (x4 + 6)), (6, vi v613), (5, vi v609), (0, .ref b), (1, vr E r1 0), (2, vr E r2 0), (3, vr E r3 0)]) rfl (rfl : 2539 + 3 = 2542) (xdt tt_L_law24 22 rfl) ?_
        refine g_goto hC (show ((2542 : Nat) : Int) + (-2519) = ((23 : Nat) : Int) by decide) (xdt tt_L_law24 23 rfl) ?_
        refine g_sub [3, 4, 5, 6, 0] (lv' := [(0, .ref b), (1, vr E r1 0), (2, vr E r2 0), (3, vr E r3 0), (4, vi (x4 + 6))]) rfl ?_
        exact hrec _ _ _ (m + 1) h (by omega) (by omega)
      · replace h := (if_neg hc619).symm.trans h
        cases h
  · replace h := (if_neg hc621).symm.trans h
    cases h
set_option maxRecDepth 100000 in
set_option maxHeartbeats 4000000 in
theorem k_law_b1805 {K : xCtx} {E : xE} {b0 b1 b L : Nat} {sc : Nat → Int} {r1 r2 r3 : Nat} (hL : lwC K E b0 b1 b L sc) (hk1 : xkd E r1 = 3) (hA1 : xFam E r1) (hk2 : xkd E r2 = 4) (hk3 : xkd E r3 = 5) {c23 : xSt → Int → Option xSt} {x4 : Int} {m : Nat} (hm : x4 = 6 * (m : Int)) (hm2 : m < 512) {S S' : xSt} (hrec : ∀ (S S' : xSt) (z : Int) (k : Nat), c23 S z = some S' → z = 6 * (k : Int) → k ≤ 512 → WG (kc K b0 b1 k) E 23 [(0, .ref b), (1, vr E r1 0), (2, vr E r2 0), (3, vr E r3 0), (4, vi z)] [] S) (h : f_law_b1805 c23 r1 r2 r3 L sc S x4 = some S') : WG (kc K b0 b1 m) E 1805 [(0, .ref b), (1, vr E r1 0), (2, vr E r2 0), (3, vr E r3 0), (4, vi x4)] [] S := by
  unfold f_law_b1805 at h
  have hC := hL.1 m
  have hs := hL.2.1 m
  refine g_aload_n hC rfl 1 rfl (rfl : 1805 + 1 = 1806) (xdt tt_L_law16 38 rfl) ?_
  refine g_aload_n hC rfl 0 rfl (rfl : 1806 + 1 = 1807) (xdt tt_L_law16 39 rfl) ?_
  refine g_iload hC 4 rfl (rfl : 1807 + 2 = 1809) (xdt tt_L_law16 40 rfl) ?_
  refine g_iconst hC (rfl : 1809 + 1 = 1810) (xdt tt_L_law16 41 rfl) ?_
  refine g_iadd hC (rfl : 1810 + 1 = 1811) (xdt tt_L_law16 42 rfl) ?_
  obtain ⟨hi623, h⟩ := ckI_i h
  refine g_sld hC hs hi623 (rfl : 1811 + 1 = 1812) (xdt tt_L_law16 43 rfl) ?_
  refine g_aload_n hC rfl 3 rfl (rfl : 1812 + 1 = 1813) (xdt tt_L_law16 44 rfl) ?_
  obtain ⟨v626, S625, hc624, h⟩ := bd2_i h
  refine g_lcallW hC (lw_z16 hL hm2) (lw_tr hL) mw_L_cyclesTo q1350 ⟨Nat.le_of_ble_eq_true rfl, Nat.le_of_ble_eq_true rfl⟩ [vr E r1 0, vi (sc (wr (x4 + 1)).toNat), vr E r3 0] rfl (fun l htr => c_L_cyclesTo_p3_0_5_0 l htr hk1 hA1 hk3 hc624) rfl (Nat.le_of_ble_eq_true rfl) (xdt tt_L_law16 45 rfl) ?_
  rw [bump_kc]
  have hC := hL.1 (m + 1)
  have hs := hL.2.1 (m + 1)
  refine g_istore hC (by decide) (lv' := [(5, vi v626), (0, .ref b), (1, vr E r1 0), (2, vr E r2 0), (3, vr E r3 0), (4, vi x4)]) rfl (rfl : 1816 + 2 = 1818) (xdt tt_L_law16 46 rfl) ?_
  refine g_aload_n hC rfl 3 rfl (rfl : 1818 + 1 = 1819) (xdt tt_L_law16 47 rfl) ?_
  refine g_aload_n hC rfl 1 rfl (rfl : 1819 + 1 = 1820) (xdt tt_L_law16 48 rfl) ?_
  refine g_iload hC 5 rfl (rfl : 1820 + 2 = 1822) (xdt tt_L_law16 49 rfl) ?_
  refine g_iconst hC (rfl : 1822 + 1 = 1823) (xdt tt_L_law16 50 rfl) ?_
  refine g_iadd hC (rfl : 1823 + 1 = 1824) (xdt tt_L_law16 51 rfl) ?_
  obtain ⟨hi628, h⟩ := ckI_i h
  refine g_sld hC hs hi628 (rfl : 1824 + 1 = 1825) (xdt tt_L_law16 52 rfl) ?_
  obtain ⟨v631, S630, hc629, h⟩ := bd2_i h
  refine g_lcallVi hC (lw_z0 hL (show m + 1 ≤ 512 by omega)) hk2 kclX12 ly4_0 m_X12_cyclesTo q1358 ⟨Nat.le_of_ble_eq_true rfl, Nat.le_of_ble_eq_true rfl⟩ [vi (sc (wr (x4 + 1)).toNat)] rfl (fun l => c_X12_cyclesTo_p4_0 l hk2 hc629) rfl (Nat.le_of_ble_eq_true rfl) (rfl : 1825 + 3 = 1828) (xdt tt_L_law16 53 rfl) ?_
  refine g_istore hC (by decide) (lv' := [(6, vi v631), (5, vi v626), (0, .ref b), (1, vr E r1 0), (2, vr E r2 0), (3, vr E r3 0), (4, vi x4)]) rfl (rfl : 1828 + 2 = 1830) (xdt tt_L_law16 54 rfl) ?_
  refine g_aload_n hC rfl 4 rfl (rfl : 1830 + 1 = 1831) (xdt tt_L_law16 55 rfl) ?_
  obtain ⟨v635, S634, hc633, h⟩ := bd2_i h
  refine g_lcallVi hC (lw_z0 hL (show m + 1 ≤ 512 by omega)) hk2 kclX12 ly4_0 m_X12_thrown q672 ⟨Nat.le_of_ble_eq_true rfl, Nat.le_of_ble_eq_true rfl⟩ [] rfl (fun l => c_X12_thrown_p4_0 l hk2 hc633) rfl (Nat.le_of_ble_eq_true rfl) (rfl : 1831 + 3 = 1834) (xdt tt_L_law16 56 rfl) ?_
  refine g_iload hC 1 rfl (rfl : 1834 + 2 = 1836) (xdt tt_L_law16 57 rfl) ?_
  refine g_icmp_eq hC (show ((1836 : Nat) : Int) + 5 = ((1841 : Nat) : Int) by decide) (rfl : 1836 + 3 = 1839) (xdt tt_L_law16 58 rfl) (fun hc639 => ?_) (fun hc639 => ?_)
  · replace h := (if_pos hc639).symm.trans h
    refine g_iload hC 1 rfl (rfl : 1841 + 2 = 1843) (xdt tt_L_law17 1 rfl) ?_
    refine g_if_ne hC (show ((1843 : Nat) : Int) + 15 = ((1858 : Nat) : Int) by decide) (rfl : 1843 + 3 = 1846) (xdt tt_L_law17 2 rfl) (fun hc638 => ?_) (fun hc638 => ?_)
    · replace h := (if_pos hc638).symm.trans h
      refine g_goto hC (show ((1858 : Nat) : Int) + 681 = ((2539 : Nat) : Int) by decide) (xdt tt_L_law17 12 rfl) ?_
      refine g_iinc hC 6 rfl (by decide) (lv' := [(4, vi (x4 + 6)), (6, vi v631), (5, vi v626), (0, .ref b), (1, vr E r1 0), (2, vr E r2 0), (3, vr E r3 0)]) rfl (rfl : 2539 + 3 = 2542) (xdt tt_L_law24 22 rfl) ?_
      refine g_goto hC (show ((2542 : Nat) : Int) + (-2519) = ((23 : Nat) : Int) by decide) (xdt tt_L_law24 23 rfl) ?_
      refine g_sub [3, 4, 5, 6, 0] (lv' := [(0, .ref b), (1, vr E r1 0), (2, vr E r2 0), (3, vr E r3 0), (4, vi (x4 + 6))]) rfl ?_
      exact hrec _ _ _ (m + 1) h (by omega) (by omega)
    · replace h := (if_neg hc638).symm.trans h
      refine g_aload_n hC rfl 5 rfl (rfl : 1846 + 1 = 1847) (xdt tt_L_law17 3 rfl) ?_
      refine g_iconst hC (rfl : 1847 + 1 = 1848) (xdt tt_L_law17 4 rfl) ?_
      refine g_lald hC hk3 ly5_0 (by decide) (rfl : 1848 + 1 = 1849) (xdt tt_L_law17 5 rfl) (k0 := 0) (by decide) ?_
      refine g_iload hC 0 rfl (rfl : 1849 + 2 = 1851) (xdt tt_L_law17 6 rfl) ?_
      refine g_i2l hC (rfl : 1851 + 1 = 1852) (xdt tt_L_law17 7 rfl) ?_
      refine g_lcmp hC (rfl : 1852 + 1 = 1853) (xdt tt_L_law17 8 rfl) ?_
      refine g_if_eq hC (show ((1853 : Nat) : Int) + 5 = ((1858 : Nat) : Int) by decide) (rfl : 1853 + 3 = 1856) (xdt tt_L_law17 9 rfl) (fun hc637 => ?_) (fun hc637 => ?_)
      · replace h := (if_pos hc637).symm.trans h
        refine g_goto hC (show ((1858 : Nat) : Int) + 681 = ((2539 : Nat) : Int) by decide) (xdt tt_L_law17 12 rfl) ?_
        refine g_iinc hC 6 rfl (by decide) (lv' := [(4, vi (x4 + 6)), (6, vi v631), (5, vi v626), (0, .ref b), (1, vr E r1 0), (2, vr E r2 0), (3, vr E r3 0)]) rfl (rfl : 2539 + 3 = 2542) (xdt tt_L_law24 22 rfl) ?_
        refine g_goto hC (show ((2542 : Nat) : Int) + (-2519) = ((23 : Nat) : Int) by decide) (xdt tt_L_law24 23 rfl) ?_
        refine g_sub [3, 4, 5, 6, 0] (lv' := [(0, .ref b), (1, vr E r1 0), (2, vr E r2 0), (3, vr E r3 0), (4, vi (x4 + 6))]) rfl ?_
        exact hrec _ _ _ (m + 1) h (by omega) (by omega)
      · replace h := (if_neg hc637).symm.trans h
        cases h
  · replace h := (if_neg hc639).symm.trans h
    cases h
set_option maxRecDepth 100000 in
set_option maxHeartbeats 4000000 in
theorem k_law_b1861 {K : xCtx} {E : xE} {b0 b1 b L : Nat} {sc : Nat → Int} {r1 r2 r3 : Nat} (hL : lwC K E b0 b1 b L sc) (hk1 : xkd E r1 = 3) (hA1 : xFam E r1) (hk2 : xkd E r2 = 4) (hk3 : xkd E r3 = 5) {c23 : xSt → Int → Option xSt} {x4 : Int} {m : Nat} (hm : x4 = 6 * (m : Int)) (hm2 : m < 512) {S S' : xSt} (hrec : ∀ (S S' : xSt) (z : Int) (k : Nat), c23 S z = some S' → z = 6 * (k : Int) → k ≤ 512 → WG (kc K b0 b1 k) E 23 [(0, .ref b), (1, vr E r1 0), (2, vr E r2 0), (3, vr E r3 0), (4, vi z)] [] S) (h : f_law_b1861 c23 r1 r2 r3 L sc S x4 = some S') : WG (kc K b0 b1 m) E 1861 [(0, .ref b), (1, vr E r1 0), (2, vr E r2 0), (3, vr E r3 0), (4, vi x4)] [] S := by
  unfold f_law_b1861 at h
  have hC := hL.1 m
  have hs := hL.2.1 m
  refine g_aload_n hC rfl 1 rfl (rfl : 1861 + 1 = 1862) (xdt tt_L_law17 13 rfl) ?_
  refine g_aload_n hC rfl 0 rfl (rfl : 1862 + 1 = 1863) (xdt tt_L_law17 14 rfl) ?_
  refine g_iload hC 4 rfl (rfl : 1863 + 2 = 1865) (xdt tt_L_law17 15 rfl) ?_
  refine g_iconst hC (rfl : 1865 + 1 = 1866) (xdt tt_L_law17 16 rfl) ?_
  refine g_iadd hC (rfl : 1866 + 1 = 1867) (xdt tt_L_law17 17 rfl) ?_
  obtain ⟨hi641, h⟩ := ckI_i h
  refine g_sld hC hs hi641 (rfl : 1867 + 1 = 1868) (xdt tt_L_law17 18 rfl) ?_
  refine g_aload_n hC rfl 3 rfl (rfl : 1868 + 1 = 1869) (xdt tt_L_law17 19 rfl) ?_
  obtain ⟨v644, S643, hc642, h⟩ := bd2_i h
  refine g_lcallW hC (lw_z16 hL hm2) (lw_tr hL) mw_L_nextBubbles q1371 ⟨Nat.le_of_ble_eq_true rfl, Nat.le_of_ble_eq_true rfl⟩ [vr E r1 0, vi (sc (wr (x4 + 1)).toNat), vr E r3 0] rfl (fun l htr => c_L_nextBubbles_p3_0_5_0 l htr hk1 hA1 hk3 hc642) rfl (Nat.le_of_ble_eq_true rfl) (xdt tt_L_law17 20 rfl) ?_
  rw [bump_kc]
  have hC := hL.1 (m + 1)
  have hs := hL.2.1 (m + 1)
  refine g_istore hC (by decide) (lv' := [(5, vi v644), (0, .ref b), (1, vr E r1 0), (2, vr E r2 0), (3, vr E r3 0), (4, vi x4)]) rfl (rfl : 1872 + 2 = 1874) (xdt tt_L_law17 21 rfl) ?_
  refine g_aload_n hC rfl 3 rfl (rfl : 1874 + 1 = 1875) (xdt tt_L_law17 22 rfl) ?_
  refine g_aload_n hC rfl 1 rfl (rfl : 1875 + 1 = 1876) (xdt tt_L_law17 23 rfl) ?_
  refine g_iload hC 5 rfl (rfl : 1876 + 2 = 1878) (xdt tt_L_law17 24 rfl) ?_
  refine g_iconst hC (rfl : 1878 + 1 = 1879) (xdt tt_L_law17 25 rfl) ?_
  refine g_iadd hC (rfl : 1879 + 1 = 1880) (xdt tt_L_law17 26 rfl) ?_
  obtain ⟨hi646, h⟩ := ckI_i h
  refine g_sld hC hs hi646 (rfl : 1880 + 1 = 1881) (xdt tt_L_law17 27 rfl) ?_
  obtain ⟨v649, S648, hc647, h⟩ := bd2_i h
  refine g_lcallVi hC (lw_z0 hL (show m + 1 ≤ 512 by omega)) hk2 kclX12 ly4_0 m_X12_nextBubbles q1378 ⟨Nat.le_of_ble_eq_true rfl, Nat.le_of_ble_eq_true rfl⟩ [vi (sc (wr (x4 + 1)).toNat)] rfl (fun l => c_X12_nextBubbles_p4_0 l hk2 hc647) rfl (Nat.le_of_ble_eq_true rfl) (rfl : 1881 + 3 = 1884) (xdt tt_L_law17 28 rfl) ?_
  refine g_istore hC (by decide) (lv' := [(6, vi v649), (5, vi v644), (0, .ref b), (1, vr E r1 0), (2, vr E r2 0), (3, vr E r3 0), (4, vi x4)]) rfl (rfl : 1884 + 2 = 1886) (xdt tt_L_law17 29 rfl) ?_
  refine g_aload_n hC rfl 4 rfl (rfl : 1886 + 1 = 1887) (xdt tt_L_law17 30 rfl) ?_
  obtain ⟨v653, S652, hc651, h⟩ := bd2_i h
  refine g_lcallVi hC (lw_z0 hL (show m + 1 ≤ 512 by omega)) hk2 kclX12 ly4_0 m_X12_thrown q672 ⟨Nat.le_of_ble_eq_true rfl, Nat.le_of_ble_eq_true rfl⟩ [] rfl (fun l => c_X12_thrown_p4_0 l hk2 hc651) rfl (Nat.le_of_ble_eq_true rfl) (rfl : 1887 + 3 = 1890) (xdt tt_L_law17 31 rfl) ?_
  refine g_iload hC 1 rfl (rfl : 1890 + 2 = 1892) (xdt tt_L_law17 32 rfl) ?_
  refine g_icmp_eq hC (show ((1892 : Nat) : Int) + 5 = ((1897 : Nat) : Int) by decide) (rfl : 1892 + 3 = 1895) (xdt tt_L_law17 33 rfl) (fun hc657 => ?_) (fun hc657 => ?_)
  · replace h := (if_pos hc657).symm.trans h
    refine g_iload hC 1 rfl (rfl : 1897 + 2 = 1899) (xdt tt_L_law17 36 rfl) ?_
    refine g_if_ne hC (show ((1899 : Nat) : Int) + 15 = ((1914 : Nat) : Int) by decide) (rfl : 1899 + 3 = 1902) (xdt tt_L_law17 37 rfl) (fun hc656 => ?_) (fun hc656 => ?_)
    · replace h := (if_pos hc656).symm.trans h
      refine g_goto hC (show ((1914 : Nat) : Int) + 625 = ((2539 : Nat) : Int) by decide) (xdt tt_L_law17 47 rfl) ?_
      refine g_iinc hC 6 rfl (by decide) (lv' := [(4, vi (x4 + 6)), (6, vi v649), (5, vi v644), (0, .ref b), (1, vr E r1 0), (2, vr E r2 0), (3, vr E r3 0)]) rfl (rfl : 2539 + 3 = 2542) (xdt tt_L_law24 22 rfl) ?_
      refine g_goto hC (show ((2542 : Nat) : Int) + (-2519) = ((23 : Nat) : Int) by decide) (xdt tt_L_law24 23 rfl) ?_
      refine g_sub [3, 4, 5, 6, 0] (lv' := [(0, .ref b), (1, vr E r1 0), (2, vr E r2 0), (3, vr E r3 0), (4, vi (x4 + 6))]) rfl ?_
      exact hrec _ _ _ (m + 1) h (by omega) (by omega)
    · replace h := (if_neg hc656).symm.trans h
      refine g_aload_n hC rfl 5 rfl (rfl : 1902 + 1 = 1903) (xdt tt_L_law17 38 rfl) ?_
      refine g_iconst hC (rfl : 1903 + 1 = 1904) (xdt tt_L_law17 39 rfl) ?_
      refine g_lald hC hk3 ly5_0 (by decide) (rfl : 1904 + 1 = 1905) (xdt tt_L_law17 40 rfl) (k0 := 0) (by decide) ?_
      refine g_iload hC 0 rfl (rfl : 1905 + 2 = 1907) (xdt tt_L_law17 41 rfl) ?_
      refine g_i2l hC (rfl : 1907 + 1 = 1908) (xdt tt_L_law17 42 rfl) ?_
      refine g_lcmp hC (rfl : 1908 + 1 = 1909) (xdt tt_L_law17 43 rfl) ?_
      refine g_if_eq hC (show ((1909 : Nat) : Int) + 5 = ((1914 : Nat) : Int) by decide) (rfl : 1909 + 3 = 1912) (xdt tt_L_law17 44 rfl) (fun hc655 => ?_) (fun hc655 => ?_)
      · replace h := (if_pos hc655).symm.trans h
        refine g_goto hC (show ((1914 : Nat) : Int) + 625 = ((2539 : Nat) : Int) by decide) (xdt tt_L_law17 47 rfl) ?_
        refine g_iinc hC 6 rfl (by decide) (lv' := [(4, vi (x4 + 6)), (6, vi v649), (5, vi v644), (0, .ref b), (1, vr E r1 0), (2, vr E r2 0), (3, vr E r3 0)]) rfl (rfl : 2539 + 3 = 2542) (xdt tt_L_law24 22 rfl) ?_
        refine g_goto hC (show ((2542 : Nat) : Int) + (-2519) = ((23 : Nat) : Int) by decide) (xdt tt_L_law24 23 rfl) ?_
        refine g_sub [3, 4, 5, 6, 0] (lv' := [(0, .ref b), (1, vr E r1 0), (2, vr E r2 0), (3, vr E r3 0), (4, vi (x4 + 6))]) rfl ?_
        exact hrec _ _ _ (m + 1) h (by omega) (by omega)
      · replace h := (if_neg hc655).symm.trans h
        cases h
  · replace h := (if_neg hc657).symm.trans h
    cases h
set_option maxRecDepth 100000 in
set_option maxHeartbeats 4000000 in
theorem k_law_b1917 {K : xCtx} {E : xE} {b0 b1 b L : Nat} {sc : Nat → Int} {r1 r2 r3 : Nat} (hL : lwC K E b0 b1 b L sc) (hk1 : xkd E r1 = 3) (hA1 : xFam E r1) (hk2 : xkd E r2 = 4) (hk3 : xkd E r3 = 5) {c23 : xSt → Int → Option xSt} {x4 : Int} {m : Nat} (hm : x4 = 6 * (m : Int)) (hm2 : m < 512) {S S' : xSt} (hrec : ∀ (S S' : xSt) (z : Int) (k : Nat), c23 S z = some S' → z = 6 * (k : Int) → k ≤ 512 → WG (kc K b0 b1 k) E 23 [(0, .ref b), (1, vr E r1 0), (2, vr E r2 0), (3, vr E r3 0), (4, vi z)] [] S) (h : f_law_b1917 c23 r1 r2 r3 L sc S x4 = some S') : WG (kc K b0 b1 m) E 1917 [(0, .ref b), (1, vr E r1 0), (2, vr E r2 0), (3, vr E r3 0), (4, vi x4)] [] S := by
  unfold f_law_b1917 at h
  have hC := hL.1 m
  have hs := hL.2.1 m
  refine g_aload_n hC rfl 1 rfl (rfl : 1917 + 1 = 1918) (xdt tt_L_law17 48 rfl) ?_
  refine g_aload_n hC rfl 0 rfl (rfl : 1918 + 1 = 1919) (xdt tt_L_law17 49 rfl) ?_
  refine g_iload hC 4 rfl (rfl : 1919 + 2 = 1921) (xdt tt_L_law17 50 rfl) ?_
  refine g_iconst hC (rfl : 1921 + 1 = 1922) (xdt tt_L_law17 51 rfl) ?_
  refine g_iadd hC (rfl : 1922 + 1 = 1923) (xdt tt_L_law17 52 rfl) ?_
  obtain ⟨hi659, h⟩ := ckI_i h
  refine g_sld hC hs hi659 (rfl : 1923 + 1 = 1924) (xdt tt_L_law17 53 rfl) ?_
  refine g_aload_n hC rfl 0 rfl (rfl : 1924 + 1 = 1925) (xdt tt_L_law17 54 rfl) ?_
  refine g_iload hC 4 rfl (rfl : 1925 + 2 = 1927) (xdt tt_L_law17 55 rfl) ?_
  refine g_iconst hC (rfl : 1927 + 1 = 1928) (xdt tt_L_law17 56 rfl) ?_
  refine g_iadd hC (rfl : 1928 + 1 = 1929) (xdt tt_L_law17 57 rfl) ?_
  obtain ⟨hi660, h⟩ := ckI_i h
  refine g_sld hC hs hi660 (rfl : 1929 + 1 = 1930) (xdt tt_L_law17 58 rfl) ?_
  refine g_aload_n hC rfl 3 rfl (rfl : 1930 + 1 = 1931) (xdt tt_L_law17 59 rfl) ?_
  obtain ⟨v663, S662, hc661, h⟩ := bd2_i h
  refine g_lcallW hC (lw_z16 hL hm2) (lw_tr hL) mw_L_bubblesIn q1386 ⟨Nat.le_of_ble_eq_true rfl, Nat.le_of_ble_eq_true rfl⟩ [vr E r1 0, vi (sc (wr (x4 + 1)).toNat), vi (sc (wr (x4 + 2)).toNat), vr E r3 0] rfl (fun l htr => c_L_bubblesIn_p3_0_5_0 l htr hk1 hA1 hk3 hc661) rfl (Nat.le_of_ble_eq_true rfl) (xdt tt_L_law18 0 rfl) ?_
  rw [bump_kc]
  have hC := hL.1 (m + 1)
  have hs := hL.2.1 (m + 1)
  refine g_istore hC (by decide) (lv' := [(5, vi v663), (0, .ref b), (1, vr E r1 0), (2, vr E r2 0), (3, vr E r3 0), (4, vi x4)]) rfl (rfl : 1934 + 2 = 1936) (xdt tt_L_law18 1 rfl) ?_
  refine g_aload_n hC rfl 3 rfl (rfl : 1936 + 1 = 1937) (xdt tt_L_law18 2 rfl) ?_
  refine g_aload_n hC rfl 1 rfl (rfl : 1937 + 1 = 1938) (xdt tt_L_law18 3 rfl) ?_
  refine g_iload hC 5 rfl (rfl : 1938 + 2 = 1940) (xdt tt_L_law18 4 rfl) ?_
  refine g_iconst hC (rfl : 1940 + 1 = 1941) (xdt tt_L_law18 5 rfl) ?_
  refine g_iadd hC (rfl : 1941 + 1 = 1942) (xdt tt_L_law18 6 rfl) ?_
  obtain ⟨hi665, h⟩ := ckI_i h
  refine g_sld hC hs hi665 (rfl : 1942 + 1 = 1943) (xdt tt_L_law18 7 rfl) ?_
  refine g_aload_n hC rfl 1 rfl (rfl : 1943 + 1 = 1944) (xdt tt_L_law18 8 rfl) ?_
  refine g_iload hC 5 rfl (rfl : 1944 + 2 = 1946) (xdt tt_L_law18 9 rfl) ?_
  refine g_iconst hC (rfl : 1946 + 1 = 1947) (xdt tt_L_law18 10 rfl) ?_
  refine g_iadd hC (rfl : 1947 + 1 = 1948) (xdt tt_L_law18 11 rfl) ?_
  obtain ⟨hi666, h⟩ := ckI_i h
  refine g_sld hC hs hi666 (rfl : 1948 + 1 = 1949) (xdt tt_L_law18 12 rfl) ?_
  obtain ⟨v669, S668, hc667, h⟩ := bd2_i h
  refine g_lcallVi hC (lw_z0 hL (show m + 1 ≤ 512 by omega)) hk2 kclX12 ly4_0 m_X12_bubblesIn q1393 ⟨Nat.le_of_ble_eq_true rfl, Nat.le_of_ble_eq_true rfl⟩ [vi (sc (wr (x4 + 1)).toNat), vi (sc (wr (x4 + 2)).toNat)] rfl (fun l => c_X12_bubblesIn_p4_0 l hk2 hc667) rfl (Nat.le_of_ble_eq_true rfl) (rfl : 1949 + 3 = 1952) (xdt tt_L_law18 13 rfl) ?_
  refine g_istore hC (by decide) (lv' := [(6, vi v669), (5, vi v663), (0, .ref b), (1, vr E r1 0), (2, vr E r2 0), (3, vr E r3 0), (4, vi x4)]) rfl (rfl : 1952 + 2 = 1954) (xdt tt_L_law18 14 rfl) ?_
  refine g_aload_n hC rfl 4 rfl (rfl : 1954 + 1 = 1955) (xdt tt_L_law18 15 rfl) ?_
  obtain ⟨v673, S672, hc671, h⟩ := bd2_i h
  refine g_lcallVi hC (lw_z0 hL (show m + 1 ≤ 512 by omega)) hk2 kclX12 ly4_0 m_X12_thrown q672 ⟨Nat.le_of_ble_eq_true rfl, Nat.le_of_ble_eq_true rfl⟩ [] rfl (fun l => c_X12_thrown_p4_0 l hk2 hc671) rfl (Nat.le_of_ble_eq_true rfl) (rfl : 1955 + 3 = 1958) (xdt tt_L_law18 16 rfl) ?_
  refine g_iload hC 1 rfl (rfl : 1958 + 2 = 1960) (xdt tt_L_law18 17 rfl) ?_
  refine g_icmp_eq hC (show ((1960 : Nat) : Int) + 5 = ((1965 : Nat) : Int) by decide) (rfl : 1960 + 3 = 1963) (xdt tt_L_law18 18 rfl) (fun hc677 => ?_) (fun hc677 => ?_)
  · replace h := (if_pos hc677).symm.trans h
    refine g_iload hC 1 rfl (rfl : 1965 + 2 = 1967) (xdt tt_L_law18 21 rfl) ?_
    refine g_if_ne hC (show ((1967 : Nat) : Int) + 15 = ((1982 : Nat) : Int) by decide) (rfl : 1967 + 3 = 1970) (xdt tt_L_law18 22 rfl) (fun hc676 => ?_) (fun hc676 => ?_)
    · replace h := (if_pos hc676).symm.trans h
      refine g_goto hC (show ((1982 : Nat) : Int) + 557 = ((2539 : Nat) : Int) by decide) (xdt tt_L_law18 32 rfl) ?_
      refine g_iinc hC 6 rfl (by decide) (lv' := [(4, vi (x4 + 6)), (6, vi v669), (5, vi v663), (0, .ref b), (1, vr E r1 0), (2, vr E r2 0), (3, vr E r3 0)]) rfl (rfl : 2539 + 3 = 2542) (xdt tt_L_law24 22 rfl) ?_
      refine g_goto hC (show ((2542 : Nat) : Int) + (-2519) = ((23 : Nat) : Int) by decide) (xdt tt_L_law24 23 rfl) ?_
      refine g_sub [3, 4, 5, 6, 0] (lv' := [(0, .ref b), (1, vr E r1 0), (2, vr E r2 0), (3, vr E r3 0), (4, vi (x4 + 6))]) rfl ?_
      exact hrec _ _ _ (m + 1) h (by omega) (by omega)
    · replace h := (if_neg hc676).symm.trans h
      refine g_aload_n hC rfl 5 rfl (rfl : 1970 + 1 = 1971) (xdt tt_L_law18 23 rfl) ?_
      refine g_iconst hC (rfl : 1971 + 1 = 1972) (xdt tt_L_law18 24 rfl) ?_
      refine g_lald hC hk3 ly5_0 (by decide) (rfl : 1972 + 1 = 1973) (xdt tt_L_law18 25 rfl) (k0 := 0) (by decide) ?_
      refine g_iload hC 0 rfl (rfl : 1973 + 2 = 1975) (xdt tt_L_law18 26 rfl) ?_
      refine g_i2l hC (rfl : 1975 + 1 = 1976) (xdt tt_L_law18 27 rfl) ?_
      refine g_lcmp hC (rfl : 1976 + 1 = 1977) (xdt tt_L_law18 28 rfl) ?_
      refine g_if_eq hC (show ((1977 : Nat) : Int) + 5 = ((1982 : Nat) : Int) by decide) (rfl : 1977 + 3 = 1980) (xdt tt_L_law18 29 rfl) (fun hc675 => ?_) (fun hc675 => ?_)
      · replace h := (if_pos hc675).symm.trans h
        refine g_goto hC (show ((1982 : Nat) : Int) + 557 = ((2539 : Nat) : Int) by decide) (xdt tt_L_law18 32 rfl) ?_
        refine g_iinc hC 6 rfl (by decide) (lv' := [(4, vi (x4 + 6)), (6, vi v669), (5, vi v663), (0, .ref b), (1, vr E r1 0), (2, vr E r2 0), (3, vr E r3 0)]) rfl (rfl : 2539 + 3 = 2542) (xdt tt_L_law24 22 rfl) ?_
        refine g_goto hC (show ((2542 : Nat) : Int) + (-2519) = ((23 : Nat) : Int) by decide) (xdt tt_L_law24 23 rfl) ?_
        refine g_sub [3, 4, 5, 6, 0] (lv' := [(0, .ref b), (1, vr E r1 0), (2, vr E r2 0), (3, vr E r3 0), (4, vi (x4 + 6))]) rfl ?_
        exact hrec _ _ _ (m + 1) h (by omega) (by omega)
      · replace h := (if_neg hc675).symm.trans h
        cases h
  · replace h := (if_neg hc677).symm.trans h
    cases h
set_option maxRecDepth 100000 in
set_option maxHeartbeats 4000000 in
theorem k_law_b1985 {K : xCtx} {E : xE} {b0 b1 b L : Nat} {sc : Nat → Int} {r1 r2 r3 : Nat} (hL : lwC K E b0 b1 b L sc) (hk1 : xkd E r1 = 3) (hA1 : xFam E r1) (hk2 : xkd E r2 = 4) (hk3 : xkd E r3 = 5) {c23 : xSt → Int → Option xSt} {x4 : Int} {m : Nat} (hm : x4 = 6 * (m : Int)) (hm2 : m < 512) {S S' : xSt} (hrec : ∀ (S S' : xSt) (z : Int) (k : Nat), c23 S z = some S' → z = 6 * (k : Int) → k ≤ 512 → WG (kc K b0 b1 k) E 23 [(0, .ref b), (1, vr E r1 0), (2, vr E r2 0), (3, vr E r3 0), (4, vi z)] [] S) (h : f_law_b1985 c23 r1 r2 r3 L sc S x4 = some S') : WG (kc K b0 b1 m) E 1985 [(0, .ref b), (1, vr E r1 0), (2, vr E r2 0), (3, vr E r3 0), (4, vi x4)] [] S := by
  unfold f_law_b1985 at h
  have hC := hL.1 m
  have hs := hL.2.1 m
  refine g_aload_n hC rfl 1 rfl (rfl : 1985 + 1 = 1986) (xdt tt_L_law18 33 rfl) ?_
  refine g_aload_n hC rfl 0 rfl (rfl : 1986 + 1 = 1987) (xdt tt_L_law18 34 rfl) ?_
  refine g_iload hC 4 rfl (rfl : 1987 + 2 = 1989) (xdt tt_L_law18 35 rfl) ?_
  refine g_iconst hC (rfl : 1989 + 1 = 1990) (xdt tt_L_law18 36 rfl) ?_
  refine g_iadd hC (rfl : 1990 + 1 = 1991) (xdt tt_L_law18 37 rfl) ?_
  obtain ⟨hi679, h⟩ := ckI_i h
  refine g_sld hC hs hi679 (rfl : 1991 + 1 = 1992) (xdt tt_L_law18 38 rfl) ?_
  refine g_aload_n hC rfl 3 rfl (rfl : 1992 + 1 = 1993) (xdt tt_L_law18 39 rfl) ?_
  obtain ⟨v682, S681, hc680, h⟩ := bd2_i h
  refine g_lcallW hC (lw_z16 hL hm2) (lw_tr hL) mw_L_roomNeeded q1397 ⟨Nat.le_of_ble_eq_true rfl, Nat.le_of_ble_eq_true rfl⟩ [vr E r1 0, vi (sc (wr (x4 + 1)).toNat), vr E r3 0] rfl (fun l htr => c_L_roomNeeded_p3_0_5_0 l htr hk1 hA1 hk3 hc680) rfl (Nat.le_of_ble_eq_true rfl) (xdt tt_L_law18 40 rfl) ?_
  rw [bump_kc]
  have hC := hL.1 (m + 1)
  have hs := hL.2.1 (m + 1)
  refine g_istore hC (by decide) (lv' := [(5, vi v682), (0, .ref b), (1, vr E r1 0), (2, vr E r2 0), (3, vr E r3 0), (4, vi x4)]) rfl (rfl : 1996 + 2 = 1998) (xdt tt_L_law18 41 rfl) ?_
  refine g_aload_n hC rfl 3 rfl (rfl : 1998 + 1 = 1999) (xdt tt_L_law18 42 rfl) ?_
  refine g_aload_n hC rfl 1 rfl (rfl : 1999 + 1 = 2000) (xdt tt_L_law18 43 rfl) ?_
  refine g_iload hC 5 rfl (rfl : 2000 + 2 = 2002) (xdt tt_L_law18 44 rfl) ?_
  refine g_iconst hC (rfl : 2002 + 1 = 2003) (xdt tt_L_law18 45 rfl) ?_
  refine g_iadd hC (rfl : 2003 + 1 = 2004) (xdt tt_L_law18 46 rfl) ?_
  obtain ⟨hi684, h⟩ := ckI_i h
  refine g_sld hC hs hi684 (rfl : 2004 + 1 = 2005) (xdt tt_L_law18 47 rfl) ?_
  obtain ⟨v687, S686, hc685, h⟩ := bd2_i h
  refine g_lcallVi hC (lw_z0 hL (show m + 1 ≤ 512 by omega)) hk2 kclX12 ly4_0 m_X12_roomNeeded q1405 ⟨Nat.le_of_ble_eq_true rfl, Nat.le_of_ble_eq_true rfl⟩ [vi (sc (wr (x4 + 1)).toNat)] rfl (fun l => c_X12_roomNeeded_p4_0 l hk2 hc685) rfl (Nat.le_of_ble_eq_true rfl) (rfl : 2005 + 3 = 2008) (xdt tt_L_law18 48 rfl) ?_
  refine g_istore hC (by decide) (lv' := [(6, vi v687), (5, vi v682), (0, .ref b), (1, vr E r1 0), (2, vr E r2 0), (3, vr E r3 0), (4, vi x4)]) rfl (rfl : 2008 + 2 = 2010) (xdt tt_L_law18 49 rfl) ?_
  refine g_aload_n hC rfl 4 rfl (rfl : 2010 + 1 = 2011) (xdt tt_L_law18 50 rfl) ?_
  obtain ⟨v691, S690, hc689, h⟩ := bd2_i h
  refine g_lcallVi hC (lw_z0 hL (show m + 1 ≤ 512 by omega)) hk2 kclX12 ly4_0 m_X12_thrown q672 ⟨Nat.le_of_ble_eq_true rfl, Nat.le_of_ble_eq_true rfl⟩ [] rfl (fun l => c_X12_thrown_p4_0 l hk2 hc689) rfl (Nat.le_of_ble_eq_true rfl) (rfl : 2011 + 3 = 2014) (xdt tt_L_law18 51 rfl) ?_
  refine g_iload hC 1 rfl (rfl : 2014 + 2 = 2016) (xdt tt_L_law18 52 rfl) ?_
  refine g_icmp_eq hC (show ((2016 : Nat) : Int) + 5 = ((2021 : Nat) : Int) by decide) (rfl : 2016 + 3 = 2019) (xdt tt_L_law18 53 rfl) (fun hc695 => ?_) (fun hc695 => ?_)
  · replace h := (if_pos hc695).symm.trans h
    refine g_iload hC 1 rfl (rfl : 2021 + 2 = 2023) (xdt tt_L_law18 56 rfl) ?_
    refine g_if_ne hC (show ((2023 : Nat) : Int) + 15 = ((2038 : Nat) : Int) by decide) (rfl : 2023 + 3 = 2026) (xdt tt_L_law18 57 rfl) (fun hc694 => ?_) (fun hc694 => ?_)
    · replace h := (if_pos hc694).symm.trans h
      refine g_goto hC (show ((2038 : Nat) : Int) + 501 = ((2539 : Nat) : Int) by decide) (xdt tt_L_law19 7 rfl) ?_
      refine g_iinc hC 6 rfl (by decide) (lv' := [(4, vi (x4 + 6)), (6, vi v687), (5, vi v682), (0, .ref b), (1, vr E r1 0), (2, vr E r2 0), (3, vr E r3 0)]) rfl (rfl : 2539 + 3 = 2542) (xdt tt_L_law24 22 rfl) ?_
      refine g_goto hC (show ((2542 : Nat) : Int) + (-2519) = ((23 : Nat) : Int) by decide) (xdt tt_L_law24 23 rfl) ?_
      refine g_sub [3, 4, 5, 6, 0] (lv' := [(0, .ref b), (1, vr E r1 0), (2, vr E r2 0), (3, vr E r3 0), (4, vi (x4 + 6))]) rfl ?_
      exact hrec _ _ _ (m + 1) h (by omega) (by omega)
    · replace h := (if_neg hc694).symm.trans h
      refine g_aload_n hC rfl 5 rfl (rfl : 2026 + 1 = 2027) (xdt tt_L_law18 58 rfl) ?_
      refine g_iconst hC (rfl : 2027 + 1 = 2028) (xdt tt_L_law18 59 rfl) ?_
      refine g_lald hC hk3 ly5_0 (by decide) (rfl : 2028 + 1 = 2029) (xdt tt_L_law19 0 rfl) (k0 := 0) (by decide) ?_
      refine g_iload hC 0 rfl (rfl : 2029 + 2 = 2031) (xdt tt_L_law19 1 rfl) ?_
      refine g_i2l hC (rfl : 2031 + 1 = 2032) (xdt tt_L_law19 2 rfl) ?_
      refine g_lcmp hC (rfl : 2032 + 1 = 2033) (xdt tt_L_law19 3 rfl) ?_
      refine g_if_eq hC (show ((2033 : Nat) : Int) + 5 = ((2038 : Nat) : Int) by decide) (rfl : 2033 + 3 = 2036) (xdt tt_L_law19 4 rfl) (fun hc693 => ?_) (fun hc693 => ?_)
      · replace h := (if_pos hc693).symm.trans h
        refine g_goto hC (show ((2038 : Nat) : Int) + 501 = ((2539 : Nat) : Int) by decide) (xdt tt_L_law19 7 rfl) ?_
        refine g_iinc hC 6 rfl (by decide) (lv' := [(4, vi (x4 + 6)), (6, vi v687), (5, vi v682), (0, .ref b), (1, vr E r1 0), (2, vr E r2 0), (3, vr E r3 0)]) rfl (rfl : 2539 + 3 = 2542) (xdt tt_L_law24 22 rfl) ?_
        refine g_goto hC (show ((2542 : Nat) : Int) + (-2519) = ((23 : Nat) : Int) by decide) (xdt tt_L_law24 23 rfl) ?_
        refine g_sub [3, 4, 5, 6, 0] (lv' := [(0, .ref b), (1, vr E r1 0), (2, vr E r2 0), (3, vr E r3 0), (4, vi (x4 + 6))]) rfl ?_
        exact hrec _ _ _ (m + 1) h (by omega) (by omega)
      · replace h := (if_neg hc693).symm.trans h
        cases h
  · replace h := (if_neg hc695).symm.trans h
    cases h
set_option maxRecDepth 100000 in
set_option maxHeartbeats 4000000 in
theorem k_law_b2041 {K : xCtx} {E : xE} {b0 b1 b L : Nat} {sc : Nat → Int} {r1 r2 r3 : Nat} (hL : lwC K E b0 b1 b L sc) (hk1 : xkd E r1 = 3) (hA1 : xFam E r1) (hk2 : xkd E r2 = 4) (hk3 : xkd E r3 = 5) {c23 : xSt → Int → Option xSt} {x4 : Int} {m : Nat} (hm : x4 = 6 * (m : Int)) (hm2 : m < 512) {S S' : xSt} (hrec : ∀ (S S' : xSt) (z : Int) (k : Nat), c23 S z = some S' → z = 6 * (k : Int) → k ≤ 512 → WG (kc K b0 b1 k) E 23 [(0, .ref b), (1, vr E r1 0), (2, vr E r2 0), (3, vr E r3 0), (4, vi z)] [] S) (h : f_law_b2041 c23 r1 r2 r3 L sc S x4 = some S') : WG (kc K b0 b1 m) E 2041 [(0, .ref b), (1, vr E r1 0), (2, vr E r2 0), (3, vr E r3 0), (4, vi x4)] [] S := by
  unfold f_law_b2041 at h
  have hC := hL.1 m
  have hs := hL.2.1 m
  refine g_aload_n hC rfl 1 rfl (rfl : 2041 + 1 = 2042) (xdt tt_L_law19 8 rfl) ?_
  refine g_aload_n hC rfl 0 rfl (rfl : 2042 + 1 = 2043) (xdt tt_L_law19 9 rfl) ?_
  refine g_iload hC 4 rfl (rfl : 2043 + 2 = 2045) (xdt tt_L_law19 10 rfl) ?_
  refine g_iconst hC (rfl : 2045 + 1 = 2046) (xdt tt_L_law19 11 rfl) ?_
  refine g_iadd hC (rfl : 2046 + 1 = 2047) (xdt tt_L_law19 12 rfl) ?_
  obtain ⟨hi697, h⟩ := ckI_i h
  refine g_sld hC hs hi697 (rfl : 2047 + 1 = 2048) (xdt tt_L_law19 13 rfl) ?_
  refine g_aload_n hC rfl 3 rfl (rfl : 2048 + 1 = 2049) (xdt tt_L_law19 14 rfl) ?_
  obtain ⟨v700, S699, hc698, h⟩ := bd2_i h
  refine g_lcallW hC (lw_z16 hL hm2) (lw_tr hL) mw_L_bestLanes q1409 ⟨Nat.le_of_ble_eq_true rfl, Nat.le_of_ble_eq_true rfl⟩ [vr E r1 0, vi (sc (wr (x4 + 1)).toNat), vr E r3 0] rfl (fun l htr => c_L_bestLanes_p3_0_5_0 l htr hk1 hA1 hk3 hc698) rfl (Nat.le_of_ble_eq_true rfl) (xdt tt_L_law19 15 rfl) ?_
  rw [bump_kc]
  have hC := hL.1 (m + 1)
  have hs := hL.2.1 (m + 1)
  refine g_istore hC (by decide) (lv' := [(5, vi v700), (0, .ref b), (1, vr E r1 0), (2, vr E r2 0), (3, vr E r3 0), (4, vi x4)]) rfl (rfl : 2052 + 2 = 2054) (xdt tt_L_law19 16 rfl) ?_
  refine g_aload_n hC rfl 3 rfl (rfl : 2054 + 1 = 2055) (xdt tt_L_law19 17 rfl) ?_
  refine g_aload_n hC rfl 1 rfl (rfl : 2055 + 1 = 2056) (xdt tt_L_law19 18 rfl) ?_
  refine g_iload hC 5 rfl (rfl : 2056 + 2 = 2058) (xdt tt_L_law19 19 rfl) ?_
  refine g_iconst hC (rfl : 2058 + 1 = 2059) (xdt tt_L_law19 20 rfl) ?_
  refine g_iadd hC (rfl : 2059 + 1 = 2060) (xdt tt_L_law19 21 rfl) ?_
  obtain ⟨hi702, h⟩ := ckI_i h
  refine g_sld hC hs hi702 (rfl : 2060 + 1 = 2061) (xdt tt_L_law19 22 rfl) ?_
  obtain ⟨v705, S704, hc703, h⟩ := bd2_i h
  refine g_lcallVi hC (lw_z0 hL (show m + 1 ≤ 512 by omega)) hk2 kclX12 ly4_0 m_X12_bestLanes q1420 ⟨Nat.le_of_ble_eq_true rfl, Nat.le_of_ble_eq_true rfl⟩ [vi (sc (wr (x4 + 1)).toNat)] rfl (fun l => c_X12_bestLanes_p4_0 l hk2 hc703) rfl (Nat.le_of_ble_eq_true rfl) (rfl : 2061 + 3 = 2064) (xdt tt_L_law19 23 rfl) ?_
  refine g_istore hC (by decide) (lv' := [(6, vi v705), (5, vi v700), (0, .ref b), (1, vr E r1 0), (2, vr E r2 0), (3, vr E r3 0), (4, vi x4)]) rfl (rfl : 2064 + 2 = 2066) (xdt tt_L_law19 24 rfl) ?_
  refine g_aload_n hC rfl 4 rfl (rfl : 2066 + 1 = 2067) (xdt tt_L_law19 25 rfl) ?_
  obtain ⟨v709, S708, hc707, h⟩ := bd2_i h
  refine g_lcallVi hC (lw_z0 hL (show m + 1 ≤ 512 by omega)) hk2 kclX12 ly4_0 m_X12_thrown q672 ⟨Nat.le_of_ble_eq_true rfl, Nat.le_of_ble_eq_true rfl⟩ [] rfl (fun l => c_X12_thrown_p4_0 l hk2 hc707) rfl (Nat.le_of_ble_eq_true rfl) (rfl : 2067 + 3 = 2070) (xdt tt_L_law19 26 rfl) ?_
  refine g_iload hC 1 rfl (rfl : 2070 + 2 = 2072) (xdt tt_L_law19 27 rfl) ?_
  refine g_icmp_eq hC (show ((2072 : Nat) : Int) + 5 = ((2077 : Nat) : Int) by decide) (rfl : 2072 + 3 = 2075) (xdt tt_L_law19 28 rfl) (fun hc713 => ?_) (fun hc713 => ?_)
  · replace h := (if_pos hc713).symm.trans h
    refine g_iload hC 1 rfl (rfl : 2077 + 2 = 2079) (xdt tt_L_law19 31 rfl) ?_
    refine g_if_ne hC (show ((2079 : Nat) : Int) + 15 = ((2094 : Nat) : Int) by decide) (rfl : 2079 + 3 = 2082) (xdt tt_L_law19 32 rfl) (fun hc712 => ?_) (fun hc712 => ?_)
    · replace h := (if_pos hc712).symm.trans h
      refine g_goto hC (show ((2094 : Nat) : Int) + 445 = ((2539 : Nat) : Int) by decide) (xdt tt_L_law19 42 rfl) ?_
      refine g_iinc hC 6 rfl (by decide) (lv' := [(4, vi (x4 + 6)), (6, vi v705), (5, vi v700), (0, .ref b), (1, vr E r1 0), (2, vr E r2 0), (3, vr E r3 0)]) rfl (rfl : 2539 + 3 = 2542) (xdt tt_L_law24 22 rfl) ?_
      refine g_goto hC (show ((2542 : Nat) : Int) + (-2519) = ((23 : Nat) : Int) by decide) (xdt tt_L_law24 23 rfl) ?_
      refine g_sub [3, 4, 5, 6, 0] (lv' := [(0, .ref b), (1, vr E r1 0), (2, vr E r2 0), (3, vr E r3 0), (4, vi (x4 + 6))]) rfl ?_
      exact hrec _ _ _ (m + 1) h (by omega) (by omega)
    · replace h := (if_neg hc712).symm.trans h
      refine g_aload_n hC rfl 5 rfl (rfl : 2082 + 1 = 2083) (xdt tt_L_law19 33 rfl) ?_
      refine g_iconst hC (rfl : 2083 + 1 = 2084) (xdt tt_L_law19 34 rfl) ?_
      refine g_lald hC hk3 ly5_0 (by decide) (rfl : 2084 + 1 = 2085) (xdt tt_L_law19 35 rfl) (k0 := 0) (by decide) ?_
      refine g_iload hC 0 rfl (rfl : 2085 + 2 = 2087) (xdt tt_L_law19 36 rfl) ?_
      refine g_i2l hC (rfl : 2087 + 1 = 2088) (xdt tt_L_law19 37 rfl) ?_
      refine g_lcmp hC (rfl : 2088 + 1 = 2089) (xdt tt_L_law19 38 rfl) ?_
      refine g_if_eq hC (show ((2089 : Nat) : Int) + 5 = ((2094 : Nat) : Int) by decide) (rfl : 2089 + 3 = 2092) (xdt tt_L_law19 39 rfl) (fun hc711 => ?_) (fun hc711 => ?_)
      · replace h := (if_pos hc711).symm.trans h
        refine g_goto hC (show ((2094 : Nat) : Int) + 445 = ((2539 : Nat) : Int) by decide) (xdt tt_L_law19 42 rfl) ?_
        refine g_iinc hC 6 rfl (by decide) (lv' := [(4, vi (x4 + 6)), (6, vi v705), (5, vi v700), (0, .ref b), (1, vr E r1 0), (2, vr E r2 0), (3, vr E r3 0)]) rfl (rfl : 2539 + 3 = 2542) (xdt tt_L_law24 22 rfl) ?_
        refine g_goto hC (show ((2542 : Nat) : Int) + (-2519) = ((23 : Nat) : Int) by decide) (xdt tt_L_law24 23 rfl) ?_
        refine g_sub [3, 4, 5, 6, 0] (lv' := [(0, .ref b), (1, vr E r1 0), (2, vr E r2 0), (3, vr E r3 0), (4, vi (x4 + 6))]) rfl ?_
        exact hrec _ _ _ (m + 1) h (by omega) (by omega)
      · replace h := (if_neg hc711).symm.trans h
        cases h
  · replace h := (if_neg hc713).symm.trans h
    cases h
set_option maxRecDepth 100000 in
set_option maxHeartbeats 4000000 in
theorem k_law_b2097 {K : xCtx} {E : xE} {b0 b1 b L : Nat} {sc : Nat → Int} {r1 r2 r3 : Nat} (hL : lwC K E b0 b1 b L sc) (hk1 : xkd E r1 = 3) (hA1 : xFam E r1) (hk2 : xkd E r2 = 4) (hk3 : xkd E r3 = 5) {c23 : xSt → Int → Option xSt} {x4 : Int} {m : Nat} (hm : x4 = 6 * (m : Int)) (hm2 : m < 512) {S S' : xSt} (hrec : ∀ (S S' : xSt) (z : Int) (k : Nat), c23 S z = some S' → z = 6 * (k : Int) → k ≤ 512 → WG (kc K b0 b1 k) E 23 [(0, .ref b), (1, vr E r1 0), (2, vr E r2 0), (3, vr E r3 0), (4, vi z)] [] S) (h : f_law_b2097 c23 r1 r2 r3 L sc S x4 = some S') : WG (kc K b0 b1 m) E 2097 [(0, .ref b), (1, vr E r1 0), (2, vr E r2 0), (3, vr E r3 0), (4, vi x4)] [] S := by
  unfold f_law_b2097 at h
  have hC := hL.1 m
  have hs := hL.2.1 m
  refine g_aload_n hC rfl 1 rfl (rfl : 2097 + 1 = 2098) (xdt tt_L_law19 43 rfl) ?_
  refine g_aload_n hC rfl 0 rfl (rfl : 2098 + 1 = 2099) (xdt tt_L_law19 44 rfl) ?_
  refine g_iload hC 4 rfl (rfl : 2099 + 2 = 2101) (xdt tt_L_law19 45 rfl) ?_
  refine g_iconst hC (rfl : 2101 + 1 = 2102) (xdt tt_L_law19 46 rfl) ?_
  refine g_iadd hC (rfl : 2102 + 1 = 2103) (xdt tt_L_law19 47 rfl) ?_
  obtain ⟨hi715, h⟩ := ckI_i h
  refine g_sld hC hs hi715 (rfl : 2103 + 1 = 2104) (xdt tt_L_law19 48 rfl) ?_
  refine g_aload_n hC rfl 3 rfl (rfl : 2104 + 1 = 2105) (xdt tt_L_law19 49 rfl) ?_
  obtain ⟨v718, S717, hc716, h⟩ := bd2_i h
  refine g_lcallW hC (lw_z16 hL hm2) (lw_tr hL) mw_L_bestRate q1436 ⟨Nat.le_of_ble_eq_true rfl, Nat.le_of_ble_eq_true rfl⟩ [vr E r1 0, vi (sc (wr (x4 + 1)).toNat), vr E r3 0] rfl (fun l htr => c_L_bestRate_p3_0_5_0 l htr hk1 hA1 hk3 hc716) rfl (Nat.le_of_ble_eq_true rfl) (xdt tt_L_law19 50 rfl) ?_
  rw [bump_kc]
  have hC := hL.1 (m + 1)
  have hs := hL.2.1 (m + 1)
  refine g_istore hC (by decide) (lv' := [(5, vi v718), (0, .ref b), (1, vr E r1 0), (2, vr E r2 0), (3, vr E r3 0), (4, vi x4)]) rfl (rfl : 2108 + 2 = 2110) (xdt tt_L_law19 51 rfl) ?_
  refine g_aload_n hC rfl 3 rfl (rfl : 2110 + 1 = 2111) (xdt tt_L_law19 52 rfl) ?_
  refine g_aload_n hC rfl 1 rfl (rfl : 2111 + 1 = 2112) (xdt tt_L_law19 53 rfl) ?_
  refine g_iload hC 5 rfl (rfl : 2112 + 2 = 2114) (xdt tt_L_law19 54 rfl) ?_
  refine g_iconst hC (rfl : 2114 + 1 = 2115) (xdt tt_L_law19 55 rfl) ?_
  refine g_iadd hC (rfl : 2115 + 1 = 2116) (xdt tt_L_law19 56 rfl) ?_
  obtain ⟨hi720, h⟩ := ckI_i h
  refine g_sld hC hs hi720 (rfl : 2116 + 1 = 2117) (xdt tt_L_law19 57 rfl) ?_
  obtain ⟨v723, S722, hc721, h⟩ := bd2_i h
  refine g_lcallVi hC (lw_z0 hL (show m + 1 ≤ 512 by omega)) hk2 kclX12 ly4_0 m_X12_bestRate q1443 ⟨Nat.le_of_ble_eq_true rfl, Nat.le_of_ble_eq_true rfl⟩ [vi (sc (wr (x4 + 1)).toNat)] rfl (fun l => c_X12_bestRate_p4_0 l hk2 hc721) rfl (Nat.le_of_ble_eq_true rfl) (rfl : 2117 + 3 = 2120) (xdt tt_L_law19 58 rfl) ?_
  refine g_istore hC (by decide) (lv' := [(6, vi v723), (5, vi v718), (0, .ref b), (1, vr E r1 0), (2, vr E r2 0), (3, vr E r3 0), (4, vi x4)]) rfl (rfl : 2120 + 2 = 2122) (xdt tt_L_law19 59 rfl) ?_
  refine g_aload_n hC rfl 4 rfl (rfl : 2122 + 1 = 2123) (xdt tt_L_law20 0 rfl) ?_
  obtain ⟨v727, S726, hc725, h⟩ := bd2_i h
  refine g_lcallVi hC (lw_z0 hL (show m + 1 ≤ 512 by omega)) hk2 kclX12 ly4_0 m_X12_thrown q672 ⟨Nat.le_of_ble_eq_true rfl, Nat.le_of_ble_eq_true rfl⟩ [] rfl (fun l => c_X12_thrown_p4_0 l hk2 hc725) rfl (Nat.le_of_ble_eq_true rfl) (rfl : 2123 + 3 = 2126) (xdt tt_L_law20 1 rfl) ?_
  refine g_iload hC 1 rfl (rfl : 2126 + 2 = 2128) (xdt tt_L_law20 2 rfl) ?_
  refine g_icmp_eq hC (show ((2128 : Nat) : Int) + 5 = ((2133 : Nat) : Int) by decide) (rfl : 2128 + 3 = 2131) (xdt tt_L_law20 3 rfl) (fun hc731 => ?_) (fun hc731 => ?_)
  · replace h := (if_pos hc731).symm.trans h
    refine g_iload hC 1 rfl (rfl : 2133 + 2 = 2135) (xdt tt_L_law20 6 rfl) ?_
    refine g_if_ne hC (show ((2135 : Nat) : Int) + 15 = ((2150 : Nat) : Int) by decide) (rfl : 2135 + 3 = 2138) (xdt tt_L_law20 7 rfl) (fun hc730 => ?_) (fun hc730 => ?_)
    · replace h := (if_pos hc730).symm.trans h
      refine g_goto hC (show ((2150 : Nat) : Int) + 389 = ((2539 : Nat) : Int) by decide) (xdt tt_L_law20 17 rfl) ?_
      refine g_iinc hC 6 rfl (by decide) (lv' := [(4, vi (x4 + 6)), (6, vi v723), (5, vi v718), (0, .ref b), (1, vr E r1 0), (2, vr E r2 0), (3, vr E r3 0)]) rfl (rfl : 2539 + 3 = 2542) (xdt tt_L_law24 22 rfl) ?_
      refine g_goto hC (show ((2542 : Nat) : Int) + (-2519) = ((23 : Nat) : Int) by decide) (xdt tt_L_law24 23 rfl) ?_
      refine g_sub [3, 4, 5, 6, 0] (lv' := [(0, .ref b), (1, vr E r1 0), (2, vr E r2 0), (3, vr E r3 0), (4, vi (x4 + 6))]) rfl ?_
      exact hrec _ _ _ (m + 1) h (by omega) (by omega)
    · replace h := (if_neg hc730).symm.trans h
      refine g_aload_n hC rfl 5 rfl (rfl : 2138 + 1 = 2139) (xdt tt_L_law20 8 rfl) ?_
      refine g_iconst hC (rfl : 2139 + 1 = 2140) (xdt tt_L_law20 9 rfl) ?_
      refine g_lald hC hk3 ly5_0 (by decide) (rfl : 2140 + 1 = 2141) (xdt tt_L_law20 10 rfl) (k0 := 0) (by decide) ?_
      refine g_iload hC 0 rfl (rfl : 2141 + 2 = 2143) (xdt tt_L_law20 11 rfl) ?_
      refine g_i2l hC (rfl : 2143 + 1 = 2144) (xdt tt_L_law20 12 rfl) ?_
      refine g_lcmp hC (rfl : 2144 + 1 = 2145) (xdt tt_L_law20 13 rfl) ?_
      refine g_if_eq hC (show ((2145 : Nat) : Int) + 5 = ((2150 : Nat) : Int) by decide) (rfl : 2145 + 3 = 2148) (xdt tt_L_law20 14 rfl) (fun hc729 => ?_) (fun hc729 => ?_)
      · replace h := (if_pos hc729).symm.trans h
        refine g_goto hC (show ((2150 : Nat) : Int) + 389 = ((2539 : Nat) : Int) by decide) (xdt tt_L_law20 17 rfl) ?_
        refine g_iinc hC 6 rfl (by decide) (lv' := [(4, vi (x4 + 6)), (6, vi v723), (5, vi v718), (0, .ref b), (1, vr E r1 0), (2, vr E r2 0), (3, vr E r3 0)]) rfl (rfl : 2539 + 3 = 2542) (xdt tt_L_law24 22 rfl) ?_
        refine g_goto hC (show ((2542 : Nat) : Int) + (-2519) = ((23 : Nat) : Int) by decide) (xdt tt_L_law24 23 rfl) ?_
        refine g_sub [3, 4, 5, 6, 0] (lv' := [(0, .ref b), (1, vr E r1 0), (2, vr E r2 0), (3, vr E r3 0), (4, vi (x4 + 6))]) rfl ?_
        exact hrec _ _ _ (m + 1) h (by omega) (by omega)
      · replace h := (if_neg hc729).symm.trans h
        cases h
  · replace h := (if_neg hc731).symm.trans h
    cases h
set_option maxRecDepth 100000 in
set_option maxHeartbeats 4000000 in
theorem k_law_b2153 {K : xCtx} {E : xE} {b0 b1 b L : Nat} {sc : Nat → Int} {r1 r2 r3 : Nat} (hL : lwC K E b0 b1 b L sc) (hk1 : xkd E r1 = 3) (hA1 : xFam E r1) (hk2 : xkd E r2 = 4) (hk3 : xkd E r3 = 5) {c23 : xSt → Int → Option xSt} {x4 : Int} {m : Nat} (hm : x4 = 6 * (m : Int)) (hm2 : m < 512) {S S' : xSt} (hrec : ∀ (S S' : xSt) (z : Int) (k : Nat), c23 S z = some S' → z = 6 * (k : Int) → k ≤ 512 → WG (kc K b0 b1 k) E 23 [(0, .ref b), (1, vr E r1 0), (2, vr E r2 0), (3, vr E r3 0), (4, vi z)] [] S) (h : f_law_b2153 c23 r1 r2 r3 L sc S x4 = some S') : WG (kc K b0 b1 m) E 2153 [(0, .ref b), (1, vr E r1 0), (2, vr E r2 0), (3, vr E r3 0), (4, vi x4)] [] S := by
  unfold f_law_b2153 at h
  have hC := hL.1 m
  have hs := hL.2.1 m
  refine g_aload_n hC rfl 1 rfl (rfl : 2153 + 1 = 2154) (xdt tt_L_law20 18 rfl) ?_
  refine g_aload_n hC rfl 0 rfl (rfl : 2154 + 1 = 2155) (xdt tt_L_law20 19 rfl) ?_
  refine g_iload hC 4 rfl (rfl : 2155 + 2 = 2157) (xdt tt_L_law20 20 rfl) ?_
  refine g_iconst hC (rfl : 2157 + 1 = 2158) (xdt tt_L_law20 21 rfl) ?_
  refine g_iadd hC (rfl : 2158 + 1 = 2159) (xdt tt_L_law20 22 rfl) ?_
  obtain ⟨hi733, h⟩ := ckI_i h
  refine g_sld hC hs hi733 (rfl : 2159 + 1 = 2160) (xdt tt_L_law20 23 rfl) ?_
  refine g_aload_n hC rfl 3 rfl (rfl : 2160 + 1 = 2161) (xdt tt_L_law20 24 rfl) ?_
  obtain ⟨v736, S735, hc734, h⟩ := bd2_i h
  refine g_lcallW hC (lw_z16 hL hm2) (lw_tr hL) mw_L_bestLoop q1447 ⟨Nat.le_of_ble_eq_true rfl, Nat.le_of_ble_eq_true rfl⟩ [vr E r1 0, vi (sc (wr (x4 + 1)).toNat), vr E r3 0] rfl (fun l htr => c_L_bestLoop_p3_0_5_0 l htr hk1 hA1 hk3 hc734) rfl (Nat.le_of_ble_eq_true rfl) (xdt tt_L_law20 25 rfl) ?_
  rw [bump_kc]
  have hC := hL.1 (m + 1)
  have hs := hL.2.1 (m + 1)
  refine g_istore hC (by decide) (lv' := [(5, vi v736), (0, .ref b), (1, vr E r1 0), (2, vr E r2 0), (3, vr E r3 0), (4, vi x4)]) rfl (rfl : 2164 + 2 = 2166) (xdt tt_L_law20 26 rfl) ?_
  refine g_aload_n hC rfl 3 rfl (rfl : 2166 + 1 = 2167) (xdt tt_L_law20 27 rfl) ?_
  refine g_aload_n hC rfl 1 rfl (rfl : 2167 + 1 = 2168) (xdt tt_L_law20 28 rfl) ?_
  refine g_iload hC 5 rfl (rfl : 2168 + 2 = 2170) (xdt tt_L_law20 29 rfl) ?_
  refine g_iconst hC (rfl : 2170 + 1 = 2171) (xdt tt_L_law20 30 rfl) ?_
  refine g_iadd hC (rfl : 2171 + 1 = 2172) (xdt tt_L_law20 31 rfl) ?_
  obtain ⟨hi738, h⟩ := ckI_i h
  refine g_sld hC hs hi738 (rfl : 2172 + 1 = 2173) (xdt tt_L_law20 32 rfl) ?_
  obtain ⟨v741, S740, hc739, h⟩ := bd2_i h
  refine g_lcallVi hC (lw_z0 hL (show m + 1 ≤ 512 by omega)) hk2 kclX12 ly4_0 m_X12_bestLoop q1454 ⟨Nat.le_of_ble_eq_true rfl, Nat.le_of_ble_eq_true rfl⟩ [vi (sc (wr (x4 + 1)).toNat)] rfl (fun l => c_X12_bestLoop_p4_0 l hk2 hc739) rfl (Nat.le_of_ble_eq_true rfl) (rfl : 2173 + 3 = 2176) (xdt tt_L_law20 33 rfl) ?_
  refine g_istore hC (by decide) (lv' := [(6, vi v741), (5, vi v736), (0, .ref b), (1, vr E r1 0), (2, vr E r2 0), (3, vr E r3 0), (4, vi x4)]) rfl (rfl : 2176 + 2 = 2178) (xdt tt_L_law20 34 rfl) ?_
  refine g_aload_n hC rfl 4 rfl (rfl : 2178 + 1 = 2179) (xdt tt_L_law20 35 rfl) ?_
  obtain ⟨v745, S744, hc743, h⟩ := bd2_i h
  refine g_lcallVi hC (lw_z0 hL (show m + 1 ≤ 512 by omega)) hk2 kclX12 ly4_0 m_X12_thrown q672 ⟨Nat.le_of_ble_eq_true rfl, Nat.le_of_ble_eq_true rfl⟩ [] rfl (fun l => c_X12_thrown_p4_0 l hk2 hc743) rfl (Nat.le_of_ble_eq_true rfl) (rfl : 2179 + 3 = 2182) (xdt tt_L_law20 36 rfl) ?_
  refine g_iload hC 1 rfl (rfl : 2182 + 2 = 2184) (xdt tt_L_law20 37 rfl) ?_
  refine g_icmp_eq hC (show ((2184 : Nat) : Int) + 5 = ((2189 : Nat) : Int) by decide) (rfl : 2184 + 3 = 2187) (xdt tt_L_law20 38 rfl) (fun hc749 => ?_) (fun hc749 => ?_)
  · replace h := (if_pos hc749).symm.trans h
    refine g_iload hC 1 rfl (rfl : 2189 + 2 = 2191) (xdt tt_L_law20 41 rfl) ?_
    refine g_if_ne hC (show ((2191 : Nat) : Int) + 15 = ((2206 : Nat) : Int) by decide) (rfl : 2191 + 3 = 2194) (xdt tt_L_law20 42 rfl) (fun hc748 => ?_) (fun hc748 => ?_)
    · replace h := (if_pos hc748).symm.trans h
      refine g_goto hC (show ((2206 : Nat) : Int) + 333 = ((2539 : Nat) : Int) by decide) (xdt tt_L_law20 52 rfl) ?_
      refine g_iinc hC 6 rfl (by decide) (lv' := [(4, vi (x4 + 6)), (6, vi v741), (5, vi v736), (0, .ref b), (1, vr E r1 0), (2, vr E r2 0), (3, vr E r3 0)]) rfl (rfl : 2539 + 3 = 2542) (xdt tt_L_law24 22 rfl) ?_
      refine g_goto hC (show ((2542 : Nat) : Int) + (-2519) = ((23 : Nat) : Int) by decide) (xdt tt_L_law24 23 rfl) ?_
      refine g_sub [3, 4, 5, 6, 0] (lv' := [(0, .ref b), (1, vr E r1 0), (2, vr E r2 0), (3, vr E r3 0), (4, vi (x4 + 6))]) rfl ?_
      exact hrec _ _ _ (m + 1) h (by omega) (by omega)
    · replace h := (if_neg hc748).symm.trans h
      refine g_aload_n hC rfl 5 rfl (rfl : 2194 + 1 = 2195) (xdt tt_L_law20 43 rfl) ?_
      refine g_iconst hC (rfl : 2195 + 1 = 2196) (xdt tt_L_law20 44 rfl) ?_
      refine g_lald hC hk3 ly5_0 (by decide) (rfl : 2196 + 1 = 2197) (xdt tt_L_law20 45 rfl) (k0 := 0) (by decide) ?_
      refine g_iload hC 0 rfl (rfl : 2197 + 2 = 2199) (xdt tt_L_law20 46 rfl) ?_
      refine g_i2l hC (rfl : 2199 + 1 = 2200) (xdt tt_L_law20 47 rfl) ?_
      refine g_lcmp hC (rfl : 2200 + 1 = 2201) (xdt tt_L_law20 48 rfl) ?_
      refine g_if_eq hC (show ((2201 : Nat) : Int) + 5 = ((2206 : Nat) : Int) by decide) (rfl : 2201 + 3 = 2204) (xdt tt_L_law20 49 rfl) (fun hc747 => ?_) (fun hc747 => ?_)
      · replace h := (if_pos hc747).symm.trans h
        refine g_goto hC (show ((2206 : Nat) : Int) + 333 = ((2539 : Nat) : Int) by decide) (xdt tt_L_law20 52 rfl) ?_
        refine g_iinc hC 6 rfl (by decide) (lv' := [(4, vi (x4 + 6)), (6, vi v741), (5, vi v736), (0, .ref b), (1, vr E r1 0), (2, vr E r2 0), (3, vr E r3 0)]) rfl (rfl : 2539 + 3 = 2542) (xdt tt_L_law24 22 rfl) ?_
        refine g_goto hC (show ((2542 : Nat) : Int) + (-2519) = ((23 : Nat) : Int) by decide) (xdt tt_L_law24 23 rfl) ?_
        refine g_sub [3, 4, 5, 6, 0] (lv' := [(0, .ref b), (1, vr E r1 0), (2, vr E r2 0), (3, vr E r3 0), (4, vi (x4 + 6))]) rfl ?_
        exact hrec _ _ _ (m + 1) h (by omega) (by omega)
      · replace h := (if_neg hc747).symm.trans h
        cases h
  · replace h := (if_neg hc749).symm.trans h
    cases h
set_option maxRecDepth 100000 in
set_option maxHeartbeats 4000000 in
theorem k_law_b2209 {K : xCtx} {E : xE} {b0 b1 b L : Nat} {sc : Nat → Int} {r1 r2 r3 : Nat} (hL : lwC K E b0 b1 b L sc) (hk1 : xkd E r1 = 3) (hA1 : xFam E r1) (hk2 : xkd E r2 = 4) (hk3 : xkd E r3 = 5) {c23 : xSt → Int → Option xSt} {x4 : Int} {m : Nat} (hm : x4 = 6 * (m : Int)) (hm2 : m < 512) {S S' : xSt} (hrec : ∀ (S S' : xSt) (z : Int) (k : Nat), c23 S z = some S' → z = 6 * (k : Int) → k ≤ 512 → WG (kc K b0 b1 k) E 23 [(0, .ref b), (1, vr E r1 0), (2, vr E r2 0), (3, vr E r3 0), (4, vi z)] [] S) (h : f_law_b2209 c23 r1 r2 r3 L sc S x4 = some S') : WG (kc K b0 b1 m) E 2209 [(0, .ref b), (1, vr E r1 0), (2, vr E r2 0), (3, vr E r3 0), (4, vi x4)] [] S := by
  unfold f_law_b2209 at h
  have hC := hL.1 m
  have hs := hL.2.1 m
  refine g_aload_n hC rfl 1 rfl (rfl : 2209 + 1 = 2210) (xdt tt_L_law20 53 rfl) ?_
  refine g_aload_n hC rfl 0 rfl (rfl : 2210 + 1 = 2211) (xdt tt_L_law20 54 rfl) ?_
  refine g_iload hC 4 rfl (rfl : 2211 + 2 = 2213) (xdt tt_L_law20 55 rfl) ?_
  refine g_iconst hC (rfl : 2213 + 1 = 2214) (xdt tt_L_law20 56 rfl) ?_
  refine g_iadd hC (rfl : 2214 + 1 = 2215) (xdt tt_L_law20 57 rfl) ?_
  obtain ⟨hi751, h⟩ := ckI_i h
  refine g_sld hC hs hi751 (rfl : 2215 + 1 = 2216) (xdt tt_L_law20 58 rfl) ?_
  refine g_aload_n hC rfl 3 rfl (rfl : 2216 + 1 = 2217) (xdt tt_L_law20 59 rfl) ?_
  obtain ⟨v754, S753, hc752, h⟩ := bd2_i h
  refine g_lcallW hC (lw_z16 hL hm2) (lw_tr hL) mw_L_cyclesUntil q1458 ⟨Nat.le_of_ble_eq_true rfl, Nat.le_of_ble_eq_true rfl⟩ [vr E r1 0, vi (sc (wr (x4 + 1)).toNat), vr E r3 0] rfl (fun l htr => c_L_cyclesUntil_p3_0_5_0 l htr hk1 hA1 hk3 hc752) rfl (Nat.le_of_ble_eq_true rfl) (xdt tt_L_law21 0 rfl) ?_
  rw [bump_kc]
  have hC := hL.1 (m + 1)
  have hs := hL.2.1 (m + 1)
  refine g_istore hC (by decide) (lv' := [(5, vi v754), (0, .ref b), (1, vr E r1 0), (2, vr E r2 0), (3, vr E r3 0), (4, vi x4)]) rfl (rfl : 2220 + 2 = 2222) (xdt tt_L_law21 1 rfl) ?_
  refine g_aload_n hC rfl 3 rfl (rfl : 2222 + 1 = 2223) (xdt tt_L_law21 2 rfl) ?_
  refine g_aload_n hC rfl 1 rfl (rfl : 2223 + 1 = 2224) (xdt tt_L_law21 3 rfl) ?_
  refine g_iload hC 5 rfl (rfl : 2224 + 2 = 2226) (xdt tt_L_law21 4 rfl) ?_
  refine g_iconst hC (rfl : 2226 + 1 = 2227) (xdt tt_L_law21 5 rfl) ?_
  refine g_iadd hC (rfl : 2227 + 1 = 2228) (xdt tt_L_law21 6 rfl) ?_
  obtain ⟨hi756, h⟩ := ckI_i h
  refine g_sld hC hs hi756 (rfl : 2228 + 1 = 2229) (xdt tt_L_law21 7 rfl) ?_
  obtain ⟨v759, S758, hc757, h⟩ := bd2_i h
  refine g_lcallVi hC (lw_z0 hL (show m + 1 ≤ 512 by omega)) hk2 kclX12 ly4_0 m_X12_cyclesUntil q1465 ⟨Nat.le_of_ble_eq_true rfl, Nat.le_of_ble_eq_true rfl⟩ [vi (sc (wr (x4 + 1)).toNat)] rfl (fun l => c_X12_cyclesUntil_p4_0 l hk2 hc757) rfl (Nat.le_of_ble_eq_true rfl) (rfl : 2229 + 3 = 2232) (xdt tt_L_law21 8 rfl) ?_
  refine g_istore hC (by decide) (lv' := [(6, vi v759), (5, vi v754), (0, .ref b), (1, vr E r1 0), (2, vr E r2 0), (3, vr E r3 0), (4, vi x4)]) rfl (rfl : 2232 + 2 = 2234) (xdt tt_L_law21 9 rfl) ?_
  refine g_aload_n hC rfl 4 rfl (rfl : 2234 + 1 = 2235) (xdt tt_L_law21 10 rfl) ?_
  obtain ⟨v763, S762, hc761, h⟩ := bd2_i h
  refine g_lcallVi hC (lw_z0 hL (show m + 1 ≤ 512 by omega)) hk2 kclX12 ly4_0 m_X12_thrown q672 ⟨Nat.le_of_ble_eq_true rfl, Nat.le_of_ble_eq_true rfl⟩ [] rfl (fun l => c_X12_thrown_p4_0 l hk2 hc761) rfl (Nat.le_of_ble_eq_true rfl) (rfl : 2235 + 3 = 2238) (xdt tt_L_law21 11 rfl) ?_
  refine g_iload hC 1 rfl (rfl : 2238 + 2 = 2240) (xdt tt_L_law21 12 rfl) ?_
  refine g_icmp_eq hC (show ((2240 : Nat) : Int) + 5 = ((2245 : Nat) : Int) by decide) (rfl : 2240 + 3 = 2243) (xdt tt_L_law21 13 rfl) (fun hc767 => ?_) (fun hc767 => ?_)
  · replace h := (if_pos hc767).symm.trans h
    refine g_iload hC 1 rfl (rfl : 2245 + 2 = 2247) (xdt tt_L_law21 16 rfl) ?_
    refine g_if_ne hC (show ((2247 : Nat) : Int) + 15 = ((2262 : Nat) : Int) by decide) (rfl : 2247 + 3 = 2250) (xdt tt_L_law21 17 rfl) (fun hc766 => ?_) (fun hc766 => ?_)
    · replace h := (if_pos hc766).symm.trans h
      refine g_goto hC (show ((2262 : Nat) : Int) + 277 = ((2539 : Nat) : Int) by decide) (xdt tt_L_law21 27 rfl) ?_
      refine g_iinc hC 6 rfl (by decide) (lv' := [(4, vi (x4 + 6)), (6, vi v759), (5, vi v754), (0, .ref b), (1, vr E r1 0), (2, vr E r2 0), (3, vr E r3 0)]) rfl (rfl : 2539 + 3 = 2542) (xdt tt_L_law24 22 rfl) ?_
      refine g_goto hC (show ((2542 : Nat) : Int) + (-2519) = ((23 : Nat) : Int) by decide) (xdt tt_L_law24 23 rfl) ?_
      refine g_sub [3, 4, 5, 6, 0] (lv' := [(0, .ref b), (1, vr E r1 0), (2, vr E r2 0), (3, vr E r3 0), (4, vi (x4 + 6))]) rfl ?_
      exact hrec _ _ _ (m + 1) h (by omega) (by omega)
    · replace h := (if_neg hc766).symm.trans h
      refine g_aload_n hC rfl 5 rfl (rfl : 2250 + 1 = 2251) (xdt tt_L_law21 18 rfl) ?_
      refine g_iconst hC (rfl : 2251 + 1 = 2252) (xdt tt_L_law21 19 rfl) ?_
      refine g_lald hC hk3 ly5_0 (by decide) (rfl : 2252 + 1 = 2253) (xdt tt_L_law21 20 rfl) (k0 := 0) (by decide) ?_
      refine g_iload hC 0 rfl (rfl : 2253 + 2 = 2255) (xdt tt_L_law21 21 rfl) ?_
      refine g_i2l hC (rfl : 2255 + 1 = 2256) (xdt tt_L_law21 22 rfl) ?_
      refine g_lcmp hC (rfl : 2256 + 1 = 2257) (xdt tt_L_law21 23 rfl) ?_
      refine g_if_eq hC (show ((2257 : Nat) : Int) + 5 = ((2262 : Nat) : Int) by decide) (rfl : 2257 + 3 = 2260) (xdt tt_L_law21 24 rfl) (fun hc765 => ?_) (fun hc765 => ?_)
      · replace h := (if_pos hc765).symm.trans h
        refine g_goto hC (show ((2262 : Nat) : Int) + 277 = ((2539 : Nat) : Int) by decide) (xdt tt_L_law21 27 rfl) ?_
        refine g_iinc hC 6 rfl (by decide) (lv' := [(4, vi (x4 + 6)), (6, vi v759), (5, vi v754), (0, .ref b), (1, vr E r1 0), (2, vr E r2 0), (3, vr E r3 0)]) rfl (rfl : 2539 + 3 = 2542) (xdt tt_L_law24 22 rfl) ?_
        refine g_goto hC (show ((2542 : Nat) : Int) + (-2519) = ((23 : Nat) : Int) by decide) (xdt tt_L_law24 23 rfl) ?_
        refine g_sub [3, 4, 5, 6, 0] (lv' := [(0, .ref b), (1, vr E r1 0), (2, vr E r2 0), (3, vr E r3 0), (4, vi (x4 + 6))]) rfl ?_
        exact hrec _ _ _ (m + 1) h (by omega) (by omega)
      · replace h := (if_neg hc765).symm.trans h
        cases h
  · replace h := (if_neg hc767).symm.trans h
    cases h
set_option maxRecDepth 100000 in
set_option maxHeartbeats 4000000 in
theorem k_law_b2265 {K : xCtx} {E : xE} {b0 b1 b L : Nat} {sc : Nat → Int} {r1 r2 r3 : Nat} (hL : lwC K E b0 b1 b L sc) (hk1 : xkd E r1 = 3) (hA1 : xFam E r1) (hk2 : xkd E r2 = 4) (hk3 : xkd E r3 = 5) {c23 : xSt → Int → Option xSt} {x4 : Int} {m : Nat} (hm : x4 = 6 * (m : Int)) (hm2 : m < 512) {S S' : xSt} (hrec : ∀ (S S' : xSt) (z : Int) (k : Nat), c23 S z = some S' → z = 6 * (k : Int) → k ≤ 512 → WG (kc K b0 b1 k) E 23 [(0, .ref b), (1, vr E r1 0), (2, vr E r2 0), (3, vr E r3 0), (4, vi z)] [] S) (h : f_law_b2265 c23 r1 r2 r3 L sc S x4 = some S') : WG (kc K b0 b1 m) E 2265 [(0, .ref b), (1, vr E r1 0), (2, vr E r2 0), (3, vr E r3 0), (4, vi x4)] [] S := by
  unfold f_law_b2265 at h
  have hC := hL.1 m
  have hs := hL.2.1 m
  refine g_aload_n hC rfl 1 rfl (rfl : 2265 + 1 = 2266) (xdt tt_L_law21 28 rfl) ?_
  refine g_aload_n hC rfl 0 rfl (rfl : 2266 + 1 = 2267) (xdt tt_L_law21 29 rfl) ?_
  refine g_iload hC 4 rfl (rfl : 2267 + 2 = 2269) (xdt tt_L_law21 30 rfl) ?_
  refine g_iconst hC (rfl : 2269 + 1 = 2270) (xdt tt_L_law21 31 rfl) ?_
  refine g_iadd hC (rfl : 2270 + 1 = 2271) (xdt tt_L_law21 32 rfl) ?_
  obtain ⟨hi769, h⟩ := ckI_i h
  refine g_sld hC hs hi769 (rfl : 2271 + 1 = 2272) (xdt tt_L_law21 33 rfl) ?_
  refine g_aload_n hC rfl 3 rfl (rfl : 2272 + 1 = 2273) (xdt tt_L_law21 34 rfl) ?_
  obtain ⟨v772, S771, hc770, h⟩ := bd2_i h
  refine g_lcallW hC (lw_z16 hL hm2) (lw_tr hL) mw_L_mainCauseIn q1469 ⟨Nat.le_of_ble_eq_true rfl, Nat.le_of_ble_eq_true rfl⟩ [vr E r1 0, vi (sc (wr (x4 + 1)).toNat), vr E r3 0] rfl (fun l htr => c_L_mainCauseIn_p3_0_5_0 l htr hk1 hA1 hk3 hc770) rfl (Nat.le_of_ble_eq_true rfl) (xdt tt_L_law21 35 rfl) ?_
  rw [bump_kc]
  have hC := hL.1 (m + 1)
  have hs := hL.2.1 (m + 1)
  refine g_istore hC (by decide) (lv' := [(5, vi v772), (0, .ref b), (1, vr E r1 0), (2, vr E r2 0), (3, vr E r3 0), (4, vi x4)]) rfl (rfl : 2276 + 2 = 2278) (xdt tt_L_law21 36 rfl) ?_
  refine g_aload_n hC rfl 3 rfl (rfl : 2278 + 1 = 2279) (xdt tt_L_law21 37 rfl) ?_
  refine g_aload_n hC rfl 1 rfl (rfl : 2279 + 1 = 2280) (xdt tt_L_law21 38 rfl) ?_
  refine g_iload hC 5 rfl (rfl : 2280 + 2 = 2282) (xdt tt_L_law21 39 rfl) ?_
  refine g_iconst hC (rfl : 2282 + 1 = 2283) (xdt tt_L_law21 40 rfl) ?_
  refine g_iadd hC (rfl : 2283 + 1 = 2284) (xdt tt_L_law21 41 rfl) ?_
  obtain ⟨hi774, h⟩ := ckI_i h
  refine g_sld hC hs hi774 (rfl : 2284 + 1 = 2285) (xdt tt_L_law21 42 rfl) ?_
  obtain ⟨v777, S776, hc775, h⟩ := bd2_i h
  refine g_lcallVi hC (lw_z0 hL (show m + 1 ≤ 512 by omega)) hk2 kclX12 ly4_0 m_X12_mainCauseIn q1476 ⟨Nat.le_of_ble_eq_true rfl, Nat.le_of_ble_eq_true rfl⟩ [vi (sc (wr (x4 + 1)).toNat)] rfl (fun l => c_X12_mainCauseIn_p4_0 l hk2 hc775) rfl (Nat.le_of_ble_eq_true rfl) (rfl : 2285 + 3 = 2288) (xdt tt_L_law21 43 rfl) ?_
  refine g_istore hC (by decide) (lv' := [(6, vi v777), (5, vi v772), (0, .ref b), (1, vr E r1 0), (2, vr E r2 0), (3, vr E r3 0), (4, vi x4)]) rfl (rfl : 2288 + 2 = 2290) (xdt tt_L_law21 44 rfl) ?_
  refine g_aload_n hC rfl 4 rfl (rfl : 2290 + 1 = 2291) (xdt tt_L_law21 45 rfl) ?_
  obtain ⟨v781, S780, hc779, h⟩ := bd2_i h
  refine g_lcallVi hC (lw_z0 hL (show m + 1 ≤ 512 by omega)) hk2 kclX12 ly4_0 m_X12_thrown q672 ⟨Nat.le_of_ble_eq_true rfl, Nat.le_of_ble_eq_true rfl⟩ [] rfl (fun l => c_X12_thrown_p4_0 l hk2 hc779) rfl (Nat.le_of_ble_eq_true rfl) (rfl : 2291 + 3 = 2294) (xdt tt_L_law21 46 rfl) ?_
  refine g_iload hC 1 rfl (rfl : 2294 + 2 = 2296) (xdt tt_L_law21 47 rfl) ?_
  refine g_icmp_eq hC (show ((2296 : Nat) : Int) + 5 = ((2301 : Nat) : Int) by decide) (rfl : 2296 + 3 = 2299) (xdt tt_L_law21 48 rfl) (fun hc785 => ?_) (fun hc785 => ?_)
  · replace h := (if_pos hc785).symm.trans h
    refine g_iload hC 1 rfl (rfl : 2301 + 2 = 2303) (xdt tt_L_law21 51 rfl) ?_
    refine g_if_ne hC (show ((2303 : Nat) : Int) + 15 = ((2318 : Nat) : Int) by decide) (rfl : 2303 + 3 = 2306) (xdt tt_L_law21 52 rfl) (fun hc784 => ?_) (fun hc784 => ?_)
    · replace h := (if_pos hc784).symm.trans h
      refine g_goto hC (show ((2318 : Nat) : Int) + 221 = ((2539 : Nat) : Int) by decide) (xdt tt_L_law22 2 rfl) ?_
      refine g_iinc hC 6 rfl (by decide) (lv' := [(4, vi (x4 + 6)), (6, vi v777), (5, vi v772), (0, .ref b), (1, vr E r1 0), (2, vr E r2 0), (3, vr E r3 0)]) rfl (rfl : 2539 + 3 = 2542) (xdt tt_L_law24 22 rfl) ?_
      refine g_goto hC (show ((2542 : Nat) : Int) + (-2519) = ((23 : Nat) : Int) by decide) (xdt tt_L_law24 23 rfl) ?_
      refine g_sub [3, 4, 5, 6, 0] (lv' := [(0, .ref b), (1, vr E r1 0), (2, vr E r2 0), (3, vr E r3 0), (4, vi (x4 + 6))]) rfl ?_
      exact hrec _ _ _ (m + 1) h (by omega) (by omega)
    · replace h := (if_neg hc784).symm.trans h
      refine g_aload_n hC rfl 5 rfl (rfl : 2306 + 1 = 2307) (xdt tt_L_law21 53 rfl) ?_
      refine g_iconst hC (rfl : 2307 + 1 = 2308) (xdt tt_L_law21 54 rfl) ?_
      refine g_lald hC hk3 ly5_0 (by decide) (rfl : 2308 + 1 = 2309) (xdt tt_L_law21 55 rfl) (k0 := 0) (by decide) ?_
      refine g_iload hC 0 rfl (rfl : 2309 + 2 = 2311) (xdt tt_L_law21 56 rfl) ?_
      refine g_i2l hC (rfl : 2311 + 1 = 2312) (xdt tt_L_law21 57 rfl) ?_
      refine g_lcmp hC (rfl : 2312 + 1 = 2313) (xdt tt_L_law21 58 rfl) ?_
      refine g_if_eq hC (show ((2313 : Nat) : Int) + 5 = ((2318 : Nat) : Int) by decide) (rfl : 2313 + 3 = 2316) (xdt tt_L_law21 59 rfl) (fun hc783 => ?_) (fun hc783 => ?_)
      · replace h := (if_pos hc783).symm.trans h
        refine g_goto hC (show ((2318 : Nat) : Int) + 221 = ((2539 : Nat) : Int) by decide) (xdt tt_L_law22 2 rfl) ?_
        refine g_iinc hC 6 rfl (by decide) (lv' := [(4, vi (x4 + 6)), (6, vi v777), (5, vi v772), (0, .ref b), (1, vr E r1 0), (2, vr E r2 0), (3, vr E r3 0)]) rfl (rfl : 2539 + 3 = 2542) (xdt tt_L_law24 22 rfl) ?_
        refine g_goto hC (show ((2542 : Nat) : Int) + (-2519) = ((23 : Nat) : Int) by decide) (xdt tt_L_law24 23 rfl) ?_
        refine g_sub [3, 4, 5, 6, 0] (lv' := [(0, .ref b), (1, vr E r1 0), (2, vr E r2 0), (3, vr E r3 0), (4, vi (x4 + 6))]) rfl ?_
        exact hrec _ _ _ (m + 1) h (by omega) (by omega)
      · replace h := (if_neg hc783).symm.trans h
        cases h
  · replace h := (if_neg hc785).symm.trans h
    cases h
set_option maxRecDepth 100000 in
set_option maxHeartbeats 4000000 in
theorem k_law_b2321 {K : xCtx} {E : xE} {b0 b1 b L : Nat} {sc : Nat → Int} {r1 r2 r3 : Nat} (hL : lwC K E b0 b1 b L sc) (hk1 : xkd E r1 = 3) (hA1 : xFam E r1) (hk2 : xkd E r2 = 4) (hk3 : xkd E r3 = 5) {c23 : xSt → Int → Option xSt} {x4 : Int} {m : Nat} (hm : x4 = 6 * (m : Int)) (hm2 : m < 512) {S S' : xSt} (hrec : ∀ (S S' : xSt) (z : Int) (k : Nat), c23 S z = some S' → z = 6 * (k : Int) → k ≤ 512 → WG (kc K b0 b1 k) E 23 [(0, .ref b), (1, vr E r1 0), (2, vr E r2 0), (3, vr E r3 0), (4, vi z)] [] S) (h : f_law_b2321 c23 r1 r2 r3 L sc S x4 = some S') : WG (kc K b0 b1 m) E 2321 [(0, .ref b), (1, vr E r1 0), (2, vr E r2 0), (3, vr E r3 0), (4, vi x4)] [] S := by
  unfold f_law_b2321 at h
  have hC := hL.1 m
  have hs := hL.2.1 m
  refine g_aload_n hC rfl 1 rfl (rfl : 2321 + 1 = 2322) (xdt tt_L_law22 3 rfl) ?_
  refine g_aload_n hC rfl 0 rfl (rfl : 2322 + 1 = 2323) (xdt tt_L_law22 4 rfl) ?_
  refine g_iload hC 4 rfl (rfl : 2323 + 2 = 2325) (xdt tt_L_law22 5 rfl) ?_
  refine g_iconst hC (rfl : 2325 + 1 = 2326) (xdt tt_L_law22 6 rfl) ?_
  refine g_iadd hC (rfl : 2326 + 1 = 2327) (xdt tt_L_law22 7 rfl) ?_
  obtain ⟨hi787, h⟩ := ckI_i h
  refine g_sld hC hs hi787 (rfl : 2327 + 1 = 2328) (xdt tt_L_law22 8 rfl) ?_
  refine g_aload_n hC rfl 0 rfl (rfl : 2328 + 1 = 2329) (xdt tt_L_law22 9 rfl) ?_
  refine g_iload hC 4 rfl (rfl : 2329 + 2 = 2331) (xdt tt_L_law22 10 rfl) ?_
  refine g_iconst hC (rfl : 2331 + 1 = 2332) (xdt tt_L_law22 11 rfl) ?_
  refine g_iadd hC (rfl : 2332 + 1 = 2333) (xdt tt_L_law22 12 rfl) ?_
  obtain ⟨hi788, h⟩ := ckI_i h
  refine g_sld hC hs hi788 (rfl : 2333 + 1 = 2334) (xdt tt_L_law22 13 rfl) ?_
  refine g_aload_n hC rfl 0 rfl (rfl : 2334 + 1 = 2335) (xdt tt_L_law22 14 rfl) ?_
  refine g_iload hC 4 rfl (rfl : 2335 + 2 = 2337) (xdt tt_L_law22 15 rfl) ?_
  refine g_iconst hC (rfl : 2337 + 1 = 2338) (xdt tt_L_law22 16 rfl) ?_
  refine g_iadd hC (rfl : 2338 + 1 = 2339) (xdt tt_L_law22 17 rfl) ?_
  obtain ⟨hi789, h⟩ := ckI_i h
  refine g_sld hC hs hi789 (rfl : 2339 + 1 = 2340) (xdt tt_L_law22 18 rfl) ?_
  refine g_aload_n hC rfl 3 rfl (rfl : 2340 + 1 = 2341) (xdt tt_L_law22 19 rfl) ?_
  obtain ⟨v792, S791, hc790, h⟩ := bd2_i h
  refine g_lcallW hC (lw_z16 hL hm2) (lw_tr hL) mw_L_ruleGain q1480 ⟨Nat.le_of_ble_eq_true rfl, Nat.le_of_ble_eq_true rfl⟩ [vr E r1 0, vi (sc (wr (x4 + 1)).toNat), vi (sc (wr (x4 + 2)).toNat), vi (sc (wr (x4 + 3)).toNat), vr E r3 0] rfl (fun l htr => c_L_ruleGain_p3_0_5_0 l htr hk1 hA1 hk3 hc790) rfl (Nat.le_of_ble_eq_true rfl) (xdt tt_L_law22 20 rfl) ?_
  rw [bump_kc]
  have hC := hL.1 (m + 1)
  have hs := hL.2.1 (m + 1)
  refine g_istore hC (by decide) (lv' := [(5, vi v792), (0, .ref b), (1, vr E r1 0), (2, vr E r2 0), (3, vr E r3 0), (4, vi x4)]) rfl (rfl : 2344 + 2 = 2346) (xdt tt_L_law22 21 rfl) ?_
  refine g_aload_n hC rfl 3 rfl (rfl : 2346 + 1 = 2347) (xdt tt_L_law22 22 rfl) ?_
  refine g_aload_n hC rfl 1 rfl (rfl : 2347 + 1 = 2348) (xdt tt_L_law22 23 rfl) ?_
  refine g_iload hC 5 rfl (rfl : 2348 + 2 = 2350) (xdt tt_L_law22 24 rfl) ?_
  refine g_iconst hC (rfl : 2350 + 1 = 2351) (xdt tt_L_law22 25 rfl) ?_
  refine g_iadd hC (rfl : 2351 + 1 = 2352) (xdt tt_L_law22 26 rfl) ?_
  obtain ⟨hi794, h⟩ := ckI_i h
  refine g_sld hC hs hi794 (rfl : 2352 + 1 = 2353) (xdt tt_L_law22 27 rfl) ?_
  refine g_aload_n hC rfl 1 rfl (rfl : 2353 + 1 = 2354) (xdt tt_L_law22 28 rfl) ?_
  refine g_iload hC 5 rfl (rfl : 2354 + 2 = 2356) (xdt tt_L_law22 29 rfl) ?_
  refine g_iconst hC (rfl : 2356 + 1 = 2357) (xdt tt_L_law22 30 rfl) ?_
  refine g_iadd hC (rfl : 2357 + 1 = 2358) (xdt tt_L_law22 31 rfl) ?_
  obtain ⟨hi795, h⟩ := ckI_i h
  refine g_sld hC hs hi795 (rfl : 2358 + 1 = 2359) (xdt tt_L_law22 32 rfl) ?_
  refine g_aload_n hC rfl 1 rfl (rfl : 2359 + 1 = 2360) (xdt tt_L_law22 33 rfl) ?_
  refine g_iload hC 5 rfl (rfl : 2360 + 2 = 2362) (xdt tt_L_law22 34 rfl) ?_
  refine g_iconst hC (rfl : 2362 + 1 = 2363) (xdt tt_L_law22 35 rfl) ?_
  refine g_iadd hC (rfl : 2363 + 1 = 2364) (xdt tt_L_law22 36 rfl) ?_
  obtain ⟨hi796, h⟩ := ckI_i h
  refine g_sld hC hs hi796 (rfl : 2364 + 1 = 2365) (xdt tt_L_law22 37 rfl) ?_
  obtain ⟨v799, S798, hc797, h⟩ := bd2_i h
  refine g_lcallVi hC (lw_z0 hL (show m + 1 ≤ 512 by omega)) hk2 kclX12 ly4_0 m_X12_ruleGain q1487 ⟨Nat.le_of_ble_eq_true rfl, Nat.le_of_ble_eq_true rfl⟩ [vi (sc (wr (x4 + 1)).toNat), vi (sc (wr (x4 + 2)).toNat), vi (sc (wr (x4 + 3)).toNat)] rfl (fun l => c_X12_ruleGain_p4_0 l hk2 hc797) rfl (Nat.le_of_ble_eq_true rfl) (rfl : 2365 + 3 = 2368) (xdt tt_L_law22 38 rfl) ?_
  refine g_istore hC (by decide) (lv' := [(6, vi v799), (5, vi v792), (0, .ref b), (1, vr E r1 0), (2, vr E r2 0), (3, vr E r3 0), (4, vi x4)]) rfl (rfl : 2368 + 2 = 2370) (xdt tt_L_law22 39 rfl) ?_
  refine g_aload_n hC rfl 4 rfl (rfl : 2370 + 1 = 2371) (xdt tt_L_law22 40 rfl) ?_
  obtain ⟨v803, S802, hc801, h⟩ := bd2_i h
  refine g_lcallVi hC (lw_z0 hL (show m + 1 ≤ 512 by omega)) hk2 kclX12 ly4_0 m_X12_thrown q672 ⟨Nat.le_of_ble_eq_true rfl, Nat.le_of_ble_eq_true rfl⟩ [] rfl (fun l => c_X12_thrown_p4_0 l hk2 hc801) rfl (Nat.le_of_ble_eq_true rfl) (rfl : 2371 + 3 = 2374) (xdt tt_L_law22 41 rfl) ?_
  refine g_iload hC 1 rfl (rfl : 2374 + 2 = 2376) (xdt tt_L_law22 42 rfl) ?_
  refine g_icmp_eq hC (show ((2376 : Nat) : Int) + 5 = ((2381 : Nat) : Int) by decide) (rfl : 2376 + 3 = 2379) (xdt tt_L_law22 43 rfl) (fun hc807 => ?_) (fun hc807 => ?_)
  · replace h := (if_pos hc807).symm.trans h
    refine g_iload hC 1 rfl (rfl : 2381 + 2 = 2383) (xdt tt_L_law22 46 rfl) ?_
    refine g_if_ne hC (show ((2383 : Nat) : Int) + 15 = ((2398 : Nat) : Int) by decide) (rfl : 2383 + 3 = 2386) (xdt tt_L_law22 47 rfl) (fun hc806 => ?_) (fun hc806 => ?_)
    · replace h := (if_pos hc806).symm.trans h
      refine g_goto hC (show ((2398 : Nat) : Int) + 141 = ((2539 : Nat) : Int) by decide) (xdt tt_L_law22 57 rfl) ?_
      refine g_iinc hC 6 rfl (by decide) (lv' := [(4, vi (x4 + 6)), (6, vi v799), (5, vi v792), (0, .ref b), (1, vr E r1 0), (2, vr E r2 0), (3, vr E r3 0)]) rfl (rfl : 2539 + 3 = 2542) (xdt tt_L_law24 22 rfl) ?_
      refine g_goto hC (show ((2542 : Nat) : Int) + (-2519) = ((23 : Nat) : Int) by decide) (xdt tt_L_law24 23 rfl) ?_
      refine g_sub [3, 4, 5, 6, 0] (lv' := [(0, .ref b), (1, vr E r1 0), (2, vr E r2 0), (3, vr E r3 0), (4, vi (x4 + 6))]) rfl ?_
      exact hrec _ _ _ (m + 1) h (by omega) (by omega)
    · replace h := (if_neg hc806).symm.trans h
      refine g_aload_n hC rfl 5 rfl (rfl : 2386 + 1 = 2387) (xdt tt_L_law22 48 rfl) ?_
      refine g_iconst hC (rfl : 2387 + 1 = 2388) (xdt tt_L_law22 49 rfl) ?_
      refine g_lald hC hk3 ly5_0 (by decide) (rfl : 2388 + 1 = 2389) (xdt tt_L_law22 50 rfl) (k0 := 0) (by decide) ?_
      refine g_iload hC 0 rfl (rfl : 2389 + 2 = 2391) (xdt tt_L_law22 51 rfl) ?_
      refine g_i2l hC (rfl : 2391 + 1 = 2392) (xdt tt_L_law22 52 rfl) ?_
      refine g_lcmp hC (rfl : 2392 + 1 = 2393) (xdt tt_L_law22 53 rfl) ?_
      refine g_if_eq hC (show ((2393 : Nat) : Int) + 5 = ((2398 : Nat) : Int) by decide) (rfl : 2393 + 3 = 2396) (xdt tt_L_law22 54 rfl) (fun hc805 => ?_) (fun hc805 => ?_)
      · replace h := (if_pos hc805).symm.trans h
        refine g_goto hC (show ((2398 : Nat) : Int) + 141 = ((2539 : Nat) : Int) by decide) (xdt tt_L_law22 57 rfl) ?_
        refine g_iinc hC 6 rfl (by decide) (lv' := [(4, vi (x4 + 6)), (6, vi v799), (5, vi v792), (0, .ref b), (1, vr E r1 0), (2, vr E r2 0), (3, vr E r3 0)]) rfl (rfl : 2539 + 3 = 2542) (xdt tt_L_law24 22 rfl) ?_
        refine g_goto hC (show ((2542 : Nat) : Int) + (-2519) = ((23 : Nat) : Int) by decide) (xdt tt_L_law24 23 rfl) ?_
        refine g_sub [3, 4, 5, 6, 0] (lv' := [(0, .ref b), (1, vr E r1 0), (2, vr E r2 0), (3, vr E r3 0), (4, vi (x4 + 6))]) rfl ?_
        exact hrec _ _ _ (m + 1) h (by omega) (by omega)
      · replace h := (if_neg hc805).symm.trans h
        cases h
  · replace h := (if_neg hc807).symm.trans h
    cases h
set_option maxRecDepth 100000 in
set_option maxHeartbeats 4000000 in
theorem k_law_b2401 {K : xCtx} {E : xE} {b0 b1 b L : Nat} {sc : Nat → Int} {r1 r2 r3 : Nat} (hL : lwC K E b0 b1 b L sc) (hk1 : xkd E r1 = 3) (hA1 : xFam E r1) (hk2 : xkd E r2 = 4) (hk3 : xkd E r3 = 5) {c23 : xSt → Int → Option xSt} {x4 : Int} {m : Nat} (hm : x4 = 6 * (m : Int)) (hm2 : m < 512) {S S' : xSt} (hrec : ∀ (S S' : xSt) (z : Int) (k : Nat), c23 S z = some S' → z = 6 * (k : Int) → k ≤ 512 → WG (kc K b0 b1 k) E 23 [(0, .ref b), (1, vr E r1 0), (2, vr E r2 0), (3, vr E r3 0), (4, vi z)] [] S) (h : f_law_b2401 c23 r1 r2 r3 L sc S x4 = some S') : WG (kc K b0 b1 m) E 2401 [(0, .ref b), (1, vr E r1 0), (2, vr E r2 0), (3, vr E r3 0), (4, vi x4)] [] S := by
  unfold f_law_b2401 at h
  have hC := hL.1 m
  have hs := hL.2.1 m
  refine g_aload_n hC rfl 1 rfl (rfl : 2401 + 1 = 2402) (xdt tt_L_law22 58 rfl) ?_
  refine g_aload_n hC rfl 0 rfl (rfl : 2402 + 1 = 2403) (xdt tt_L_law22 59 rfl) ?_
  refine g_iload hC 4 rfl (rfl : 2403 + 2 = 2405) (xdt tt_L_law23 0 rfl) ?_
  refine g_iconst hC (rfl : 2405 + 1 = 2406) (xdt tt_L_law23 1 rfl) ?_
  refine g_iadd hC (rfl : 2406 + 1 = 2407) (xdt tt_L_law23 2 rfl) ?_
  obtain ⟨hi809, h⟩ := ckI_i h
  refine g_sld hC hs hi809 (rfl : 2407 + 1 = 2408) (xdt tt_L_law23 3 rfl) ?_
  refine g_aload_n hC rfl 3 rfl (rfl : 2408 + 1 = 2409) (xdt tt_L_law23 4 rfl) ?_
  obtain ⟨v812, S811, hc810, h⟩ := bd2_i h
  refine g_lcallW hC (lw_z16 hL hm2) (lw_tr hL) mw_L_printInstruction q1495 ⟨Nat.le_of_ble_eq_true rfl, Nat.le_of_ble_eq_true rfl⟩ [vr E r1 0, vi (sc (wr (x4 + 1)).toNat), vr E r3 0] rfl (fun l htr => c_L_printInstruction_p3_0_5_0 l htr hk1 hA1 hk3 hc810) rfl (Nat.le_of_ble_eq_true rfl) (xdt tt_L_law23 5 rfl) ?_
  rw [bump_kc]
  have hC := hL.1 (m + 1)
  have hs := hL.2.1 (m + 1)
  refine g_istore hC (by decide) (lv' := [(5, vi v812), (0, .ref b), (1, vr E r1 0), (2, vr E r2 0), (3, vr E r3 0), (4, vi x4)]) rfl (rfl : 2412 + 2 = 2414) (xdt tt_L_law23 6 rfl) ?_
  refine g_aload_n hC rfl 3 rfl (rfl : 2414 + 1 = 2415) (xdt tt_L_law23 7 rfl) ?_
  refine g_aload_n hC rfl 1 rfl (rfl : 2415 + 1 = 2416) (xdt tt_L_law23 8 rfl) ?_
  refine g_iload hC 5 rfl (rfl : 2416 + 2 = 2418) (xdt tt_L_law23 9 rfl) ?_
  refine g_iconst hC (rfl : 2418 + 1 = 2419) (xdt tt_L_law23 10 rfl) ?_
  refine g_iadd hC (rfl : 2419 + 1 = 2420) (xdt tt_L_law23 11 rfl) ?_
  obtain ⟨hi814, h⟩ := ckI_i h
  refine g_sld hC hs hi814 (rfl : 2420 + 1 = 2421) (xdt tt_L_law23 12 rfl) ?_
  obtain ⟨v817, S816, hc815, h⟩ := bd2_i h
  refine g_lcallVi hC (lw_z0 hL (show m + 1 ≤ 512 by omega)) hk2 kclX12 ly4_0 m_X12_printInstruction q1524 ⟨Nat.le_of_ble_eq_true rfl, Nat.le_of_ble_eq_true rfl⟩ [vi (sc (wr (x4 + 1)).toNat)] rfl (fun l => c_X12_printInstruction_p4_0 l hk2 hc815) rfl (Nat.le_of_ble_eq_true rfl) (rfl : 2421 + 3 = 2424) (xdt tt_L_law23 13 rfl) ?_
  refine g_istore hC (by decide) (lv' := [(6, vi v817), (5, vi v812), (0, .ref b), (1, vr E r1 0), (2, vr E r2 0), (3, vr E r3 0), (4, vi x4)]) rfl (rfl : 2424 + 2 = 2426) (xdt tt_L_law23 14 rfl) ?_
  refine g_aload_n hC rfl 4 rfl (rfl : 2426 + 1 = 2427) (xdt tt_L_law23 15 rfl) ?_
  obtain ⟨v821, S820, hc819, h⟩ := bd2_i h
  refine g_lcallVi hC (lw_z0 hL (show m + 1 ≤ 512 by omega)) hk2 kclX12 ly4_0 m_X12_thrown q672 ⟨Nat.le_of_ble_eq_true rfl, Nat.le_of_ble_eq_true rfl⟩ [] rfl (fun l => c_X12_thrown_p4_0 l hk2 hc819) rfl (Nat.le_of_ble_eq_true rfl) (rfl : 2427 + 3 = 2430) (xdt tt_L_law23 16 rfl) ?_
  refine g_iload hC 1 rfl (rfl : 2430 + 2 = 2432) (xdt tt_L_law23 17 rfl) ?_
  refine g_icmp_eq hC (show ((2432 : Nat) : Int) + 5 = ((2437 : Nat) : Int) by decide) (rfl : 2432 + 3 = 2435) (xdt tt_L_law23 18 rfl) (fun hc825 => ?_) (fun hc825 => ?_)
  · replace h := (if_pos hc825).symm.trans h
    refine g_iload hC 1 rfl (rfl : 2437 + 2 = 2439) (xdt tt_L_law23 21 rfl) ?_
    refine g_if_ne hC (show ((2439 : Nat) : Int) + 15 = ((2454 : Nat) : Int) by decide) (rfl : 2439 + 3 = 2442) (xdt tt_L_law23 22 rfl) (fun hc824 => ?_) (fun hc824 => ?_)
    · replace h := (if_pos hc824).symm.trans h
      refine g_goto hC (show ((2454 : Nat) : Int) + 85 = ((2539 : Nat) : Int) by decide) (xdt tt_L_law23 32 rfl) ?_
      refine g_iinc hC 6 rfl (by decide) (lv' := [(4, vi (x4 + 6)), (6, vi v817), (5, vi v812), (0, .ref b), (1, vr E r1 0), (2, vr E r2 0), (3, vr E r3 0)]) rfl (rfl : 2539 + 3 = 2542) (xdt tt_L_law24 22 rfl) ?_
      refine g_goto hC (show ((2542 : Nat) : Int) + (-2519) = ((23 : Nat) : Int) by decide) (xdt tt_L_law24 23 rfl) ?_
      refine g_sub [3, 4, 5, 6, 0] (lv' := [(0, .ref b), (1, vr E r1 0), (2, vr E r2 0), (3, vr E r3 0), (4, vi (x4 + 6))]) rfl ?_
      exact hrec _ _ _ (m + 1) h (by omega) (by omega)
    · replace h := (if_neg hc824).symm.trans h
      refine g_aload_n hC rfl 5 rfl (rfl : 2442 + 1 = 2443) (xdt tt_L_law23 23 rfl) ?_
      refine g_iconst hC (rfl : 2443 + 1 = 2444) (xdt tt_L_law23 24 rfl) ?_
      refine g_lald hC hk3 ly5_0 (by decide) (rfl : 2444 + 1 = 2445) (xdt tt_L_law23 25 rfl) (k0 := 0) (by decide) ?_
      refine g_iload hC 0 rfl (rfl : 2445 + 2 = 2447) (xdt tt_L_law23 26 rfl) ?_
      refine g_i2l hC (rfl : 2447 + 1 = 2448) (xdt tt_L_law23 27 rfl) ?_
      refine g_lcmp hC (rfl : 2448 + 1 = 2449) (xdt tt_L_law23 28 rfl) ?_
      refine g_if_eq hC (show ((2449 : Nat) : Int) + 5 = ((2454 : Nat) : Int) by decide) (rfl : 2449 + 3 = 2452) (xdt tt_L_law23 29 rfl) (fun hc823 => ?_) (fun hc823 => ?_)
      · replace h := (if_pos hc823).symm.trans h
        refine g_goto hC (show ((2454 : Nat) : Int) + 85 = ((2539 : Nat) : Int) by decide) (xdt tt_L_law23 32 rfl) ?_
        refine g_iinc hC 6 rfl (by decide) (lv' := [(4, vi (x4 + 6)), (6, vi v817), (5, vi v812), (0, .ref b), (1, vr E r1 0), (2, vr E r2 0), (3, vr E r3 0)]) rfl (rfl : 2539 + 3 = 2542) (xdt tt_L_law24 22 rfl) ?_
        refine g_goto hC (show ((2542 : Nat) : Int) + (-2519) = ((23 : Nat) : Int) by decide) (xdt tt_L_law24 23 rfl) ?_
        refine g_sub [3, 4, 5, 6, 0] (lv' := [(0, .ref b), (1, vr E r1 0), (2, vr E r2 0), (3, vr E r3 0), (4, vi (x4 + 6))]) rfl ?_
        exact hrec _ _ _ (m + 1) h (by omega) (by omega)
      · replace h := (if_neg hc823).symm.trans h
        cases h
  · replace h := (if_neg hc825).symm.trans h
    cases h
set_option maxRecDepth 100000 in
set_option maxHeartbeats 4000000 in
theorem k_law_b2457 {K : xCtx} {E : xE} {b0 b1 b L : Nat} {sc : Nat → Int} {r1 r2 r3 : Nat} (hL : lwC K E b0 b1 b L sc) (hk1 : xkd E r1 = 3) (hA1 : xFam E r1) (hk2 : xkd E r2 = 4) (hk3 : xkd E r3 = 5) {c23 : xSt → Int → Option xSt} {x4 : Int} {m : Nat} (hm : x4 = 6 * (m : Int)) (hm2 : m < 512) {S S' : xSt} (hrec : ∀ (S S' : xSt) (z : Int) (k : Nat), c23 S z = some S' → z = 6 * (k : Int) → k ≤ 512 → WG (kc K b0 b1 k) E 23 [(0, .ref b), (1, vr E r1 0), (2, vr E r2 0), (3, vr E r3 0), (4, vi z)] [] S) (h : f_law_b2457 c23 r1 r2 r3 L sc S x4 = some S') : WG (kc K b0 b1 m) E 2457 [(0, .ref b), (1, vr E r1 0), (2, vr E r2 0), (3, vr E r3 0), (4, vi x4)] [] S := by
  unfold f_law_b2457 at h
  have hC := hL.1 m
  have hs := hL.2.1 m
  refine g_aload_n hC rfl 1 rfl (rfl : 2457 + 1 = 2458) (xdt tt_L_law23 33 rfl) ?_
  refine g_aload_n hC rfl 0 rfl (rfl : 2458 + 1 = 2459) (xdt tt_L_law23 34 rfl) ?_
  refine g_iload hC 4 rfl (rfl : 2459 + 2 = 2461) (xdt tt_L_law23 35 rfl) ?_
  refine g_iconst hC (rfl : 2461 + 1 = 2462) (xdt tt_L_law23 36 rfl) ?_
  refine g_iadd hC (rfl : 2462 + 1 = 2463) (xdt tt_L_law23 37 rfl) ?_
  obtain ⟨hi827, h⟩ := ckI_i h
  refine g_sld hC hs hi827 (rfl : 2463 + 1 = 2464) (xdt tt_L_law23 38 rfl) ?_
  obtain ⟨v830, S829, hc828, h⟩ := bd2_i h
  refine g_lcallVi hC (lw_z0 hL (show m ≤ 512 by omega)) hk1 kclX11 ly3_0 m_X11_outputByte q1541 ⟨Nat.le_of_ble_eq_true rfl, Nat.le_of_ble_eq_true rfl⟩ [vi (sc (wr (x4 + 1)).toNat)] rfl (fun l => c_X11_outputByte_p3_0 l hk1 hA1 hc828) rfl (Nat.le_of_ble_eq_true rfl) (rfl : 2464 + 3 = 2467) (xdt tt_L_law23 39 rfl) ?_
  refine g_aload_n hC rfl 2 rfl (rfl : 2467 + 1 = 2468) (xdt tt_L_law23 40 rfl) ?_
  refine g_aload_n hC rfl 0 rfl (rfl : 2468 + 1 = 2469) (xdt tt_L_law23 41 rfl) ?_
  refine g_iload hC 4 rfl (rfl : 2469 + 2 = 2471) (xdt tt_L_law23 42 rfl) ?_
  refine g_iconst hC (rfl : 2471 + 1 = 2472) (xdt tt_L_law23 43 rfl) ?_
  refine g_iadd hC (rfl : 2472 + 1 = 2473) (xdt tt_L_law23 44 rfl) ?_
  obtain ⟨hi832, h⟩ := ckI_i h
  refine g_sld hC hs hi832 (rfl : 2473 + 1 = 2474) (xdt tt_L_law23 45 rfl) ?_
  obtain ⟨v835, S834, hc833, h⟩ := bd2_i h
  refine g_lcallVi hC (lw_z0 hL (show m ≤ 512 by omega)) hk2 kclX12 ly4_0 m_X12_outputByte q1546 ⟨Nat.le_of_ble_eq_true rfl, Nat.le_of_ble_eq_true rfl⟩ [vi (sc (wr (x4 + 1)).toNat)] rfl (fun l => c_X12_outputByte_p4_0 l hk2 hc833) rfl (Nat.le_of_ble_eq_true rfl) (rfl : 2474 + 3 = 2477) (xdt tt_L_law23 46 rfl) ?_
  refine g_icmp_eq hC (show ((2477 : Nat) : Int) + 62 = ((2539 : Nat) : Int) by decide) (rfl : 2477 + 3 = 2480) (xdt tt_L_law23 47 rfl) (fun hc837 => ?_) (fun hc837 => ?_)
  · replace h := (if_pos hc837).symm.trans h
    refine g_iinc hC 4 rfl (by decide) (lv' := [(4, vi (x4 + 6)), (0, .ref b), (1, vr E r1 0), (2, vr E r2 0), (3, vr E r3 0)]) rfl (rfl : 2539 + 3 = 2542) (xdt tt_L_law24 22 rfl) ?_
    refine g_goto hC (show ((2542 : Nat) : Int) + (-2519) = ((23 : Nat) : Int) by decide) (xdt tt_L_law24 23 rfl) ?_
    refine g_sub [1, 2, 3, 4, 0] (lv' := [(0, .ref b), (1, vr E r1 0), (2, vr E r2 0), (3, vr E r3 0), (4, vi (x4 + 6))]) rfl ?_
    refine l_wid ?_
    exact hrec _ _ _ (m + 1) h (by omega) (by omega)
  · replace h := (if_neg hc837).symm.trans h
    cases h
set_option maxRecDepth 100000 in
set_option maxHeartbeats 4000000 in
theorem k_law_b2482 {K : xCtx} {E : xE} {b0 b1 b L : Nat} {sc : Nat → Int} {r1 r2 r3 : Nat} (hL : lwC K E b0 b1 b L sc) (hk1 : xkd E r1 = 3) (hA1 : xFam E r1) (hk2 : xkd E r2 = 4) (hk3 : xkd E r3 = 5) {c23 : xSt → Int → Option xSt} {x4 : Int} {m : Nat} (hm : x4 = 6 * (m : Int)) (hm2 : m < 512) {S S' : xSt} (hrec : ∀ (S S' : xSt) (z : Int) (k : Nat), c23 S z = some S' → z = 6 * (k : Int) → k ≤ 512 → WG (kc K b0 b1 k) E 23 [(0, .ref b), (1, vr E r1 0), (2, vr E r2 0), (3, vr E r3 0), (4, vi z)] [] S) (h : f_law_b2482 c23 r1 r2 r3 L sc S x4 = some S') : WG (kc K b0 b1 m) E 2482 [(0, .ref b), (1, vr E r1 0), (2, vr E r2 0), (3, vr E r3 0), (4, vi x4)] [] S := by
  unfold f_law_b2482 at h
  have hC := hL.1 m
  have hs := hL.2.1 m
  refine g_aload_n hC rfl 1 rfl (rfl : 2482 + 1 = 2483) (xdt tt_L_law23 50 rfl) ?_
  obtain ⟨v841, S840, hc839, h⟩ := bd2_i h
  refine g_lcallVi hC (lw_z0 hL (show m ≤ 512 by omega)) hk1 kclX11 ly3_0 m_X11_saveState q1550 ⟨Nat.le_of_ble_eq_true rfl, Nat.le_of_ble_eq_true rfl⟩ [] rfl (fun l => c_X11_saveState_p3_0 l hk1 hA1 hc839) rfl (Nat.le_of_ble_eq_true rfl) (rfl : 2483 + 3 = 2486) (xdt tt_L_law23 51 rfl) ?_
  refine g_aload_n hC rfl 2 rfl (rfl : 2486 + 1 = 2487) (xdt tt_L_law23 52 rfl) ?_
  obtain ⟨v845, S844, hc843, h⟩ := bd2_i h
  refine g_lcallVi hC (lw_z0 hL (show m ≤ 512 by omega)) hk2 kclX12 ly4_0 m_X12_saveState q1554 ⟨Nat.le_of_ble_eq_true rfl, Nat.le_of_ble_eq_true rfl⟩ [] rfl (fun l => c_X12_saveState_p4_0 l hk2 hc843) rfl (Nat.le_of_ble_eq_true rfl) (rfl : 2487 + 3 = 2490) (xdt tt_L_law23 53 rfl) ?_
  refine g_icmp_eq hC (show ((2490 : Nat) : Int) + 49 = ((2539 : Nat) : Int) by decide) (rfl : 2490 + 3 = 2493) (xdt tt_L_law23 54 rfl) (fun hc847 => ?_) (fun hc847 => ?_)
  · replace h := (if_pos hc847).symm.trans h
    refine g_iinc hC 4 rfl (by decide) (lv' := [(4, vi (x4 + 6)), (0, .ref b), (1, vr E r1 0), (2, vr E r2 0), (3, vr E r3 0)]) rfl (rfl : 2539 + 3 = 2542) (xdt tt_L_law24 22 rfl) ?_
    refine g_goto hC (show ((2542 : Nat) : Int) + (-2519) = ((23 : Nat) : Int) by decide) (xdt tt_L_law24 23 rfl) ?_
    refine g_sub [1, 2, 3, 4, 0] (lv' := [(0, .ref b), (1, vr E r1 0), (2, vr E r2 0), (3, vr E r3 0), (4, vi (x4 + 6))]) rfl ?_
    refine l_wid ?_
    exact hrec _ _ _ (m + 1) h (by omega) (by omega)
  · replace h := (if_neg hc847).symm.trans h
    cases h
set_option maxRecDepth 100000 in
set_option maxHeartbeats 4000000 in
theorem k_law_b2495 {K : xCtx} {E : xE} {b0 b1 b L : Nat} {sc : Nat → Int} {r1 r2 r3 : Nat} (hL : lwC K E b0 b1 b L sc) (hk1 : xkd E r1 = 3) (hA1 : xFam E r1) (hk2 : xkd E r2 = 4) (hk3 : xkd E r3 = 5) {c23 : xSt → Int → Option xSt} {x4 : Int} {m : Nat} (hm : x4 = 6 * (m : Int)) (hm2 : m < 512) {S S' : xSt} (hrec : ∀ (S S' : xSt) (z : Int) (k : Nat), c23 S z = some S' → z = 6 * (k : Int) → k ≤ 512 → WG (kc K b0 b1 k) E 23 [(0, .ref b), (1, vr E r1 0), (2, vr E r2 0), (3, vr E r3 0), (4, vi z)] [] S) (h : f_law_b2495 c23 r1 r2 r3 L sc S x4 = some S') : WG (kc K b0 b1 m) E 2495 [(0, .ref b), (1, vr E r1 0), (2, vr E r2 0), (3, vr E r3 0), (4, vi x4)] [] S := by
  unfold f_law_b2495 at h
  have hC := hL.1 m
  have hs := hL.2.1 m
  refine g_aload_n hC rfl 1 rfl (rfl : 2495 + 1 = 2496) (xdt tt_L_law23 57 rfl) ?_
  refine g_aload_n hC rfl 3 rfl (rfl : 2496 + 1 = 2497) (xdt tt_L_law23 58 rfl) ?_
  obtain ⟨v851, S850, hc849, h⟩ := bd2_i h
  refine g_lcallW hC (lw_z16 hL hm2) (lw_tr hL) mw_L_restoreState q1558 ⟨Nat.le_of_ble_eq_true rfl, Nat.le_of_ble_eq_true rfl⟩ [vr E r1 0, vr E r3 0] rfl (fun l htr => c_L_restoreState_p3_0_5_0 l htr hk1 hA1 hk3 hc849) rfl (Nat.le_of_ble_eq_true rfl) (xdt tt_L_law23 59 rfl) ?_
  rw [bump_kc]
  have hC := hL.1 (m + 1)
  have hs := hL.2.1 (m + 1)
  refine g_istore hC (by decide) (lv' := [(5, vi v851), (0, .ref b), (1, vr E r1 0), (2, vr E r2 0), (3, vr E r3 0), (4, vi x4)]) rfl (rfl : 2500 + 2 = 2502) (xdt tt_L_law24 0 rfl) ?_
  refine g_aload_n hC rfl 3 rfl (rfl : 2502 + 1 = 2503) (xdt tt_L_law24 1 rfl) ?_
  obtain ⟨v855, S854, hc853, h⟩ := bd2_i h
  refine g_lcallVi hC (lw_z0 hL (show m + 1 ≤ 512 by omega)) hk2 kclX12 ly4_0 m_X12_restoreState q1565 ⟨Nat.le_of_ble_eq_true rfl, Nat.le_of_ble_eq_true rfl⟩ [] rfl (fun l => c_X12_restoreState_p4_0 l hk2 hc853) rfl (Nat.le_of_ble_eq_true rfl) (rfl : 2503 + 3 = 2506) (xdt tt_L_law24 2 rfl) ?_
  refine g_istore hC (by decide) (lv' := [(6, vi v855), (5, vi v851), (0, .ref b), (1, vr E r1 0), (2, vr E r2 0), (3, vr E r3 0), (4, vi x4)]) rfl (rfl : 2506 + 2 = 2508) (xdt tt_L_law24 3 rfl) ?_
  refine g_aload_n hC rfl 4 rfl (rfl : 2508 + 1 = 2509) (xdt tt_L_law24 4 rfl) ?_
  obtain ⟨v859, S858, hc857, h⟩ := bd2_i h
  refine g_lcallVi hC (lw_z0 hL (show m + 1 ≤ 512 by omega)) hk2 kclX12 ly4_0 m_X12_thrown q672 ⟨Nat.le_of_ble_eq_true rfl, Nat.le_of_ble_eq_true rfl⟩ [] rfl (fun l => c_X12_thrown_p4_0 l hk2 hc857) rfl (Nat.le_of_ble_eq_true rfl) (rfl : 2509 + 3 = 2512) (xdt tt_L_law24 5 rfl) ?_
  refine g_iload hC 1 rfl (rfl : 2512 + 2 = 2514) (xdt tt_L_law24 6 rfl) ?_
  refine g_icmp_eq hC (show ((2514 : Nat) : Int) + 5 = ((2519 : Nat) : Int) by decide) (rfl : 2514 + 3 = 2517) (xdt tt_L_law24 7 rfl) (fun hc863 => ?_) (fun hc863 => ?_)
  · replace h := (if_pos hc863).symm.trans h
    refine g_iload hC 1 rfl (rfl : 2519 + 2 = 2521) (xdt tt_L_law24 10 rfl) ?_
    refine g_if_ne hC (show ((2521 : Nat) : Int) + 15 = ((2536 : Nat) : Int) by decide) (rfl : 2521 + 3 = 2524) (xdt tt_L_law24 11 rfl) (fun hc862 => ?_) (fun hc862 => ?_)
    · replace h := (if_pos hc862).symm.trans h
      refine g_goto hC (show ((2536 : Nat) : Int) + 3 = ((2539 : Nat) : Int) by decide) (xdt tt_L_law24 21 rfl) ?_
      refine g_iinc hC 6 rfl (by decide) (lv' := [(4, vi (x4 + 6)), (6, vi v855), (5, vi v851), (0, .ref b), (1, vr E r1 0), (2, vr E r2 0), (3, vr E r3 0)]) rfl (rfl : 2539 + 3 = 2542) (xdt tt_L_law24 22 rfl) ?_
      refine g_goto hC (show ((2542 : Nat) : Int) + (-2519) = ((23 : Nat) : Int) by decide) (xdt tt_L_law24 23 rfl) ?_
      refine g_sub [3, 4, 5, 6, 0] (lv' := [(0, .ref b), (1, vr E r1 0), (2, vr E r2 0), (3, vr E r3 0), (4, vi (x4 + 6))]) rfl ?_
      exact hrec _ _ _ (m + 1) h (by omega) (by omega)
    · replace h := (if_neg hc862).symm.trans h
      refine g_aload_n hC rfl 5 rfl (rfl : 2524 + 1 = 2525) (xdt tt_L_law24 12 rfl) ?_
      refine g_iconst hC (rfl : 2525 + 1 = 2526) (xdt tt_L_law24 13 rfl) ?_
      refine g_lald hC hk3 ly5_0 (by decide) (rfl : 2526 + 1 = 2527) (xdt tt_L_law24 14 rfl) (k0 := 0) (by decide) ?_
      refine g_iload hC 0 rfl (rfl : 2527 + 2 = 2529) (xdt tt_L_law24 15 rfl) ?_
      refine g_i2l hC (rfl : 2529 + 1 = 2530) (xdt tt_L_law24 16 rfl) ?_
      refine g_lcmp hC (rfl : 2530 + 1 = 2531) (xdt tt_L_law24 17 rfl) ?_
      refine g_if_eq hC (show ((2531 : Nat) : Int) + 5 = ((2536 : Nat) : Int) by decide) (rfl : 2531 + 3 = 2534) (xdt tt_L_law24 18 rfl) (fun hc861 => ?_) (fun hc861 => ?_)
      · replace h := (if_pos hc861).symm.trans h
        refine g_goto hC (show ((2536 : Nat) : Int) + 3 = ((2539 : Nat) : Int) by decide) (xdt tt_L_law24 21 rfl) ?_
        refine g_iinc hC 6 rfl (by decide) (lv' := [(4, vi (x4 + 6)), (6, vi v855), (5, vi v851), (0, .ref b), (1, vr E r1 0), (2, vr E r2 0), (3, vr E r3 0)]) rfl (rfl : 2539 + 3 = 2542) (xdt tt_L_law24 22 rfl) ?_
        refine g_goto hC (show ((2542 : Nat) : Int) + (-2519) = ((23 : Nat) : Int) by decide) (xdt tt_L_law24 23 rfl) ?_
        refine g_sub [3, 4, 5, 6, 0] (lv' := [(0, .ref b), (1, vr E r1 0), (2, vr E r2 0), (3, vr E r3 0), (4, vi (x4 + 6))]) rfl ?_
        exact hrec _ _ _ (m + 1) h (by omega) (by omega)
      · replace h := (if_neg hc861).symm.trans h
        cases h
  · replace h := (if_neg hc863).symm.trans h
    cases h
set_option maxRecDepth 100000 in
set_option maxHeartbeats 4000000 in
theorem k_law_b23 {K : xCtx} {E : xE} {b0 b1 b L : Nat} {sc : Nat → Int} {r1 r2 r3 : Nat} (hL : lwC K E b0 b1 b L sc) (hk1 : xkd E r1 = 3) (hA1 : xFam E r1) (hk2 : xkd E r2 = 4) (hk3 : xkd E r3 = 5) : ∀ (fuel : Nat) (S S' : xSt) (x4 : Int) (m : Nat), f_law_b23 r1 r2 r3 L sc fuel S x4 = some S' → x4 = 6 * (m : Int) → m ≤ 512 → WG (kc K b0 b1 m) E 23 [(0, .ref b), (1, vr E r1 0), (2, vr E r2 0), (3, vr E r3 0), (4, vi x4)] [] S := by
  intro fuel
  induction fuel with
  | zero => intro S S' x4 m h; cases h
  | succ fuel ih =>
    intro S S' x4 m h hm hm2
    rw [f_law_b23] at h
    have hC := hL.1 m
    have hs := hL.2.1 m
    refine g_iload hC 4 rfl (rfl : 23 + 2 = 25) (xdt tt_L_law0 13 rfl) ?_
    refine g_aload_n hC rfl 0 rfl (rfl : 25 + 1 = 26) (xdt tt_L_law0 14 rfl) ?_
    refine g_slen hC hs (rfl : 26 + 1 = 27) (xdt tt_L_law0 15 rfl) ?_
    refine g_bipush hC (by decide) (rfl : 27 + 2 = 29) (xdt tt_L_law0 16 rfl) ?_
    refine g_isub hC (rfl : 29 + 1 = 30) (xdt tt_L_law0 17 rfl) ?_
    refine g_icmp_gt hC (show ((30 : Nat) : Int) + 2515 = ((2545 : Nat) : Int) by decide) (rfl : 30 + 3 = 33) (xdt tt_L_law0 18 rfl) (fun hc865 => ?_) (fun hc865 => ?_)
    · replace h := (if_pos hc865).symm.trans h
      refine g_iconst hC (rfl : 2545 + 1 = 2546) (xdt tt_L_law24 24 rfl) ?_
      exact lw_end hL (show m ≤ 512 by omega) (xdt tt_L_law24 25 rfl)
    · replace h := (if_neg hc865).symm.trans h
      have hm3 := lw_m hL hm hm2 hc865
      refine g_aload_n hC rfl 0 rfl (rfl : 33 + 1 = 34) (xdt tt_L_law0 19 rfl) ?_
      refine g_iload hC 4 rfl (rfl : 34 + 2 = 36) (xdt tt_L_law0 20 rfl) ?_
      obtain ⟨hi1, h⟩ := ckI_i h
      refine g_sld hC hs hi1 (rfl : 36 + 1 = 37) (xdt tt_L_law0 21 rfl) ?_
      refine g_bipush hC (by decide) (rfl : 37 + 2 = 39) (xdt tt_L_law0 22 rfl) ?_
      refine g_iand hC (rfl : 39 + 1 = 40) (xdt tt_L_law0 23 rfl) ?_
      by_cases hs2 : wr (iA (sc (wr x4).toNat) 63) < 0 ∨ 47 < wr (iA (sc (wr x4).toNat) 63)
      · replace h := (if_pos hs2).symm.trans h
        refine g_tabOut hC (xdt tt_L_law0 24 rfl) hs2 (show ((40 : Nat) : Int) + 2499 = ((2539 : Nat) : Int) by decide) ?_
        refine g_iinc hC 4 rfl (by decide) (lv' := [(4, vi (x4 + 6)), (0, .ref b), (1, vr E r1 0), (2, vr E r2 0), (3, vr E r3 0)]) rfl (rfl : 2539 + 3 = 2542) (xdt tt_L_law24 22 rfl) ?_
        refine g_goto hC (show ((2542 : Nat) : Int) + (-2519) = ((23 : Nat) : Int) by decide) (xdt tt_L_law24 23 rfl) ?_
        refine g_sub [1, 2, 3, 4, 0] (lv' := [(0, .ref b), (1, vr E r1 0), (2, vr E r2 0), (3, vr E r3 0), (4, vi (x4 + 6))]) rfl ?_
        refine l_wid ?_
        exact ih _ _ _ (m + 1) h (by omega) (by omega)
      · replace h := (if_neg hs2).symm.trans h
        by_cases hv22 : wr (iA (sc (wr x4).toNat) 63) = 0
        · replace h := (if_pos hv22).symm.trans h
          refine g_tabIn hC (xdt tt_L_law0 24 rfl) (fun z => hs2 (Or.inl z)) (fun z => hs2 (Or.inr z)) (off := 208) (by rw [hv22]; rfl) (show ((40 : Nat) : Int) + 208 = ((248 : Nat) : Int) by decide) ?_
          refine g_sub [0, 1, 2, 3, 4] (lv' := [(0, .ref b), (1, vr E r1 0), (2, vr E r2 0), (3, vr E r3 0), (4, vi x4)]) rfl ?_
          exact k_law_b248 hL hk1 hA1 hk2 hk3 hm hm3 ih h
        · replace h := (if_neg hv22).symm.trans h
          by_cases hv34 : wr (iA (sc (wr x4).toNat) 63) = 1
          · replace h := (if_pos hv34).symm.trans h
            refine g_tabIn hC (xdt tt_L_law0 24 rfl) (fun z => hs2 (Or.inl z)) (fun z => hs2 (Or.inr z)) (off := 281) (by rw [hv34]; rfl) (show ((40 : Nat) : Int) + 281 = ((321 : Nat) : Int) by decide) ?_
            refine g_sub [0, 1, 2, 3, 4] (lv' := [(0, .ref b), (1, vr E r1 0), (2, vr E r2 0), (3, vr E r3 0), (4, vi x4)]) rfl ?_
            exact k_law_b321 hL hk1 hA1 hk2 hk3 hm hm3 ih h
          · replace h := (if_neg hv34).symm.trans h
            by_cases hv44 : wr (iA (sc (wr x4).toNat) 63) = 2
            · replace h := (if_pos hv44).symm.trans h
              refine g_tabIn hC (xdt tt_L_law0 24 rfl) (fun z => hs2 (Or.inl z)) (fun z => hs2 (Or.inr z)) (off := 306) (by rw [hv44]; rfl) (show ((40 : Nat) : Int) + 306 = ((346 : Nat) : Int) by decide) ?_
              refine g_sub [0, 1, 2, 3, 4] (lv' := [(0, .ref b), (1, vr E r1 0), (2, vr E r2 0), (3, vr E r3 0), (4, vi x4)]) rfl ?_
              exact k_law_b346 hL hk1 hA1 hk2 hk3 hm hm3 ih h
            · replace h := (if_neg hv44).symm.trans h
              by_cases hv54 : wr (iA (sc (wr x4).toNat) 63) = 3
              · replace h := (if_pos hv54).symm.trans h
                refine g_tabIn hC (xdt tt_L_law0 24 rfl) (fun z => hs2 (Or.inl z)) (fun z => hs2 (Or.inr z)) (off := 319) (by rw [hv54]; rfl) (show ((40 : Nat) : Int) + 319 = ((359 : Nat) : Int) by decide) ?_
                refine g_sub [0, 1, 2, 3, 4] (lv' := [(0, .ref b), (1, vr E r1 0), (2, vr E r2 0), (3, vr E r3 0), (4, vi x4)]) rfl ?_
                exact k_law_b359 hL hk1 hA1 hk2 hk3 hm hm3 ih h
              · replace h := (if_neg hv54).symm.trans h
                by_cases hv64 : wr (iA (sc (wr x4).toNat) 63) = 4
                · replace h := (if_pos hv64).symm.trans h
                  refine g_tabIn hC (xdt tt_L_law0 24 rfl) (fun z => hs2 (Or.inl z)) (fun z => hs2 (Or.inr z)) (off := 332) (by rw [hv64]; rfl) (show ((40 : Nat) : Int) + 332 = ((372 : Nat) : Int) by decide) ?_
                  refine g_sub [0, 1, 2, 3, 4] (lv' := [(0, .ref b), (1, vr E r1 0), (2, vr E r2 0), (3, vr E r3 0), (4, vi x4)]) rfl ?_
                  exact k_law_b372 hL hk1 hA1 hk2 hk3 hm hm3 ih h
                · replace h := (if_neg hv64).symm.trans h
                  by_cases hv76 : wr (iA (sc (wr x4).toNat) 63) = 5
                  · replace h := (if_pos hv76).symm.trans h
                    refine g_tabIn hC (xdt tt_L_law0 24 rfl) (fun z => hs2 (Or.inl z)) (fun z => hs2 (Or.inr z)) (off := 345) (by rw [hv76]; rfl) (show ((40 : Nat) : Int) + 345 = ((385 : Nat) : Int) by decide) ?_
                    refine g_sub [0, 1, 2, 3, 4] (lv' := [(0, .ref b), (1, vr E r1 0), (2, vr E r2 0), (3, vr E r3 0), (4, vi x4)]) rfl ?_
                    exact k_law_b385 hL hk1 hA1 hk2 hk3 hm hm3 ih h
                  · replace h := (if_neg hv76).symm.trans h
                    by_cases hv96 : wr (iA (sc (wr x4).toNat) 63) = 6
                    · replace h := (if_pos hv96).symm.trans h
                      refine g_tabIn hC (xdt tt_L_law0 24 rfl) (fun z => hs2 (Or.inl z)) (fun z => hs2 (Or.inr z)) (off := 370) (by rw [hv96]; rfl) (show ((40 : Nat) : Int) + 370 = ((410 : Nat) : Int) by decide) ?_
                      refine g_sub [0, 1, 2, 3, 4] (lv' := [(0, .ref b), (1, vr E r1 0), (2, vr E r2 0), (3, vr E r3 0), (4, vi x4)]) rfl ?_
                      exact k_law_b410 hL hk1 hA1 hk2 hk3 hm hm3 ih h
                    · replace h := (if_neg hv96).symm.trans h
                      by_cases hv108 : wr (iA (sc (wr x4).toNat) 63) = 7
                      · replace h := (if_pos hv108).symm.trans h
                        refine g_tabIn hC (xdt tt_L_law0 24 rfl) (fun z => hs2 (Or.inl z)) (fun z => hs2 (Or.inr z)) (off := 438) (by rw [hv108]; rfl) (show ((40 : Nat) : Int) + 438 = ((478 : Nat) : Int) by decide) ?_
                        refine g_sub [0, 1, 2, 3, 4] (lv' := [(0, .ref b), (1, vr E r1 0), (2, vr E r2 0), (3, vr E r3 0), (4, vi x4)]) rfl ?_
                        exact k_law_b478 hL hk1 hA1 hk2 hk3 hm hm3 ih h
                      · replace h := (if_neg hv108).symm.trans h
                        by_cases hv128 : wr (iA (sc (wr x4).toNat) 63) = 8
                        · replace h := (if_pos hv128).symm.trans h
                          refine g_tabIn hC (xdt tt_L_law0 24 rfl) (fun z => hs2 (Or.inl z)) (fun z => hs2 (Or.inr z)) (off := 463) (by rw [hv128]; rfl) (show ((40 : Nat) : Int) + 463 = ((503 : Nat) : Int) by decide) ?_
                          refine g_sub [0, 1, 2, 3, 4] (lv' := [(0, .ref b), (1, vr E r1 0), (2, vr E r2 0), (3, vr E r3 0), (4, vi x4)]) rfl ?_
                          exact k_law_b503 hL hk1 hA1 hk2 hk3 hm hm3 ih h
                        · replace h := (if_neg hv128).symm.trans h
                          by_cases hv148 : wr (iA (sc (wr x4).toNat) 63) = 9
                          · replace h := (if_pos hv148).symm.trans h
                            refine g_tabIn hC (xdt tt_L_law0 24 rfl) (fun z => hs2 (Or.inl z)) (fun z => hs2 (Or.inr z)) (off := 526) (by rw [hv148]; rfl) (show ((40 : Nat) : Int) + 526 = ((566 : Nat) : Int) by decide) ?_
                            refine g_sub [0, 1, 2, 3, 4] (lv' := [(0, .ref b), (1, vr E r1 0), (2, vr E r2 0), (3, vr E r3 0), (4, vi x4)]) rfl ?_
                            exact k_law_b566 hL hk1 hA1 hk2 hk3 hm hm3 ih h
                          · replace h := (if_neg hv148).symm.trans h
                            by_cases hv168 : wr (iA (sc (wr x4).toNat) 63) = 10
                            · replace h := (if_pos hv168).symm.trans h
                              refine g_tabIn hC (xdt tt_L_law0 24 rfl) (fun z => hs2 (Or.inl z)) (fun z => hs2 (Or.inr z)) (off := 589) (by rw [hv168]; rfl) (show ((40 : Nat) : Int) + 589 = ((629 : Nat) : Int) by decide) ?_
                              refine g_sub [0, 1, 2, 3, 4] (lv' := [(0, .ref b), (1, vr E r1 0), (2, vr E r2 0), (3, vr E r3 0), (4, vi x4)]) rfl ?_
                              exact k_law_b629 hL hk1 hA1 hk2 hk3 hm hm3 ih h
                            · replace h := (if_neg hv168).symm.trans h
                              by_cases hv178 : wr (iA (sc (wr x4).toNat) 63) = 11
                              · replace h := (if_pos hv178).symm.trans h
                                refine g_tabIn hC (xdt tt_L_law0 24 rfl) (fun z => hs2 (Or.inl z)) (fun z => hs2 (Or.inr z)) (off := 652) (by rw [hv178]; rfl) (show ((40 : Nat) : Int) + 652 = ((692 : Nat) : Int) by decide) ?_
                                refine g_sub [0, 1, 2, 3, 4] (lv' := [(0, .ref b), (1, vr E r1 0), (2, vr E r2 0), (3, vr E r3 0), (4, vi x4)]) rfl ?_
                                exact k_law_b692 hL hk1 hA1 hk2 hk3 hm hm3 ih h
                              · replace h := (if_neg hv178).symm.trans h
                                by_cases hv188 : wr (iA (sc (wr x4).toNat) 63) = 12
                                · replace h := (if_pos hv188).symm.trans h
                                  refine g_tabIn hC (xdt tt_L_law0 24 rfl) (fun z => hs2 (Or.inl z)) (fun z => hs2 (Or.inr z)) (off := 665) (by rw [hv188]; rfl) (show ((40 : Nat) : Int) + 665 = ((705 : Nat) : Int) by decide) ?_
                                  refine g_sub [0, 1, 2, 3, 4] (lv' := [(0, .ref b), (1, vr E r1 0), (2, vr E r2 0), (3, vr E r3 0), (4, vi x4)]) rfl ?_
                                  exact k_law_b705 hL hk1 hA1 hk2 hk3 hm hm3 ih h
                                · replace h := (if_neg hv188).symm.trans h
                                  by_cases hv250 : wr (iA (sc (wr x4).toNat) 63) = 13
                                  · replace h := (if_pos hv250).symm.trans h
                                    refine g_tabIn hC (xdt tt_L_law0 24 rfl) (fun z => hs2 (Or.inl z)) (fun z => hs2 (Or.inr z)) (off := 678) (by rw [hv250]; rfl) (show ((40 : Nat) : Int) + 678 = ((718 : Nat) : Int) by decide) ?_
                                    refine g_sub [0, 1, 2, 3, 4] (lv' := [(0, .ref b), (1, vr E r1 0), (2, vr E r2 0), (3, vr E r3 0), (4, vi x4)]) rfl ?_
                                    exact k_law_b718 hL hk1 hA1 hk2 hk3 hm hm3 ih h
                                  · replace h := (if_neg hv250).symm.trans h
                                    by_cases hv312 : wr (iA (sc (wr x4).toNat) 63) = 14
                                    · replace h := (if_pos hv312).symm.trans h
                                      refine g_tabIn hC (xdt tt_L_law0 24 rfl) (fun z => hs2 (Or.inl z)) (fun z => hs2 (Or.inr z)) (off := 762) (by rw [hv312]; rfl) (show ((40 : Nat) : Int) + 762 = ((802 : Nat) : Int) by decide) ?_
                                      refine g_sub [0, 1, 2, 3, 4] (lv' := [(0, .ref b), (1, vr E r1 0), (2, vr E r2 0), (3, vr E r3 0), (4, vi x4)]) rfl ?_
                                      exact k_law_b802 hL hk1 hA1 hk2 hk3 hm hm3 ih h
                                    · replace h := (if_neg hv312).symm.trans h
                                      by_cases hv330 : wr (iA (sc (wr x4).toNat) 63) = 15
                                      · replace h := (if_pos hv330).symm.trans h
                                        refine g_tabIn hC (xdt tt_L_law0 24 rfl) (fun z => hs2 (Or.inl z)) (fun z => hs2 (Or.inr z)) (off := 846) (by rw [hv330]; rfl) (show ((40 : Nat) : Int) + 846 = ((886 : Nat) : Int) by decide) ?_
                                        refine g_sub [0, 1, 2, 3, 4] (lv' := [(0, .ref b), (1, vr E r1 0), (2, vr E r2 0), (3, vr E r3 0), (4, vi x4)]) rfl ?_
                                        exact k_law_b886 hL hk1 hA1 hk2 hk3 hm hm3 ih h
                                      · replace h := (if_neg hv330).symm.trans h
                                        by_cases hv348 : wr (iA (sc (wr x4).toNat) 63) = 16
                                        · replace h := (if_pos hv348).symm.trans h
                                          refine g_tabIn hC (xdt tt_L_law0 24 rfl) (fun z => hs2 (Or.inl z)) (fun z => hs2 (Or.inr z)) (off := 902) (by rw [hv348]; rfl) (show ((40 : Nat) : Int) + 902 = ((942 : Nat) : Int) by decide) ?_
                                          refine g_sub [0, 1, 2, 3, 4] (lv' := [(0, .ref b), (1, vr E r1 0), (2, vr E r2 0), (3, vr E r3 0), (4, vi x4)]) rfl ?_
                                          exact k_law_b942 hL hk1 hA1 hk2 hk3 hm hm3 ih h
                                        · replace h := (if_neg hv348).symm.trans h
                                          by_cases hv358 : wr (iA (sc (wr x4).toNat) 63) = 17
                                          · replace h := (if_pos hv358).symm.trans h
                                            refine g_tabIn hC (xdt tt_L_law0 24 rfl) (fun z => hs2 (Or.inl z)) (fun z => hs2 (Or.inr z)) (off := 958) (by rw [hv358]; rfl) (show ((40 : Nat) : Int) + 958 = ((998 : Nat) : Int) by decide) ?_
                                            refine g_sub [0, 1, 2, 3, 4] (lv' := [(0, .ref b), (1, vr E r1 0), (2, vr E r2 0), (3, vr E r3 0), (4, vi x4)]) rfl ?_
                                            exact k_law_b998 hL hk1 hA1 hk2 hk3 hm hm3 ih h
                                          · replace h := (if_neg hv358).symm.trans h
                                            by_cases hv376 : wr (iA (sc (wr x4).toNat) 63) = 18
                                            · replace h := (if_pos hv376).symm.trans h
                                              refine g_tabIn hC (xdt tt_L_law0 24 rfl) (fun z => hs2 (Or.inl z)) (fun z => hs2 (Or.inr z)) (off := 971) (by rw [hv376]; rfl) (show ((40 : Nat) : Int) + 971 = ((1011 : Nat) : Int) by decide) ?_
                                              refine g_sub [0, 1, 2, 3, 4] (lv' := [(0, .ref b), (1, vr E r1 0), (2, vr E r2 0), (3, vr E r3 0), (4, vi x4)]) rfl ?_
                                              exact k_law_b1011 hL hk1 hA1 hk2 hk3 hm hm3 ih h
                                            · replace h := (if_neg hv376).symm.trans h
                                              by_cases hv386 : wr (iA (sc (wr x4).toNat) 63) = 19
                                              · replace h := (if_pos hv386).symm.trans h
                                                refine g_tabIn hC (xdt tt_L_law0 24 rfl) (fun z => hs2 (Or.inl z)) (fun z => hs2 (Or.inr z)) (off := 1027) (by rw [hv386]; rfl) (show ((40 : Nat) : Int) + 1027 = ((1067 : Nat) : Int) by decide) ?_
                                                refine g_sub [0, 1, 2, 3, 4] (lv' := [(0, .ref b), (1, vr E r1 0), (2, vr E r2 0), (3, vr E r3 0), (4, vi x4)]) rfl ?_
                                                exact k_law_b1067 hL hk1 hA1 hk2 hk3 hm hm3 ih h
                                              · replace h := (if_neg hv386).symm.trans h
                                                by_cases hv404 : wr (iA (sc (wr x4).toNat) 63) = 20
                                                · replace h := (if_pos hv404).symm.trans h
                                                  refine g_tabIn hC (xdt tt_L_law0 24 rfl) (fun z => hs2 (Or.inl z)) (fun z => hs2 (Or.inr z)) (off := 1040) (by rw [hv404]; rfl) (show ((40 : Nat) : Int) + 1040 = ((1080 : Nat) : Int) by decide) ?_
                                                  refine g_sub [0, 1, 2, 3, 4] (lv' := [(0, .ref b), (1, vr E r1 0), (2, vr E r2 0), (3, vr E r3 0), (4, vi x4)]) rfl ?_
                                                  exact k_law_b1080 hL hk1 hA1 hk2 hk3 hm hm3 ih h
                                                · replace h := (if_neg hv404).symm.trans h
                                                  by_cases hv422 : wr (iA (sc (wr x4).toNat) 63) = 21
                                                  · replace h := (if_pos hv422).symm.trans h
                                                    refine g_tabIn hC (xdt tt_L_law0 24 rfl) (fun z => hs2 (Or.inl z)) (fun z => hs2 (Or.inr z)) (off := 1096) (by rw [hv422]; rfl) (show ((40 : Nat) : Int) + 1096 = ((1136 : Nat) : Int) by decide) ?_
                                                    refine g_sub [0, 1, 2, 3, 4] (lv' := [(0, .ref b), (1, vr E r1 0), (2, vr E r2 0), (3, vr E r3 0), (4, vi x4)]) rfl ?_
                                                    exact k_law_b1136 hL hk1 hA1 hk2 hk3 hm hm3 ih h
                                                  · replace h := (if_neg hv422).symm.trans h
                                                    by_cases hv432 : wr (iA (sc (wr x4).toNat) 63) = 22
                                                    · replace h := (if_pos hv432).symm.trans h
                                                      refine g_tabIn hC (xdt tt_L_law0 24 rfl) (fun z => hs2 (Or.inl z)) (fun z => hs2 (Or.inr z)) (off := 1152) (by rw [hv432]; rfl) (show ((40 : Nat) : Int) + 1152 = ((1192 : Nat) : Int) by decide) ?_
                                                      refine g_sub [0, 1, 2, 3, 4] (lv' := [(0, .ref b), (1, vr E r1 0), (2, vr E r2 0), (3, vr E r3 0), (4, vi x4)]) rfl ?_
                                                      exact k_law_b1192 hL hk1 hA1 hk2 hk3 hm hm3 ih h
                                                    · replace h := (if_neg hv432).symm.trans h
                                                      by_cases hv450 : wr (iA (sc (wr x4).toNat) 63) = 23
                                                      · replace h := (if_pos hv450).symm.trans h
                                                        refine g_tabIn hC (xdt tt_L_law0 24 rfl) (fun z => hs2 (Or.inl z)) (fun z => hs2 (Or.inr z)) (off := 1165) (by rw [hv450]; rfl) (show ((40 : Nat) : Int) + 1165 = ((1205 : Nat) : Int) by decide) ?_
                                                        refine g_sub [0, 1, 2, 3, 4] (lv' := [(0, .ref b), (1, vr E r1 0), (2, vr E r2 0), (3, vr E r3 0), (4, vi x4)]) rfl ?_
                                                        exact k_law_b1205 hL hk1 hA1 hk2 hk3 hm hm3 ih h
                                                      · replace h := (if_neg hv450).symm.trans h
                                                        by_cases hv462 : wr (iA (sc (wr x4).toNat) 63) = 24
                                                        · replace h := (if_pos hv462).symm.trans h
                                                          refine g_tabIn hC (xdt tt_L_law0 24 rfl) (fun z => hs2 (Or.inl z)) (fun z => hs2 (Or.inr z)) (off := 1221) (by rw [hv462]; rfl) (show ((40 : Nat) : Int) + 1221 = ((1261 : Nat) : Int) by decide) ?_
                                                          refine g_sub [0, 1, 2, 3, 4] (lv' := [(0, .ref b), (1, vr E r1 0), (2, vr E r2 0), (3, vr E r3 0), (4, vi x4)]) rfl ?_
                                                          exact k_law_b1261 hL hk1 hA1 hk2 hk3 hm hm3 ih h
                                                        · replace h := (if_neg hv462).symm.trans h
                                                          by_cases hv476 : wr (iA (sc (wr x4).toNat) 63) = 25
                                                          · replace h := (if_pos hv476).symm.trans h
                                                            refine g_tabIn hC (xdt tt_L_law0 24 rfl) (fun z => hs2 (Or.inl z)) (fun z => hs2 (Or.inr z)) (off := 1262) (by rw [hv476]; rfl) (show ((40 : Nat) : Int) + 1262 = ((1302 : Nat) : Int) by decide) ?_
                                                            refine g_sub [0, 1, 2, 3, 4] (lv' := [(0, .ref b), (1, vr E r1 0), (2, vr E r2 0), (3, vr E r3 0), (4, vi x4)]) rfl ?_
                                                            exact k_law_b1302 hL hk1 hA1 hk2 hk3 hm hm3 ih h
                                                          · replace h := (if_neg hv476).symm.trans h
                                                            by_cases hv494 : wr (iA (sc (wr x4).toNat) 63) = 26
                                                            · replace h := (if_pos hv494).symm.trans h
                                                              refine g_tabIn hC (xdt tt_L_law0 24 rfl) (fun z => hs2 (Or.inl z)) (fun z => hs2 (Or.inr z)) (off := 1305) (by rw [hv494]; rfl) (show ((40 : Nat) : Int) + 1305 = ((1345 : Nat) : Int) by decide) ?_
                                                              refine g_sub [0, 1, 2, 3, 4] (lv' := [(0, .ref b), (1, vr E r1 0), (2, vr E r2 0), (3, vr E r3 0), (4, vi x4)]) rfl ?_
                                                              exact k_law_b1345 hL hk1 hA1 hk2 hk3 hm hm3 ih h
                                                            · replace h := (if_neg hv494).symm.trans h
                                                              by_cases hv512 : wr (iA (sc (wr x4).toNat) 63) = 27
                                                              · replace h := (if_pos hv512).symm.trans h
                                                                refine g_tabIn hC (xdt tt_L_law0 24 rfl) (fun z => hs2 (Or.inl z)) (fun z => hs2 (Or.inr z)) (off := 1361) (by rw [hv512]; rfl) (show ((40 : Nat) : Int) + 1361 = ((1401 : Nat) : Int) by decide) ?_
                                                                refine g_sub [0, 1, 2, 3, 4] (lv' := [(0, .ref b), (1, vr E r1 0), (2, vr E r2 0), (3, vr E r3 0), (4, vi x4)]) rfl ?_
                                                                exact k_law_b1401 hL hk1 hA1 hk2 hk3 hm hm3 ih h
                                                              · replace h := (if_neg hv512).symm.trans h
                                                                by_cases hv530 : wr (iA (sc (wr x4).toNat) 63) = 28
                                                                · replace h := (if_pos hv530).symm.trans h
                                                                  refine g_tabIn hC (xdt tt_L_law0 24 rfl) (fun z => hs2 (Or.inl z)) (fun z => hs2 (Or.inr z)) (off := 1417) (by rw [hv530]; rfl) (show ((40 : Nat) : Int) + 1417 = ((1457 : Nat) : Int) by decide) ?_
                                                                  refine g_sub [0, 1, 2, 3, 4] (lv' := [(0, .ref b), (1, vr E r1 0), (2, vr E r2 0), (3, vr E r3 0), (4, vi x4)]) rfl ?_
                                                                  exact k_law_b1457 hL hk1 hA1 hk2 hk3 hm hm3 ih h
                                                                · replace h := (if_neg hv530).symm.trans h
                                                                  by_cases hv550 : wr (iA (sc (wr x4).toNat) 63) = 29
                                                                  · replace h := (if_pos hv550).symm.trans h
                                                                    refine g_tabIn hC (xdt tt_L_law0 24 rfl) (fun z => hs2 (Or.inl z)) (fun z => hs2 (Or.inr z)) (off := 1473) (by rw [hv550]; rfl) (show ((40 : Nat) : Int) + 1473 = ((1513 : Nat) : Int) by decide) ?_
                                                                    refine g_sub [0, 1, 2, 3, 4] (lv' := [(0, .ref b), (1, vr E r1 0), (2, vr E r2 0), (3, vr E r3 0), (4, vi x4)]) rfl ?_
                                                                    exact k_law_b1513 hL hk1 hA1 hk2 hk3 hm hm3 ih h
                                                                  · replace h := (if_neg hv550).symm.trans h
                                                                    by_cases hv570 : wr (iA (sc (wr x4).toNat) 63) = 30
                                                                    · replace h := (if_pos hv570).symm.trans h
                                                                      refine g_tabIn hC (xdt tt_L_law0 24 rfl) (fun z => hs2 (Or.inl z)) (fun z => hs2 (Or.inr z)) (off := 1541) (by rw [hv570]; rfl) (show ((40 : Nat) : Int) + 1541 = ((1581 : Nat) : Int) by decide) ?_
                                                                      refine g_sub [0, 1, 2, 3, 4] (lv' := [(0, .ref b), (1, vr E r1 0), (2, vr E r2 0), (3, vr E r3 0), (4, vi x4)]) rfl ?_
                                                                      exact k_law_b1581 hL hk1 hA1 hk2 hk3 hm hm3 ih h
                                                                    · replace h := (if_neg hv570).symm.trans h
                                                                      by_cases hv588 : wr (iA (sc (wr x4).toNat) 63) = 31
                                                                      · replace h := (if_pos hv588).symm.trans h
                                                                        refine g_tabIn hC (xdt tt_L_law0 24 rfl) (fun z => hs2 (Or.inl z)) (fun z => hs2 (Or.inr z)) (off := 1609) (by rw [hv588]; rfl) (show ((40 : Nat) : Int) + 1609 = ((1649 : Nat) : Int) by decide) ?_
                                                                        refine g_sub [0, 1, 2, 3, 4] (lv' := [(0, .ref b), (1, vr E r1 0), (2, vr E r2 0), (3, vr E r3 0), (4, vi x4)]) rfl ?_
                                                                        exact k_law_b1649 hL hk1 hA1 hk2 hk3 hm hm3 ih h
                                                                      · replace h := (if_neg hv588).symm.trans h
                                                                        by_cases hv606 : wr (iA (sc (wr x4).toNat) 63) = 32
                                                                        · replace h := (if_pos hv606).symm.trans h
                                                                          refine g_tabIn hC (xdt tt_L_law0 24 rfl) (fun z => hs2 (Or.inl z)) (fun z => hs2 (Or.inr z)) (off := 1665) (by rw [hv606]; rfl) (show ((40 : Nat) : Int) + 1665 = ((1705 : Nat) : Int) by decide) ?_
                                                                          refine g_sub [0, 1, 2, 3, 4] (lv' := [(0, .ref b), (1, vr E r1 0), (2, vr E r2 0), (3, vr E r3 0), (4, vi x4)]) rfl ?_
                                                                          exact k_law_b1705 hL hk1 hA1 hk2 hk3 hm hm3 ih h
                                                                        · replace h := (if_neg hv606).symm.trans h
                                                                          by_cases hv622 : wr (iA (sc (wr x4).toNat) 63) = 33
                                                                          · replace h := (if_pos hv622).symm.trans h
                                                                            refine g_tabIn hC (xdt tt_L_law0 24 rfl) (fun z => hs2 (Or.inl z)) (fun z => hs2 (Or.inr z)) (off := 1721) (by rw [hv622]; rfl) (show ((40 : Nat) : Int) + 1721 = ((1761 : Nat) : Int) by decide) ?_
                                                                            refine g_sub [0, 1, 2, 3, 4] (lv' := [(0, .ref b), (1, vr E r1 0), (2, vr E r2 0), (3, vr E r3 0), (4, vi x4)]) rfl ?_
                                                                            exact k_law_b1761 hL hk1 hA1 hk2 hk3 hm hm3 ih h
                                                                          · replace h := (if_neg hv622).symm.trans h
                                                                            by_cases hv640 : wr (iA (sc (wr x4).toNat) 63) = 34
                                                                            · replace h := (if_pos hv640).symm.trans h
                                                                              refine g_tabIn hC (xdt tt_L_law0 24 rfl) (fun z => hs2 (Or.inl z)) (fun z => hs2 (Or.inr z)) (off := 1765) (by rw [hv640]; rfl) (show ((40 : Nat) : Int) + 1765 = ((1805 : Nat) : Int) by decide) ?_
                                                                              refine g_sub [0, 1, 2, 3, 4] (lv' := [(0, .ref b), (1, vr E r1 0), (2, vr E r2 0), (3, vr E r3 0), (4, vi x4)]) rfl ?_
                                                                              exact k_law_b1805 hL hk1 hA1 hk2 hk3 hm hm3 ih h
                                                                            · replace h := (if_neg hv640).symm.trans h
                                                                              by_cases hv658 : wr (iA (sc (wr x4).toNat) 63) = 35
                                                                              · replace h := (if_pos hv658).symm.trans h
                                                                                refine g_tabIn hC (xdt tt_L_law0 24 rfl) (fun z => hs2 (Or.inl z)) (fun z => hs2 (Or.inr z)) (off := 1821) (by rw [hv658]; rfl) (show ((40 : Nat) : Int) + 1821 = ((1861 : Nat) : Int) by decide) ?_
                                                                                refine g_sub [0, 1, 2, 3, 4] (lv' := [(0, .ref b), (1, vr E r1 0), (2, vr E r2 0), (3, vr E r3 0), (4, vi x4)]) rfl ?_
                                                                                exact k_law_b1861 hL hk1 hA1 hk2 hk3 hm hm3 ih h
                                                                              · replace h := (if_neg hv658).symm.trans h
                                                                                by_cases hv678 : wr (iA (sc (wr x4).toNat) 63) = 36
                                                                                · replace h := (if_pos hv678).symm.trans h
                                                                                  refine g_tabIn hC (xdt tt_L_law0 24 rfl) (fun z => hs2 (Or.inl z)) (fun z => hs2 (Or.inr z)) (off := 1877) (by rw [hv678]; rfl) (show ((40 : Nat) : Int) + 1877 = ((1917 : Nat) : Int) by decide) ?_
                                                                                  refine g_sub [0, 1, 2, 3, 4] (lv' := [(0, .ref b), (1, vr E r1 0), (2, vr E r2 0), (3, vr E r3 0), (4, vi x4)]) rfl ?_
                                                                                  exact k_law_b1917 hL hk1 hA1 hk2 hk3 hm hm3 ih h
                                                                                · replace h := (if_neg hv678).symm.trans h
                                                                                  by_cases hv696 : wr (iA (sc (wr x4).toNat) 63) = 37
                                                                                  · replace h := (if_pos hv696).symm.trans h
                                                                                    refine g_tabIn hC (xdt tt_L_law0 24 rfl) (fun z => hs2 (Or.inl z)) (fun z => hs2 (Or.inr z)) (off := 1945) (by rw [hv696]; rfl) (show ((40 : Nat) : Int) + 1945 = ((1985 : Nat) : Int) by decide) ?_
                                                                                    refine g_sub [0, 1, 2, 3, 4] (lv' := [(0, .ref b), (1, vr E r1 0), (2, vr E r2 0), (3, vr E r3 0), (4, vi x4)]) rfl ?_
                                                                                    exact k_law_b1985 hL hk1 hA1 hk2 hk3 hm hm3 ih h
                                                                                  · replace h := (if_neg hv696).symm.trans h
                                                                                    by_cases hv714 : wr (iA (sc (wr x4).toNat) 63) = 38
                                                                                    · replace h := (if_pos hv714).symm.trans h
                                                                                      refine g_tabIn hC (xdt tt_L_law0 24 rfl) (fun z => hs2 (Or.inl z)) (fun z => hs2 (Or.inr z)) (off := 2001) (by rw [hv714]; rfl) (show ((40 : Nat) : Int) + 2001 = ((2041 : Nat) : Int) by decide) ?_
                                                                                      refine g_sub [0, 1, 2, 3, 4] (lv' := [(0, .ref b), (1, vr E r1 0), (2, vr E r2 0), (3, vr E r3 0), (4, vi x4)]) rfl ?_
                                                                                      exact k_law_b2041 hL hk1 hA1 hk2 hk3 hm hm3 ih h
                                                                                    · replace h := (if_neg hv714).symm.trans h
                                                                                      by_cases hv732 : wr (iA (sc (wr x4).toNat) 63) = 39
                                                                                      · replace h := (if_pos hv732).symm.trans h
                                                                                        refine g_tabIn hC (xdt tt_L_law0 24 rfl) (fun z => hs2 (Or.inl z)) (fun z => hs2 (Or.inr z)) (off := 2057) (by rw [hv732]; rfl) (show ((40 : Nat) : Int) + 2057 = ((2097 : Nat) : Int) by decide) ?_
                                                                                        refine g_sub [0, 1, 2, 3, 4] (lv' := [(0, .ref b), (1, vr E r1 0), (2, vr E r2 0), (3, vr E r3 0), (4, vi x4)]) rfl ?_
                                                                                        exact k_law_b2097 hL hk1 hA1 hk2 hk3 hm hm3 ih h
                                                                                      · replace h := (if_neg hv732).symm.trans h
                                                                                        by_cases hv750 : wr (iA (sc (wr x4).toNat) 63) = 40
                                                                                        · replace h := (if_pos hv750).symm.trans h
                                                                                          refine g_tabIn hC (xdt tt_L_law0 24 rfl) (fun z => hs2 (Or.inl z)) (fun z => hs2 (Or.inr z)) (off := 2113) (by rw [hv750]; rfl) (show ((40 : Nat) : Int) + 2113 = ((2153 : Nat) : Int) by decide) ?_
                                                                                          refine g_sub [0, 1, 2, 3, 4] (lv' := [(0, .ref b), (1, vr E r1 0), (2, vr E r2 0), (3, vr E r3 0), (4, vi x4)]) rfl ?_
                                                                                          exact k_law_b2153 hL hk1 hA1 hk2 hk3 hm hm3 ih h
                                                                                        · replace h := (if_neg hv750).symm.trans h
                                                                                          by_cases hv768 : wr (iA (sc (wr x4).toNat) 63) = 41
                                                                                          · replace h := (if_pos hv768).symm.trans h
                                                                                            refine g_tabIn hC (xdt tt_L_law0 24 rfl) (fun z => hs2 (Or.inl z)) (fun z => hs2 (Or.inr z)) (off := 2169) (by rw [hv768]; rfl) (show ((40 : Nat) : Int) + 2169 = ((2209 : Nat) : Int) by decide) ?_
                                                                                            refine g_sub [0, 1, 2, 3, 4] (lv' := [(0, .ref b), (1, vr E r1 0), (2, vr E r2 0), (3, vr E r3 0), (4, vi x4)]) rfl ?_
                                                                                            exact k_law_b2209 hL hk1 hA1 hk2 hk3 hm hm3 ih h
                                                                                          · replace h := (if_neg hv768).symm.trans h
                                                                                            by_cases hv786 : wr (iA (sc (wr x4).toNat) 63) = 42
                                                                                            · replace h := (if_pos hv786).symm.trans h
                                                                                              refine g_tabIn hC (xdt tt_L_law0 24 rfl) (fun z => hs2 (Or.inl z)) (fun z => hs2 (Or.inr z)) (off := 2225) (by rw [hv786]; rfl) (show ((40 : Nat) : Int) + 2225 = ((2265 : Nat) : Int) by decide) ?_
                                                                                              refine g_sub [0, 1, 2, 3, 4] (lv' := [(0, .ref b), (1, vr E r1 0), (2, vr E r2 0), (3, vr E r3 0), (4, vi x4)]) rfl ?_
                                                                                              exact k_law_b2265 hL hk1 hA1 hk2 hk3 hm hm3 ih h
                                                                                            · replace h := (if_neg hv786).symm.trans h
                                                                                              by_cases hv808 : wr (iA (sc (wr x4).toNat) 63) = 43
                                                                                              · replace h := (if_pos hv808).symm.trans h
                                                                                                refine g_tabIn hC (xdt tt_L_law0 24 rfl) (fun z => hs2 (Or.inl z)) (fun z => hs2 (Or.inr z)) (off := 2281) (by rw [hv808]; rfl) (show ((40 : Nat) : Int) + 2281 = ((2321 : Nat) : Int) by decide) ?_
                                                                                                refine g_sub [0, 1, 2, 3, 4] (lv' := [(0, .ref b), (1, vr E r1 0), (2, vr E r2 0), (3, vr E r3 0), (4, vi x4)]) rfl ?_
                                                                                                exact k_law_b2321 hL hk1 hA1 hk2 hk3 hm hm3 ih h
                                                                                              · replace h := (if_neg hv808).symm.trans h
                                                                                                by_cases hv826 : wr (iA (sc (wr x4).toNat) 63) = 44
                                                                                                · replace h := (if_pos hv826).symm.trans h
                                                                                                  refine g_tabIn hC (xdt tt_L_law0 24 rfl) (fun z => hs2 (Or.inl z)) (fun z => hs2 (Or.inr z)) (off := 2361) (by rw [hv826]; rfl) (show ((40 : Nat) : Int) + 2361 = ((2401 : Nat) : Int) by decide) ?_
                                                                                                  refine g_sub [0, 1, 2, 3, 4] (lv' := [(0, .ref b), (1, vr E r1 0), (2, vr E r2 0), (3, vr E r3 0), (4, vi x4)]) rfl ?_
                                                                                                  exact k_law_b2401 hL hk1 hA1 hk2 hk3 hm hm3 ih h
                                                                                                · replace h := (if_neg hv826).symm.trans h
                                                                                                  by_cases hv838 : wr (iA (sc (wr x4).toNat) 63) = 45
                                                                                                  · replace h := (if_pos hv838).symm.trans h
                                                                                                    refine g_tabIn hC (xdt tt_L_law0 24 rfl) (fun z => hs2 (Or.inl z)) (fun z => hs2 (Or.inr z)) (off := 2417) (by rw [hv838]; rfl) (show ((40 : Nat) : Int) + 2417 = ((2457 : Nat) : Int) by decide) ?_
                                                                                                    refine g_sub [0, 1, 2, 3, 4] (lv' := [(0, .ref b), (1, vr E r1 0), (2, vr E r2 0), (3, vr E r3 0), (4, vi x4)]) rfl ?_
                                                                                                    exact k_law_b2457 hL hk1 hA1 hk2 hk3 hm hm3 ih h
                                                                                                  · replace h := (if_neg hv838).symm.trans h
                                                                                                    by_cases hv848 : wr (iA (sc (wr x4).toNat) 63) = 46
                                                                                                    · replace h := (if_pos hv848).symm.trans h
                                                                                                      refine g_tabIn hC (xdt tt_L_law0 24 rfl) (fun z => hs2 (Or.inl z)) (fun z => hs2 (Or.inr z)) (off := 2442) (by rw [hv848]; rfl) (show ((40 : Nat) : Int) + 2442 = ((2482 : Nat) : Int) by decide) ?_
                                                                                                      refine g_sub [0, 1, 2, 3, 4] (lv' := [(0, .ref b), (1, vr E r1 0), (2, vr E r2 0), (3, vr E r3 0), (4, vi x4)]) rfl ?_
                                                                                                      exact k_law_b2482 hL hk1 hA1 hk2 hk3 hm hm3 ih h
                                                                                                    · replace h := (if_neg hv848).symm.trans h
                                                                                                      by_cases hv864 : wr (iA (sc (wr x4).toNat) 63) = 47
                                                                                                      · replace h := (if_pos hv864).symm.trans h
                                                                                                        refine g_tabIn hC (xdt tt_L_law0 24 rfl) (fun z => hs2 (Or.inl z)) (fun z => hs2 (Or.inr z)) (off := 2455) (by rw [hv864]; rfl) (show ((40 : Nat) : Int) + 2455 = ((2495 : Nat) : Int) by decide) ?_
                                                                                                        refine g_sub [0, 1, 2, 3, 4] (lv' := [(0, .ref b), (1, vr E r1 0), (2, vr E r2 0), (3, vr E r3 0), (4, vi x4)]) rfl ?_
                                                                                                        exact k_law_b2495 hL hk1 hA1 hk2 hk3 hm hm3 ih h
                                                                                                      · replace h := (if_neg hv864).symm.trans h
                                                                                                        cases h
