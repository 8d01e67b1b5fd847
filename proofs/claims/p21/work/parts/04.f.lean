def fX5_needSwitch (x0 : Int32) : Option ((Unit) ⊕ Nat) :=
  if x0 < 0 then
    (some (.inr 1))
  else
    (if x0 < 6 then
      (some (.inl ()))
    else
      (some (.inr 1)))
def fX5_needPort (x0 : Int32) (x1 : Int32) : Option ((Unit) ⊕ Nat) :=
  bx (fX5_needSwitch x0) <| fun q1 =>
  if x1 < 0 then
    (some (.inr 1))
  else
    (if x1 < 5 then
      (some (.inl ()))
    else
      (some (.inr 1)))
def fX5_needWithin (x0 : Int32) (x1 : Int32) (x2 : Int32) : Option ((Unit) ⊕ Nat) :=
  if x0 < x1 then
    (some (.inr 2))
  else
    (if x0 ≤ x2 then
      (some (.inl ()))
    else
      (some (.inr 2)))
def fX5_spotOf (x0 : Int32) (x1 : Int32) : Option (Int32) :=
  some ((x0 * 5) + x1)
def fX4_isBare (cw : St) (x1 : Int32) : Option (Int32) :=
  ck (inb x1 30) <|
  if (cw 0 x1.toNatClampNeg) = (-1) then
    (ck (inb x1 30) <|
    if (cw 2 x1.toNatClampNeg) = (-1) then
      (some 1)
    else
      (some 0))
  else
    (some 0)
def fX4_putWire (cw : St) (x1 : Int32) (x2 : Int32) (x3 : Int32) : Option (St) :=
  ck (inb x1 30) <|
  ck (inb x2 30) <|
  ck (inb x1 30) <|
  ck (inb x2 30) <|
  some (iS (aS (aS (aS (aS cw 0 x1 x2) 0 x2 x1) 1 x1 x3) 1 x2 x3) 6 ((cw 6 0) + 1))
def fX5_wire (cw : St) (x1 : Int32) (x2 : Int32) (x3 : Int32) (x4 : Int32) (x5 : Int32) : Option ((Int32 × St) ⊕ Nat) :=
  bx (fX5_needPort x1 x2) <| fun q2 =>
  bx (fX5_needPort x3 x4) <| fun q8 =>
  if x1 = x3 then
    (some (.inr 2))
  else
    (bx (fX5_needWithin x5 1 100) <| fun q31 =>
    bd (fX5_spotOf x1 x2) <| fun q36 =>
    bd (fX5_spotOf x3 x4) <| fun q44 =>
    bd (fX4_isBare cw q36) <| fun q55 =>
    if q55 = 0 then
      (some (.inr 3))
    else
      (bd (fX4_isBare cw q44) <| fun q67 =>
      if q67 = 0 then
        (some (.inr 3))
      else
        (bd (fX4_putWire cw q36 q44 x5) <| fun q93 =>
        some (.inl (q93 6 0, q93)))))
def fX3_close (ct : St) (x1 : Int32) : Option (St) :=
  ck (inb x1 30) <|
  ck (inb x1 30) <|
  ck (inb x1 30) <|
  some (aS (aS (aS ct 6 x1 (vp_nar .boolean 0)) 7 x1 0) 8 x1 0)
def fX2_drop (cb : St) (x1 : Int32) : Option (St) :=
  ck (inb x1 180) <|
  ck (inb (x1 / 30) 6) <|
  ck (inb (x1 / 30) 6) <|
  some (aS (aS cb 0 x1 (-1)) 2 (x1 / 30) ((cb 2 (x1 / 30).toNatClampNeg) - 1))
def fX2_forgetPort_S9 (k9 : (St × Int32) → Option (St)) (x1 : Int32) (x2 : Int32) (cb : St) (x3 : Int32) : Option (St) :=
  if (x2 + 30) ≤ x3 then
    (some cb)
  else
    (ck (inb x3 180) <|
    if (cb 0 x3.toNatClampNeg) = (x1 - x1 / 5 * 5) then
      (bd (fX2_drop cb x3) <| fun q31 =>
      k9 (q31, x3 + 1))
    else
      (k9 (cb, x3 + 1)))
def fX2_forgetPort_L9 (x1 : Int32) (x2 : Int32) (cb : St) (x3 : Int32) : Option (St) := loopN (fun k a => fX2_forgetPort_S9 k x1 x2 (a.1) (a.2)) 1000 (cb, x3)
def fX2_forgetPort (cb : St) (x1 : Int32) : Option (St) :=
  fX2_forgetPort_L9 x1 ((x1 / 5) * 30) cb ((x1 / 5) * 30)
def fX5_dropUse (ct : St) (cb : St) (x1 : Int32) : Option (St × St) :=
  bd (fX3_close ct x1) <| fun q5 =>
  bd (fX2_forgetPort cb x1) <| fun q13 =>
  some (q5, q13)
def fX4_takeWire (cw : St) (x1 : Int32) (x2 : Int32) : Option (St) :=
  ck (inb x1 30) <|
  ck (inb x2 30) <|
  some (iS (aS (aS cw 0 x1 (-1)) 0 x2 (-1)) 6 ((cw 6 0) - 1))
def fX4_takeHouse (cw : St) (x1 : Int32) : Option (Int32 × St) :=
  ck (inb x1 30) <|
  ck (inb x1 30) <|
  if (cw 2 x1.toNatClampNeg) = (-1) then
    (some (cw 2 x1.toNatClampNeg, (aS cw 2 x1 (-1))))
  else
    (ck (inb (cw 2 x1.toNatClampNeg) 10) <|
    some (cw 2 x1.toNatClampNeg, (iS (aS (aS cw 2 x1 (-1)) 4 (cw 2 x1.toNatClampNeg) (-1)) 7 ((cw 7 0) - 1))))
def fX5_free (cw : St) (ct : St) (cb : St) (x1 : Int32) (x2 : Int32) : Option ((Int32 × St × St × St) ⊕ Nat) :=
  bx (fX5_needPort x1 x2) <| fun q2 =>
  bd (fX5_spotOf x1 x2) <| fun q7 =>
  bd (fX4_isBare cw q7) <| fun q16 =>
  if q16 = 0 then
    (ck (inb q7 30) <|
    if (cw 0 q7.toNatClampNeg) = (-1) then
      (bd (fX5_dropUse ct cb q7) <| fun q51 =>
      bd (fX4_takeHouse cw q7) <| fun q59 =>
      some (.inl (q59.1, (q59.2), (q51.1), (q51.2))))
    else
      (bd (fX5_dropUse ct cb q7) <| fun q65 =>
      bd (fX5_dropUse (q65.1) (q65.2) (cw 0 q7.toNatClampNeg)) <| fun q71 =>
      bd (fX4_takeWire cw q7 (cw 0 q7.toNatClampNeg)) <| fun q81 =>
      some (.inl ((-1), q81, (q71.1), (q71.2)))))
  else
    (some (.inr 3))
def fX5_needHouse (x0 : Int32) : Option ((Unit) ⊕ Nat) :=
  if x0 < 0 then
    (some (.inr 1))
  else
    (if x0 < 10 then
      (some (.inl ()))
    else
      (some (.inr 1)))
def fX4_putHouse (cw : St) (x1 : Int32) (x2 : Int32) : Option (St) :=
  ck (inb x1 30) <|
  ck (inb x2 10) <|
  some (iS (aS (aS cw 2 x1 x2) 4 x2 x1) 7 ((cw 7 0) + 1))
def fX3_isShut (ct : St) (x1 : Int32) : Option (Int32) :=
  ck (inb x1 30) <|
  if (ct 5 x1.toNatClampNeg) = 0 then
    (some 0)
  else
    (some 1)
def fX3_openForHouse_J31 (ct : St) (cw : St) (y0 : Int32) (y1 : Int32) : Option (St) :=
  ck (inb y1 30) <|
  some (aS ct 6 y1 (vp_nar .boolean y0))
def fX3_openForHouse_J30 (ct : St) (cw : St) (y0 : Int32) : Option (St) :=
  fX3_openForHouse_J31 ct cw 0 y0
def fX3_openForHouse (ct : St) (cw : St) (x1 : Int32) : Option (St) :=
  bd (fX3_isShut ct x1) <| fun q7 =>
  if q7 = 0 then
    (ck (inb x1 30) <|
    if (cw 2 x1.toNatClampNeg) = (-1) then
      (fX3_openForHouse_J30 ct cw x1)
    else
      (fX3_openForHouse_J31 ct cw 1 x1))
  else
    (fX3_openForHouse_J30 ct cw x1)
def fX5_house (cw : St) (ct : St) (x1 : Int32) (x2 : Int32) (x3 : Int32) : Option ((Int32 × St × St) ⊕ Nat) :=
  bx (fX5_needPort x1 x2) <| fun q2 =>
  bx (fX5_needHouse x3) <| fun q6 =>
  bd (fX5_spotOf x1 x2) <| fun q11 =>
  bd (fX4_isBare cw q11) <| fun q22 =>
  if q22 = 0 then
    (some (.inr 3))
  else
    (ck (inb x3 10) <|
    if (cw 4 x3.toNatClampNeg) = (-1) then
      (bd (fX4_putHouse cw q11 x3) <| fun q58 =>
      bd (fX3_openForHouse ct q58 q11) <| fun q67 =>
      some (.inl (q58 7 0, q58, q67)))
    else
      (some (.inr 3)))
def fX5_rank (cw : St) (x1 : Int32) (x2 : Int32) : Option ((Int32 × St) ⊕ Nat) :=
  bx (fX5_needSwitch x1) <| fun q1 =>
  bx (fX5_needWithin x2 0 15) <| fun q8 =>
  ck (inb x1 6) <|
  ck (inb x1 6) <|
  some (.inl (cw 5 x1.toNatClampNeg, (aS cw 5 x1 x2)))
def fX3_beginShut (ct : St) (x1 : Int32) (x2 : Int32) : Option (St) :=
  ck (inb x1 30) <|
  bd (fX3_close (aS ct 5 x1 x2) x1) <| fun q9 =>
  some q9
def fX5_shutUntil (ct : St) (cb : St) (x1 : Int32) (x2 : Int32) : Option (St × St) :=
  bd (fX3_beginShut ct x1 x2) <| fun q6 =>
  bd (fX2_forgetPort cb x1) <| fun q14 =>
  some (q6, q14)
def fX3_endShut (ct : St) (cw : St) (x1 : Int32) : Option (St) :=
  ck (inb x1 30) <|
  bd (fX3_openForHouse (aS ct 5 x1 0) cw x1) <| fun q9 =>
  some q9
def fX5_shut (cw : St) (ct : St) (cb : St) (x1 : Int32) (x2 : Int32) : Option ((Int32 × St × St) ⊕ Nat) :=
  bx (fX5_needPort x1 x2) <| fun q2 =>
  bd (fX5_spotOf x1 x2) <| fun q7 =>
  bd (fX3_isShut ct q7) <| fun q16 =>
  if q16 = 0 then
    (bd (fX5_shutUntil ct cb q7 (-1)) <| fun q35 =>
    some (.inl (1, (q35.1), (q35.2))))
  else
    (bd (fX3_endShut ct cw q7) <| fun q27 =>
    some (.inl (0, q27, cb)))
def fX5_guard (cw : St) (x1 : Int32) (x2 : Int32) (x3 : Int32) : Option ((Int32 × St) ⊕ Nat) :=
  bx (fX5_needPort x1 x2) <| fun q2 =>
  bx (fX5_needWithin x3 0 2) <| fun q8 =>
  bd (fX5_spotOf x1 x2) <| fun q13 =>
  ck (inb q13 30) <|
  ck (inb q13 30) <|
  some (.inl (cw 3 q13.toNatClampNeg, (aS cw 3 q13 x3)))
def fX5_needLane (x0 : Int32) : Option ((Unit) ⊕ Nat) :=
  if x0 < 1 then
    (some (.inr 1))
  else
    (if x0 ≤ 3 then
      (some (.inl ()))
    else
      (some (.inr 1)))
def fX0_bitOf (x0 : Int32) : Option (Int32) :=
  some (1 <<< ((x0 - 1) &&& 31))
def fX0_setUp (cl : St) (x1 : Int32) (x2 : Int32) (x3 : Int32) : Option (St) :=
  ck (inb x1 30) <|
  ck (inb x1 30) <|
  some (aS (aS cl 0 x1 x2) 1 x1 x3)
def fX5_plain (cl : St) (x1 : Int32) (x2 : Int32) (x3 : Int32) : Option ((St) ⊕ Nat) :=
  bx (fX5_needPort x1 x2) <| fun q2 =>
  bx (fX5_needLane x3) <| fun q6 =>
  bd (fX5_spotOf x1 x2) <| fun q15 =>
  bd (fX0_bitOf x3) <| fun q19 =>
  bd (fX0_setUp cl q15 q19 x3) <| fun q23 =>
  some (.inl q23)
def fX5_trunk (cl : St) (x1 : Int32) (x2 : Int32) (x3 : Int32) (x4 : Int32) : Option ((St) ⊕ Nat) :=
  bx (fX5_needPort x1 x2) <| fun q2 =>
  bx (fX5_needLane x4) <| fun q7 =>
  bx (fX5_needWithin x3 1 7) <| fun q14 =>
  bd (fX5_spotOf x1 x2) <| fun q23 =>
  bd (fX0_setUp cl q23 x3 x4) <| fun q29 =>
  some (.inl q29)
def fX5_limit (cs : St) (x1 : Int32) : Option ((Int32 × St) ⊕ Nat) :=
  bx (fX5_needWithin x1 1 100) <| fun q4 =>
  some (.inl (cs 9 0, (iS cs 9 x1)))
def fX3_isJoined (ct : St) (cw : St) (x1 : Int32) : Option (Int32) :=
  ck (inb x1 30) <|
  if (cw 0 x1.toNatClampNeg) = (-1) then
    (some 0)
  else
    (bd (fX3_isShut ct x1) <| fun q17 =>
    if q17 = 0 then
      (bd (fX3_isShut ct (cw 0 x1.toNatClampNeg)) <| fun q25 =>
      if q25 = 0 then
        (some 1)
      else
        (some 0))
    else
      (some 0))
def fX3_tell_S2 (k2 : (St × Int32) → Option (St)) (cw : St) (ct : St) (x1 : Int32) : Option (St) :=
  if 30 ≤ x1 then
    (some ct)
  else
    (ck (inb x1 30) <|
    bd (fX3_isJoined (aS ct 10 x1 (-1)) cw x1) <| fun q17 =>
    if q17 = 0 then
      (k2 ((aS ct 10 x1 (-1)), x1 + 1))
    else
      (ck (inb x1 30) <|
      ck (inb ((cw 0 x1.toNatClampNeg) / 5) 6) <|
      ck (inb x1 30) <|
      ck (inb ((cw 0 x1.toNatClampNeg) / 5) 6) <|
      ck (inb x1 30) <|
      ck (inb ((cw 0 x1.toNatClampNeg) / 5) 6) <|
      ck (inb x1 30) <|
      k2 ((aS (aS (aS (aS ct 10 x1 (-1)) 10 x1 (ct 1 ((cw 0 x1.toNatClampNeg) / 5).toNatClampNeg)) 11 x1 (ct 2 ((cw 0 x1.toNatClampNeg) / 5).toNatClampNeg)) 12 x1 (ct 3 ((cw 0 x1.toNatClampNeg) / 5).toNatClampNeg)), x1 + 1)))
def fX3_tell_L2 (cw : St) (ct : St) (x1 : Int32) : Option (St) := loopN (fun k a => fX3_tell_S2 k cw (a.1) (a.2)) 1000 (ct, x1)
def fX3_tell (ct : St) (cw : St) : Option (St) :=
  fX3_tell_L2 cw ct 0
def fX3_guardForHouses_J41 (k2 : (St × Int32) → Option (St)) (ct : St) (cw : St) (x1 : Int32) (y0 : Int32) (y1 : Int32) : Option (St) :=
  ck (inb y1 30) <|
  ck (inb x1 30) <|
  if ((aS ct 13 y1 (vp_nar .boolean y0)) 13 x1.toNatClampNeg) = 0 then
    (k2 ((aS ct 13 y1 (vp_nar .boolean y0)), x1 + 1))
  else
    (ck (inb x1 30) <|
    bd (fX3_beginShut (aS (aS ct 13 y1 (vp_nar .boolean y0)) 10 x1 (-1)) x1 (-1)) <| fun q61 =>
    k2 (q61, x1 + 1))
def fX3_guardForHouses_J40 (k2 : (St × Int32) → Option (St)) (ct : St) (cw : St) (x1 : Int32) (y0 : Int32) : Option (St) :=
  fX3_guardForHouses_J41 k2 ct cw x1 0 y0
def fX3_guardForHouses_S2 (k2 : (St × Int32) → Option (St)) (cw : St) (ct : St) (x1 : Int32) : Option (St) :=
  if 30 ≤ x1 then
    (some ct)
  else
    (ck (inb x1 30) <|
    if (cw 3 x1.toNatClampNeg) = 2 then
      (ck (inb x1 30) <|
      if (ct 10 x1.toNatClampNeg) = (-1) then
        (fX3_guardForHouses_J40 k2 ct cw x1 x1)
      else
        (fX3_guardForHouses_J41 k2 ct cw x1 1 x1))
    else
      (fX3_guardForHouses_J40 k2 ct cw x1 x1))
def fX3_guardForHouses_L2 (cw : St) (ct : St) (x1 : Int32) : Option (St) := loopN (fun k a => fX3_guardForHouses_S2 k cw (a.1) (a.2)) 1000 (ct, x1)
def fX3_guardForHouses (ct : St) (cw : St) : Option (St) :=
  fX3_guardForHouses_L2 cw ct 0
def fX3_spreadStale_S10 (k2 : (St × Int32) → Option (St)) (k10 : (St × Int32) → Option (St)) (cw : St) (x1 : Int32) (ct : St) (x2 : Int32) : Option (St) :=
  if 30 ≤ x2 then
    (k2 (ct, x1 + 1))
  else
    (ck (inb (x2 / 5) 6) <|
    if (ct 14 (x2 / 5).toNatClampNeg) = 0 then
      (k10 (ct, x2 + 1))
    else
      (bd (fX3_isJoined ct cw x2) <| fun q29 =>
      if q29 = 0 then
        (k10 (ct, x2 + 1))
      else
        (ck (inb x2 30) <|
        ck (inb ((cw 0 x2.toNatClampNeg) / 5) 6) <|
        k10 ((aS ct 14 ((cw 0 x2.toNatClampNeg) / 5) (vp_nar .boolean 1)), x2 + 1))))
def fX3_spreadStale_L10 (k2 : (St × Int32) → Option (St)) (cw : St) (x1 : Int32) (ct : St) (x2 : Int32) : Option (St) := loopN (fun k a => fX3_spreadStale_S10 k2 k cw x1 (a.1) (a.2)) 1000 (ct, x2)
def fX3_spreadStale_S2 (k2 : (St × Int32) → Option (St)) (cw : St) (ct : St) (x1 : Int32) : Option (St) :=
  if 6 ≤ x1 then
    (some ct)
  else
    (fX3_spreadStale_L10 k2 cw x1 ct 0)
def fX3_spreadStale_L2 (cw : St) (ct : St) (x1 : Int32) : Option (St) := loopN (fun k a => fX3_spreadStale_S2 k cw (a.1) (a.2)) 1000 (ct, x1)
def fX3_spreadStale (ct : St) (cw : St) : Option (St) :=
  fX3_spreadStale_L2 cw ct 0
def fX3_endStorms_S2 (k2 : (St × Int32) → Option (St)) (cw : St) (ct : St) (x1 : Int32) : Option (St) :=
  if 30 ≤ x1 then
    (some ct)
  else
    (ck (inb x1 30) <|
    if (ct 5 x1.toNatClampNeg) ≤ 0 then
      (k2 (ct, x1 + 1))
    else
      (ck (inb x1 30) <|
      if (ct 9 0) < (ct 5 x1.toNatClampNeg) then
        (k2 (ct, x1 + 1))
      else
        (bd (fX3_endShut ct cw x1) <| fun q32 =>
        k2 (q32, x1 + 1))))
def fX3_endStorms_L2 (cw : St) (ct : St) (x1 : Int32) : Option (St) := loopN (fun k a => fX3_endStorms_S2 k cw (a.1) (a.2)) 1000 (ct, x1)
def fX3_endStorms (ct : St) (cw : St) : Option (St) :=
  fX3_endStorms_L2 cw ct 0
def fX4_isBetterName (cw : St) (x1 : Int32) (x2 : Int32) : Option (Int32) :=
  ck (inb x1 6) <|
  ck (inb x2 6) <|
  if (cw 5 x1.toNatClampNeg) = (cw 5 x2.toNatClampNeg) then
    (if x2 ≤ x1 then
      (some 0)
    else
      (some 1))
  else
    (ck (inb x1 6) <|
    ck (inb x2 6) <|
    if (cw 5 x2.toNatClampNeg) ≤ (cw 5 x1.toNatClampNeg) then
      (some 0)
    else
      (some 1))
def fX3_isHeldBetter (ct : St) (cw : St) (x1 : Int32) : Option (Int32) :=
  ck (inb (x1 / 5) 6) <|
  ck (inb x1 30) <|
  if (ct 1 (x1 / 5).toNatClampNeg) = (ct 10 x1.toNatClampNeg) then
    (ck (inb (x1 / 5) 6) <|
    ck (inb x1 30) <|
    if (ct 2 (x1 / 5).toNatClampNeg) = (ct 11 x1.toNatClampNeg) then
      (ck (inb x1 30) <|
      bd (fX4_isBetterName cw (x1 / 5) ((cw 0 x1.toNatClampNeg) / 5)) <| fun q91 =>
      ck (isb q91) <|
      some q91)
    else
      (ck (inb (x1 / 5) 6) <|
      ck (inb x1 30) <|
      if (ct 11 x1.toNatClampNeg) ≤ (ct 2 (x1 / 5).toNatClampNeg) then
        (some 0)
      else
        (some 1)))
  else
    (ck (inb (x1 / 5) 6) <|
    ck (inb x1 30) <|
    bd (fX4_isBetterName cw (ct 1 (x1 / 5).toNatClampNeg) (ct 10 x1.toNatClampNeg)) <| fun q35 =>
    ck (isb q35) <|
    some q35)
def fX3_roleOf (ct : St) (cw : St) (x1 : Int32) : Option (Int32) :=
  ck (inb x1 30) <|
  if (cw 0 x1.toNatClampNeg) = (-1) then
    (some 0)
  else
    (bd (fX3_isShut ct x1) <| fun q15 =>
    if q15 = 0 then
      (ck (inb (x1 / 5) 6) <|
      if (ct 4 (x1 / 5).toNatClampNeg) = (x1 - x1 / 5 * 5) then
        (some 1)
      else
        (ck (inb x1 30) <|
        if (ct 10 x1.toNatClampNeg) = (-1) then
          (some 2)
        else
          (bd (fX3_isHeldBetter ct cw x1) <| fun q51 =>
          if q51 = 0 then
            (some 3)
          else
            (some 2))))
    else
      (some 0))
def fX3_turnTo (ct : St) (x1 : Int32) (x2 : Int32) : Option (St) :=
  ck (inb x1 30) <|
  if (ct 6 x1.toNatClampNeg) = x2 then
    (some ct)
  else
    (ck (inb x1 30) <|
    ck (inb (x1 / 5) 6) <|
    some (aS (aS ct 6 x1 (vp_nar .boolean x2)) 14 (x1 / 5) (vp_nar .boolean 1)))
def fX3_turn_J61 (ct : St) (cw : St) (x1 : Int32) : Option (St) :=
  ck (inb x1 30) <|
  if (ct 6 x1.toNatClampNeg) = 0 then
    (ck (inb x1 30) <|
    ck (inb x1 30) <|
    ck (inb x1 30) <|
    if ((aS ct 8 x1 ((ct 8 x1.toNatClampNeg) + 1)) 8 x1.toNatClampNeg) ≤ 2 then
      (some (aS ct 8 x1 ((ct 8 x1.toNatClampNeg) + 1)))
    else
      (ck (inb x1 30) <|
      bd (fX3_turnTo (aS (aS ct 8 x1 ((ct 8 x1.toNatClampNeg) + 1)) 8 x1 0) x1 1) <| fun q100 =>
      some q100))
  else
    (some ct)
def fX3_turn (ct : St) (cw : St) (x1 : Int32) : Option (St) :=
  bd (fX3_roleOf ct cw x1) <| fun q7 =>
  ck (inb x1 30) <|
  ck (inb x1 30) <|
  if (cw 0 x1.toNatClampNeg) = (-1) then
    (some (aS ct 7 x1 q7))
  else
    (ck (inb x1 30) <|
    if ((aS ct 7 x1 q7) 7 x1.toNatClampNeg) = 1 then
      (fX3_turn_J61 (aS ct 7 x1 q7) cw x1)
    else
      (ck (inb x1 30) <|
      if ((aS ct 7 x1 q7) 7 x1.toNatClampNeg) = 2 then
        (fX3_turn_J61 (aS ct 7 x1 q7) cw x1)
      else
        (ck (inb x1 30) <|
        bd (fX3_turnTo (aS (aS ct 7 x1 q7) 8 x1 0) x1 0) <| fun q55 =>
        some q55)))
def fX3_isBetterThanHeld_J72 (ct : St) (cw : St) (x1 : Int32) (x3 : Int32) : Option (Int32) :=
  ck (inb x1 6) <|
  if (ct 2 x1.toNatClampNeg) ≤ x3 then
    (some 0)
  else
    (some 1)
def fX3_isBetterThanHeld (ct : St) (cw : St) (x1 : Int32) (x2 : Int32) : Option (Int32) :=
  ck (inb x2 30) <|
  ck (inb x1 6) <|
  if (ct 10 x2.toNatClampNeg) = (ct 1 x1.toNatClampNeg) then
    (ck (inb x2 30) <|
    ck (inb x2 30) <|
    ck (inb x1 6) <|
    if ((ct 11 x2.toNatClampNeg) + (cw 1 x2.toNatClampNeg)) = (ct 2 x1.toNatClampNeg) then
      (ck (inb x1 6) <|
      if (ct 4 x1.toNatClampNeg) = (-1) then
        (fX3_isBetterThanHeld_J72 ct cw x1 ((ct 11 x2.toNatClampNeg) + (cw 1 x2.toNatClampNeg)))
      else
        (ck (inb x2 30) <|
        ck (inb x1 6) <|
        bd (fX5_spotOf x1 (ct 4 x1.toNatClampNeg)) <| fun q113 =>
        ck (inb q113 30) <|
        if ((cw 0 x2.toNatClampNeg) / 5) = ((cw 0 q113.toNatClampNeg) / 5) then
          (if (cw 0 q113.toNatClampNeg) ≤ (cw 0 x2.toNatClampNeg) then
            (some 0)
          else
            (some 1))
        else
          (bd (fX4_isBetterName cw ((cw 0 x2.toNatClampNeg) / 5) ((cw 0 q113.toNatClampNeg) / 5)) <| fun q142 =>
          ck (isb q142) <|
          some q142)))
    else
      (fX3_isBetterThanHeld_J72 ct cw x1 ((ct 11 x2.toNatClampNeg) + (cw 1 x2.toNatClampNeg))))
  else
    (ck (inb x2 30) <|
    ck (inb x1 6) <|
    bd (fX4_isBetterName cw (ct 10 x2.toNatClampNeg) (ct 1 x1.toNatClampNeg)) <| fun q31 =>
    ck (isb q31) <|
    some q31)
def fX3_offer (ct : St) (cw : St) (x1 : Int32) (x2 : Int32) : Option (St) :=
  ck (inb x2 30) <|
  if (ct 10 x2.toNatClampNeg) = (-1) then
    (some ct)
  else
    (ck (inb x2 30) <|
    if 7 ≤ (ct 12 x2.toNatClampNeg) then
      (some ct)
    else
      (bd (fX3_isBetterThanHeld ct cw x1 x2) <| fun q24 =>
      if q24 = 0 then
        (some ct)
      else
        (ck (inb x2 30) <|
        ck (inb x1 6) <|
        ck (inb x2 30) <|
        ck (inb x2 30) <|
        ck (inb x1 6) <|
        ck (inb x2 30) <|
        ck (inb x1 6) <|
        ck (inb x1 6) <|
        some (aS (aS (aS (aS ct 1 x1 (ct 10 x2.toNatClampNeg)) 2 x1 ((ct 11 x2.toNatClampNeg) + (cw 1 x2.toNatClampNeg))) 3 x1 ((ct 12 x2.toNatClampNeg) + 1)) 4 x1 (x2 - x2 / 5 * 5)))))
def fX3_takeBest_S78 (k78 : (St × Int32) → Option (St)) (cw : St) (x1 : Int32) (x2 : Int32) (x3 : Int32) (ct : St) (x4 : Int32) : Option (St) :=
  if (x2 + 5) ≤ x4 then
    (some ct)
  else
    (ck (inb x4 30) <|
    if (cw 3 x4.toNatClampNeg) = 1 then
      (ck (inb x4 30) <|
      if (ct 10 x4.toNatClampNeg) = (-1) then
        (k78 (ct, x4 + 1))
      else
        (ck (inb x4 30) <|
        bd (fX4_isBetterName cw (ct 10 x4.toNatClampNeg) x3) <| fun q123 =>
        if q123 = 0 then
          (bd (fX3_offer ct cw x1 x4) <| fun q133 =>
          k78 (q133, x4 + 1))
        else
          (k78 (ct, x4 + 1))))
    else
      (k78 (ct, x4 + 1)))
def fX3_takeBest_L78 (cw : St) (x1 : Int32) (x2 : Int32) (x3 : Int32) (ct : St) (x4 : Int32) : Option (St) := loopN (fun k a => fX3_takeBest_S78 k cw x1 x2 x3 (a.1) (a.2)) 1000 (ct, x4)
def fX3_takeBest_J68 (ct : St) (cw : St) (x1 : Int32) (x2 : Int32) : Option (St) :=
  ck (inb x1 6) <|
  fX3_takeBest_L78 cw x1 x2 (ct 1 x1.toNatClampNeg) ct x2
def fX3_takeBest_S36 (k36 : (St × Int32) → Option (St)) (cw : St) (x1 : Int32) (x2 : Int32) (ct : St) (x3 : Int32) : Option (St) :=
  if (x2 + 5) ≤ x3 then
    (fX3_takeBest_J68 ct cw x1 x2)
  else
    (ck (inb x3 30) <|
    if (cw 3 x3.toNatClampNeg) = 1 then
      (k36 (ct, x3 + 1))
    else
      (bd (fX3_offer ct cw x1 x3) <| fun q59 =>
      k36 (q59, x3 + 1)))
def fX3_takeBest_L36 (cw : St) (x1 : Int32) (x2 : Int32) (ct : St) (x3 : Int32) : Option (St) := loopN (fun k a => fX3_takeBest_S36 k cw x1 x2 (a.1) (a.2)) 1000 (ct, x3)
def fX3_takeBest (ct : St) (cw : St) (x1 : Int32) : Option (St) :=
  ck (inb x1 6) <|
  ck (inb x1 6) <|
  ck (inb x1 6) <|
  ck (inb x1 6) <|
  bd (fX5_spotOf x1 0) <| fun q30 =>
  fX3_takeBest_L36 cw x1 q30 (aS (aS (aS (aS ct 1 x1 x1) 2 x1 0) 3 x1 0) 4 x1 (-1)) q30
def fX3_pass_J63 (ct : St) (cw : St) : Option (St) :=
  bd (fX3_spreadStale ct cw) <| fun q64 =>
  bd (fX3_endStorms q64 cw) <| fun q68 =>
  some q68
def fX3_pass_S46 (k46 : (St × Int32) → Option (St)) (cw : St) (ct : St) (x1 : Int32) : Option (St) :=
  if 30 ≤ x1 then
    (fX3_pass_J63 ct cw)
  else
    (bd (fX3_turn ct cw x1) <| fun q54 =>
    k46 (q54, x1 + 1))
def fX3_pass_L46 (cw : St) (ct : St) (x1 : Int32) : Option (St) := loopN (fun k a => fX3_pass_S46 k cw (a.1) (a.2)) 1000 (ct, x1)
def fX3_pass_J44 (ct : St) (cw : St) : Option (St) :=
  fX3_pass_L46 cw ct 0
def fX3_pass_S20 (k20 : (St × Int32) → Option (St)) (cw : St) (ct : St) (x1 : Int32) : Option (St) :=
  if 6 ≤ x1 then
    (fX3_pass_J44 ct cw)
  else
    (ck (inb x1 6) <|
    bd (fX3_takeBest (aS ct 14 x1 (vp_nar .boolean 0)) cw x1) <| fun q35 =>
    k20 (q35, x1 + 1))
def fX3_pass_L20 (cw : St) (ct : St) (x1 : Int32) : Option (St) := loopN (fun k a => fX3_pass_S20 k cw (a.1) (a.2)) 1000 (ct, x1)
def fX3_pass (ct : St) (cw : St) : Option (St) :=
  bd (fX3_tell (iS ct 9 ((ct 9 0) + 1)) cw) <| fun q11 =>
  bd (fX3_guardForHouses q11 cw) <| fun q15 =>
  fX3_pass_L20 cw q15 0
def fX2_dropOld_S2 (k2 : (St × Int32) → Option (St)) (x1 : Int32) (cb : St) (x2 : Int32) : Option (St) :=
  if 180 ≤ x2 then
    (some cb)
  else
    (ck (inb x2 180) <|
    if (cb 0 x2.toNatClampNeg) = (-1) then
      (k2 (cb, x2 + 1))
    else
      (ck (inb x2 180) <|
      if (x1 - (cb 1 x2.toNatClampNeg)) < 10 then
        (k2 (cb, x2 + 1))
      else
        (bd (fX2_drop cb x2) <| fun q34 =>
        k2 (q34, x2 + 1))))
def fX2_dropOld_L2 (x1 : Int32) (cb : St) (x2 : Int32) : Option (St) := loopN (fun k a => fX2_dropOld_S2 k x1 (a.1) (a.2)) 1000 (cb, x2)
def fX2_dropOld (cb : St) (x1 : Int32) : Option (St) :=
  fX2_dropOld_L2 x1 cb 0
def fX2_empty_J28 (cb : St) (x1 : Int32) : Option (St) :=
  ck (inb x1 6) <|
  some (aS cb 2 x1 0)
def fX2_empty_S7 (k7 : (St × Int32) → Option (St)) (x1 : Int32) (x2 : Int32) (cb : St) (x3 : Int32) : Option (St) :=
  if (x2 + 30) ≤ x3 then
    (fX2_empty_J28 cb x1)
  else
    (ck (inb x3 180) <|
    k7 ((aS cb 0 x3 (-1)), x3 + 1))
def fX2_empty_L7 (x1 : Int32) (x2 : Int32) (cb : St) (x3 : Int32) : Option (St) := loopN (fun k a => fX2_empty_S7 k x1 x2 (a.1) (a.2)) 1000 (cb, x3)
def fX2_empty (cb : St) (x1 : Int32) : Option (St) :=
  fX2_empty_L7 x1 (x1 * 30) cb (x1 * 30)
def fX5_passBeat_J82 (cs : St) (cw : St) (ct : St) (cb : St) : Option (St × St × St) :=
  bd (fX2_dropOld cb (ct 9 0)) <| fun q93 =>
  some (cs, ct, q93)
def fX5_passBeat_S50 (k50 : (St × Int32) → Option (St × St × St)) (cs : St) (cw : St) (ct : St) (cb : St) (x1 : Int32) : Option (St × St × St) :=
  if 6 ≤ x1 then
    (fX5_passBeat_J82 cs cw ct cb)
  else
    (ck (inb x1 6) <|
    if (ct 14 x1.toNatClampNeg) = 0 then
      (k50 (cb, x1 + 1))
    else
      (bd (fX2_empty cb x1) <| fun q73 =>
      k50 (q73, x1 + 1)))
def fX5_passBeat_L50 (cs : St) (cw : St) (ct : St) (cb : St) (x1 : Int32) : Option (St × St × St) := loopN (fun k a => fX5_passBeat_S50 k cs cw ct (a.1) (a.2)) 1000 (cb, x1)
def fX5_passBeat_J48 (cs : St) (cw : St) (ct : St) (cb : St) : Option (St × St × St) :=
  fX5_passBeat_L50 cs cw ct cb 0
def fX5_passBeat_S9 (k9 : (St × St × Int32) → Option (St × St × St)) (cw : St) (ct : St) (cs : St) (cb : St) (x1 : Int32) : Option (St × St × St) :=
  if 30 ≤ x1 then
    (fX5_passBeat_J48 cs cw ct cb)
  else
    (ck (inb x1 30) <|
    ck (inb x1 30) <|
    if (ct 13 x1.toNatClampNeg) = 0 then
      (k9 ((aS cs 6 x1 0), cb, x1 + 1))
    else
      (bd (fX2_forgetPort cb x1) <| fun q39 =>
      k9 ((aS cs 6 x1 0), q39, x1 + 1)))
def fX5_passBeat_L9 (cw : St) (ct : St) (cs : St) (cb : St) (x1 : Int32) : Option (St × St × St) := loopN (fun k a => fX5_passBeat_S9 k cw ct (a.1) (a.2.1) (a.2.2)) 1000 (cs, cb, x1)
def fX5_passBeat (cs : St) (cw : St) (ct : St) (cb : St) : Option (St × St × St) :=
  bd (fX3_pass ct cw) <| fun q4 =>
  fX5_passBeat_L9 cw q4 cs cb 0
def fX5_beat_S9 (k9 : (St × St × St × Int32) → Option ((Int32 × St × St × St) ⊕ Nat)) (cw : St) (x1 : Int32) (cs : St) (ct : St) (cb : St) (x2 : Int32) : Option ((Int32 × St × St × St) ⊕ Nat) :=
  if x1 ≤ x2 then
    (some (.inl (ct 9 0, cs, ct, cb)))
  else
    (bd (fX5_passBeat cs cw ct cb) <| fun q15 =>
    k9 ((q15.1), (q15.2.1), (q15.2.2), x2 + 1))
def fX5_beat_L9 (cw : St) (x1 : Int32) (cs : St) (ct : St) (cb : St) (x2 : Int32) : Option ((Int32 × St × St × St) ⊕ Nat) := loopN (fun k a => fX5_beat_S9 k cw x1 (a.1) (a.2.1) (a.2.2.1) (a.2.2.2)) 1000 (cs, ct, cb, x2)
def fX5_beat (cs : St) (cw : St) (ct : St) (cb : St) (x1 : Int32) : Option ((Int32 × St × St × St) ⊕ Nat) :=
  bx (fX5_needWithin x1 1 30) <| fun q4 =>
  fX5_beat_L9 cw x1 cs ct cb 0
def fX1_restart (cp : St) : Option (St) :=
  some (iS cp 4 0)
def fX1_add (cp : St) (x1 : Int32) (x2 : Int32) (x3 : Int32) (x4 : Int32) : Option (St) :=
  if (cp 4 0) < 400 then
    (ck (inb (cp 4 0) 400) <|
    ck (inb (cp 4 0) 400) <|
    ck (inb (cp 4 0) 400) <|
    ck (inb (cp 4 0) 400) <|
    some (iS (aS (aS (aS (aS cp 0 (cp 4 0) x1) 1 (cp 4 0) x2) 2 (cp 4 0) x3) 3 (cp 4 0) x4) 4 ((cp 4 0) + 1)))
  else
    (some cp)
def fX0_carries (cl : St) (x1 : Int32) (x2 : Int32) : Option (Int32) :=
  ck (inb x1 30) <|
  bd (fX0_bitOf x2) <| fun q7 =>
  if ((cl 0 x1.toNatClampNeg) &&& q7) = 0 then
    (some 0)
  else
    (some 1)
def fX0_laneIn_J14 (cl : St) (x1 : Int32) (y0 : Int32) : Option (Int32) :=
  bd (fX0_carries cl x1 y0) <| fun q18 =>
  if q18 = 0 then
    (some 0)
  else
    (some y0)
def fX0_laneIn (cl : St) (x1 : Int32) (x2 : Int32) : Option (Int32) :=
  if x2 = 0 then
    (ck (inb x1 30) <|
    fX0_laneIn_J14 cl x1 (cl 1 x1.toNatClampNeg))
  else
    (fX0_laneIn_J14 cl x1 x2)
def fX5_laneLetIn (ct : St) (cl : St) (x1 : Int32) (x2 : Int32) : Option (Int32) :=
  ck (inb x1 30) <|
  if (ct 6 x1.toNatClampNeg) = 0 then
    (some 0)
  else
    (bd (fX0_laneIn cl x1 x2) <| fun q18 =>
    some q18)
def fX2_indexOf (x0 : Int32) (x1 : Int32) (x2 : Int32) : Option (Int32) :=
  some (((x0 * 30) + ((x1 - 1) * 10)) + x2)
def fX2_hear_J49 (cb : St) (x1 : Int32) (x4 : Int32) (x6 : Int32) : Option (St) :=
  ck (inb x6 180) <|
  ck (inb x6 180) <|
  some (aS (aS cb 0 x6 (x1 - x1 / 5 * 5)) 1 x6 x4)
def fX2_hear (cb : St) (x1 : Int32) (x2 : Int32) (x3 : Int32) (x4 : Int32) : Option (St) :=
  bd (fX2_indexOf (x1 / 5) x2 x3) <| fun q9 =>
  ck (inb q9 180) <|
  if (cb 0 q9.toNatClampNeg) = (-1) then
    (ck (inb (x1 / 5) 6) <|
    if (cb 2 (x1 / 5).toNatClampNeg) < 8 then
      (ck (inb (x1 / 5) 6) <|
      ck (inb (x1 / 5) 6) <|
      fX2_hear_J49 (aS cb 2 (x1 / 5) ((cb 2 (x1 / 5).toNatClampNeg) + 1)) x1 x4 q9)
    else
      (some cb))
  else
    (fX2_hear_J49 cb x1 x4 q9)
def fX2_portFor (cb : St) (x1 : Int32) (x2 : Int32) (x3 : Int32) : Option (Int32) :=
  bd (fX2_indexOf x1 x2 x3) <| fun q7 =>
  ck (inb q7 180) <|
  some (cb 0 q7.toNatClampNeg)
def fX0_tagOut (cl : St) (x1 : Int32) (x2 : Int32) : Option (Int32) :=
  ck (inb x1 30) <|
  if x2 = (cl 1 x1.toNatClampNeg) then
    (some 0)
  else
    (some x2)
def fX5_handOver_J18 (cs : St) (x1 : Int32) : Option (Int32 × St) :=
  ck (inb x1 10) <|
  ck (inb x1 10) <|
  some (1, (aS cs 7 x1 ((cs 7 x1.toNatClampNeg) + 1)))
def fX5_handOver (cs : St) (x1 : Int32) (x2 : Int32) : Option (Int32 × St) :=
  if x1 = (-1) then
    (some (0, cs))
  else
    (if x2 = 10 then
      (fX5_handOver_J18 cs x1)
    else
      (if x2 = x1 then
        (fX5_handOver_J18 cs x1)
      else
        (ck (inb x1 10) <|
        ck (inb x1 10) <|
        some (0, (aS cs 8 x1 ((cs 8 x1.toNatClampNeg) + 1))))))
def fX5_goOut (cs : St) (cw : St) (cl : St) (cp : St) (x1 : Int32) (x2 : Int32) (x3 : Int32) (x4 : Int32) : Option (Int32 × St × St) :=
  bd (fX0_carries cl x1 x3) <| fun q6 =>
  if q6 = 0 then
    (some (0, cs, cp))
  else
    (ck (inb x1 30) <|
    if (cw 0 x1.toNatClampNeg) = (-1) then
      (ck (inb x1 30) <|
      bd (fX5_handOver cs (cw 2 x1.toNatClampNeg) x4) <| fun q43 =>
      some (q43.1, (q43.2), cp))
    else
      (ck (inb x2 400) <|
      if ((cp 3 x2.toNatClampNeg) + 1) ≤ 12 then
        (ck (inb x2 400) <|
        bd (fX0_tagOut cl x1 x3) <| fun q86 =>
        if q86 = 0 then
          (bd (fX1_add cp (cw 0 x1.toNatClampNeg) (cp 2 x2.toNatClampNeg) 0 ((cp 3 x2.toNatClampNeg) + 1)) <| fun q107 =>
          some (0, cs, q107))
        else
          (bd (fX1_add cp (cw 0 x1.toNatClampNeg) q86 (cp 2 x2.toNatClampNeg) ((cp 3 x2.toNatClampNeg) + 1)) <| fun q125 =>
          some (0, cs, q125)))
      else
        (some (0, cs, cp))))
def fX5_flood_S69 (k69 : (St × St × Int32 × Int32) → Option (Int32 × St × St × St × St)) (cw : St) (ct : St) (cl : St) (cb : St) (x1 : Int32) (x2 : Int32) (x3 : Int32) (x4 : Int32) (x5 : Int32) (cs : St) (cp : St) (x6 : Int32) (x7 : Int32) : Option (Int32 × St × St × St × St) :=
  if (x5 + 5) ≤ x7 then
    (some (x6, cs, ct, cb, cp))
  else
    (if x7 = x4 then
      (k69 (cs, cp, x6, x7 + 1))
    else
      (ck (inb x7 30) <|
      if (ct 6 x7.toNatClampNeg) = 0 then
        (k69 (cs, cp, x6, x7 + 1))
      else
        (bd (fX5_goOut cs cw cl cp x7 x1 x2 x3) <| fun q106 =>
        k69 ((q106.2.1), (q106.2.2), x6 + q106.1, x7 + 1))))
def fX5_flood_L69 (cw : St) (ct : St) (cl : St) (cb : St) (x1 : Int32) (x2 : Int32) (x3 : Int32) (x4 : Int32) (x5 : Int32) (cs : St) (cp : St) (x6 : Int32) (x7 : Int32) : Option (Int32 × St × St × St × St) := loopN (fun k a => fX5_flood_S69 k cw ct cl cb x1 x2 x3 x4 x5 (a.1) (a.2.1) (a.2.2.1) (a.2.2.2)) 1000 (cs, cp, x6, x7)
def fX5_flood (cs : St) (cw : St) (ct : St) (cl : St) (cb : St) (cp : St) (x1 : Int32) (x2 : Int32) (x3 : Int32) : Option (Int32 × St × St × St × St) :=
  ck (inb x1 400) <|
  ck (inb (cp 0 x1.toNatClampNeg) 30) <|
  ck (inb (cp 0 x1.toNatClampNeg) 30) <|
  ck (inb (cp 0 x1.toNatClampNeg) 30) <|
  if ((aS cs 6 (cp 0 x1.toNatClampNeg) ((cs 6 (cp 0 x1.toNatClampNeg).toNatClampNeg) + 1)) 6 (cp 0 x1.toNatClampNeg).toNatClampNeg) ≤ (cs 9 0) then
    (fX5_flood_L69 cw ct cl cb x1 x2 x3 (cp 0 x1.toNatClampNeg) ((cp 0 x1.toNatClampNeg) - ((cp 0 x1.toNatClampNeg) - (cp 0 x1.toNatClampNeg) / 5 * 5)) (aS cs 6 (cp 0 x1.toNatClampNeg) ((cs 6 (cp 0 x1.toNatClampNeg).toNatClampNeg) + 1)) cp 0 ((cp 0 x1.toNatClampNeg) - ((cp 0 x1.toNatClampNeg) - (cp 0 x1.toNatClampNeg) / 5 * 5)))
  else
    (bd (fX5_shutUntil ct cb (cp 0 x1.toNatClampNeg) ((ct 9 0) + 5)) <| fun q48 =>
    some (0, (aS cs 6 (cp 0 x1.toNatClampNeg) ((cs 6 (cp 0 x1.toNatClampNeg).toNatClampNeg) + 1)), (q48.1), (q48.2), cp))
def fX5_takeStep_J108 (cs : St) (cw : St) (ct : St) (cl : St) (cb : St) (cp : St) (x1 : Int32) (x3 : Int32) (x5 : Int32) : Option (Int32 × St × St × St × St) :=
  bd (fX5_flood cs cw ct cl cb cp x1 x5 x3) <| fun q113 =>
  some (q113.1, (q113.2.1), (q113.2.2.1), (q113.2.2.2.1), (q113.2.2.2.2))
def fX5_takeStep_J82 (cs : St) (cw : St) (ct : St) (cl : St) (cb : St) (cp : St) (x1 : Int32) (x3 : Int32) (x4 : Int32) (x5 : Int32) (x6 : Int32) (y0 : Int32) : Option (Int32 × St × St × St × St) :=
  if y0 = (-1) then
    (fX5_takeStep_J108 cs cw ct cl cb cp x1 x3 x5)
  else
    (bd (fX5_spotOf x6 y0) <| fun q101 =>
    ck (inb q101 30) <|
    if (ct 6 q101.toNatClampNeg) = 0 then
      (fX5_takeStep_J108 cs cw ct cl cb cp x1 x3 x5)
    else
      (bd (fX5_spotOf x6 y0) <| fun q121 =>
      if q121 = x4 then
        (some (0, cs, ct, cb, cp))
      else
        (bd (fX5_goOut cs cw cl cp q121 x1 x5 x3) <| fun q144 =>
        some (q144.1, (q144.2.1), ct, cb, (q144.2.2)))))
def fX5_takeStep (cs : St) (cw : St) (ct : St) (cl : St) (cb : St) (cp : St) (x1 : Int32) (x2 : Int32) (x3 : Int32) : Option (Int32 × St × St × St × St) :=
  ck (inb x1 400) <|
  ck (inb x1 400) <|
  bd (fX5_laneLetIn ct cl (cp 0 x1.toNatClampNeg) (cp 1 x1.toNatClampNeg)) <| fun q23 =>
  if q23 = 0 then
    (some (0, cs, ct, cb, cp))
  else
    (bd (fX2_hear cb (cp 0 x1.toNatClampNeg) q23 x2 (ct 9 0)) <| fun q57 =>
    if x3 = 10 then
      (fX5_takeStep_J82 cs cw ct cl q57 cp x1 x3 (cp 0 x1.toNatClampNeg) q23 ((cp 0 x1.toNatClampNeg) / 5) (-1))
    else
      (bd (fX2_portFor q57 ((cp 0 x1.toNatClampNeg) / 5) q23 x3) <| fun q79 =>
      fX5_takeStep_J82 cs cw ct cl q57 cp x1 x3 (cp 0 x1.toNatClampNeg) q23 ((cp 0 x1.toNatClampNeg) / 5) q79))
def fX5_send_S104 (k104 : (St × St × St × St × Int32 × Int32) → Option ((Int32 × St × St × St × St) ⊕ Nat)) (cw : St) (cl : St) (x1 : Int32) (x2 : Int32) (cs : St) (ct : St) (cb : St) (cp : St) (x6 : Int32) (x7 : Int32) : Option ((Int32 × St × St × St × St) ⊕ Nat) :=
  if 400 ≤ x7 then
    (some (.inl (x6, cs, ct, cb, cp)))
  else
    (if (cp 4 0) ≤ x7 then
      (some (.inl (x6, cs, ct, cb, cp)))
    else
      (bd (fX5_takeStep cs cw ct cl cb cp x7 x1 x2) <| fun q131 =>
      k104 ((q131.2.1), (q131.2.2.1), (q131.2.2.2.1), (q131.2.2.2.2), x6 + q131.1, x7 + 1)))
def fX5_send_L104 (cw : St) (cl : St) (x1 : Int32) (x2 : Int32) (cs : St) (ct : St) (cb : St) (cp : St) (x6 : Int32) (x7 : Int32) : Option ((Int32 × St × St × St × St) ⊕ Nat) := loopN (fun k a => fX5_send_S104 k cw cl x1 x2 (a.1) (a.2.1) (a.2.2.1) (a.2.2.2.1) (a.2.2.2.2.1) (a.2.2.2.2.2)) 1000 (cs, ct, cb, cp, x6, x7)
def fX5_send_J51 (cs : St) (cw : St) (ct : St) (cl : St) (cb : St) (cp : St) (x1 : Int32) (x2 : Int32) (x3 : Int32) (x4 : Int32) : Option ((Int32 × St × St × St × St) ⊕ Nat) :=
  ck (inb x1 10) <|
  if (cw 4 x1.toNatClampNeg) = (-1) then
    (some (.inr 3))
  else
    (bd (fX1_restart cp) <| fun q82 =>
    bd (fX1_add q82 (cw 4 x1.toNatClampNeg) x3 x4 0) <| fun q95 =>
    fX5_send_L104 cw cl x1 x2 cs ct cb q95 0 0)
def fX5_send_J14 (cs : St) (cw : St) (ct : St) (cl : St) (cb : St) (cp : St) (x1 : Int32) (x2 : Int32) (x3 : Int32) (x4 : Int32) : Option ((Int32 × St × St × St × St) ⊕ Nat) :=
  bx (fX5_needWithin x3 0 3) <| fun q17 =>
  bx (fX5_needWithin x4 0 3) <| fun q24 =>
  if x1 = x2 then
    (some (.inr 2))
  else
    (if x3 = 0 then
      (if x4 = 0 then
        (fX5_send_J51 cs cw ct cl cb cp x1 x2 x3 x4)
      else
        (some (.inr 2)))
    else
      (fX5_send_J51 cs cw ct cl cb cp x1 x2 x3 x4))
def fX5_send (cs : St) (cw : St) (ct : St) (cl : St) (cb : St) (cp : St) (x1 : Int32) (x2 : Int32) (x3 : Int32) (x4 : Int32) : Option ((Int32 × St × St × St × St) ⊕ Nat) :=
  bx (fX5_needHouse x1) <| fun q1 =>
  if x2 = 10 then
    (fX5_send_J14 cs cw ct cl cb cp x1 x2 x3 x4)
  else
    (bx (fX5_needHouse x2) <| fun q11 =>
    fX5_send_J14 cs cw ct cl cb cp x1 x2 x3 x4)
def fX5_holds (ct : St) (cb : St) (x1 : Int32) (x2 : Int32) : Option ((Int32) ⊕ Nat) :=
  bx (fX5_needSwitch x1) <| fun q1 =>
  if x2 = 0 then
    (ck (inb x1 6) <|
    some (.inl (ct 1 x1.toNatClampNeg)))
  else
    if x2 = 1 then
      (ck (inb x1 6) <|
      some (.inl (ct 2 x1.toNatClampNeg)))
    else
      if x2 = 2 then
        (ck (inb x1 6) <|
        some (.inl (ct 3 x1.toNatClampNeg)))
      else
        if x2 = 3 then
          (ck (inb x1 6) <|
          some (.inl (ct 4 x1.toNatClampNeg)))
        else
          if x2 = 4 then
            (ck (inb x1 6) <|
            some (.inl (cb 2 x1.toNatClampNeg)))
          else
            (some (.inr 2))
def fX5_port (cs : St) (ct : St) (x1 : Int32) (x2 : Int32) (x3 : Int32) : Option ((Int32) ⊕ Nat) :=
  bx (fX5_needPort x1 x2) <| fun q2 =>
  bd (fX5_spotOf x1 x2) <| fun q7 =>
  if x3 = 0 then
    (ck (inb q7 30) <|
    if (ct 6 q7.toNatClampNeg) = 0 then
      (some (.inl 0))
    else
      (some (.inl 1)))
  else
    if x3 = 1 then
      (ck (inb q7 30) <|
      some (.inl (ct 7 q7.toNatClampNeg)))
    else
      if x3 = 2 then
        (bd (fX3_isShut ct q7) <| fun q80 =>
        if q80 = 0 then
          (some (.inl 0))
        else
          (some (.inl 1)))
      else
        if x3 = 3 then
          (ck (inb q7 30) <|
          some (.inl (cs 6 q7.toNatClampNeg)))
        else
          (some (.inr 2))
def fX5_table (cb : St) (x1 : Int32) (x2 : Int32) (x3 : Int32) : Option ((Int32) ⊕ Nat) :=
  bx (fX5_needSwitch x1) <| fun q1 =>
  bx (fX5_needLane x2) <| fun q5 =>
  bx (fX5_needHouse x3) <| fun q9 =>
  bd (fX2_portFor cb x1 x2 x3) <| fun q19 =>
  some (.inl q19)
def fX5_got (cs : St) (x1 : Int32) (x2 : Int32) : Option ((Int32) ⊕ Nat) :=
  bx (fX5_needHouse x1) <| fun q1 =>
  if x2 = 0 then
    (ck (inb x1 10) <|
    some (.inl (cs 7 x1.toNatClampNeg)))
  else
    (ck (inb x1 10) <|
    some (.inl (cs 8 x1.toNatClampNeg)))
def fX3_copyFrom_J124 (ct : St) (cu : St) : Option (St) :=
  some (iS ct 9 (cu 9 0))
def fX3_copyFrom_S64 (k64 : (St × Int32) → Option (St)) (cu : St) (ct : St) (x2 : Int32) : Option (St) :=
  if 30 ≤ x2 then
    (fX3_copyFrom_J124 ct cu)
  else
    (ck (inb x2 30) <|
    ck (inb x2 30) <|
    ck (inb x2 30) <|
    ck (inb x2 30) <|
    ck (inb x2 30) <|
    ck (inb x2 30) <|
    ck (inb x2 30) <|
    ck (inb x2 30) <|
    k64 ((aS (aS (aS (aS ct 5 x2 (cu 5 x2.toNatClampNeg)) 6 x2 (vp_nar .boolean (cu 6 x2.toNatClampNeg))) 7 x2 (cu 7 x2.toNatClampNeg)) 8 x2 (cu 8 x2.toNatClampNeg)), x2 + 1))
def fX3_copyFrom_L64 (cu : St) (ct : St) (x2 : Int32) : Option (St) := loopN (fun k a => fX3_copyFrom_S64 k cu (a.1) (a.2)) 1000 (ct, x2)
def fX3_copyFrom_J62 (ct : St) (cu : St) : Option (St) :=
  fX3_copyFrom_L64 cu ct 0
def fX3_copyFrom_S2 (k2 : (St × Int32) → Option (St)) (cu : St) (ct : St) (x2 : Int32) : Option (St) :=
  if 6 ≤ x2 then
    (fX3_copyFrom_J62 ct cu)
  else
    (ck (inb x2 6) <|
    ck (inb x2 6) <|
    ck (inb x2 6) <|
    ck (inb x2 6) <|
    ck (inb x2 6) <|
    ck (inb x2 6) <|
    ck (inb x2 6) <|
    ck (inb x2 6) <|
    k2 ((aS (aS (aS (aS ct 1 x2 (cu 1 x2.toNatClampNeg)) 2 x2 (cu 2 x2.toNatClampNeg)) 3 x2 (cu 3 x2.toNatClampNeg)) 4 x2 (cu 4 x2.toNatClampNeg)), x2 + 1))
def fX3_copyFrom_L2 (cu : St) (ct : St) (x2 : Int32) : Option (St) := loopN (fun k a => fX3_copyFrom_S2 k cu (a.1) (a.2)) 1000 (ct, x2)
def fX3_copyFrom (ct : St) (cu : St) : Option (St) :=
  fX3_copyFrom_L2 cu ct 0
def fX3_looksLike_S63 (k63 : Int32 → Option (Int32)) (ct : St) (cu : St) (x2 : Int32) : Option (Int32) :=
  if 30 ≤ x2 then
    (some 1)
  else
    (ck (inb x2 30) <|
    ck (inb x2 30) <|
    if (ct 6 x2.toNatClampNeg) = (cu 6 x2.toNatClampNeg) then
      (ck (inb x2 30) <|
      ck (inb x2 30) <|
      if (ct 7 x2.toNatClampNeg) = (cu 7 x2.toNatClampNeg) then
        (k63 (x2 + 1))
      else
        (some 0))
    else
      (some 0))
def fX3_looksLike_L63 (ct : St) (cu : St) (x2 : Int32) : Option (Int32) := loopN (fun k a => fX3_looksLike_S63 k ct cu a) 1000 x2
def fX3_looksLike_J61 (ct : St) (cu : St) : Option (Int32) :=
  fX3_looksLike_L63 ct cu 0
def fX3_looksLike_S2 (k2 : Int32 → Option (Int32)) (ct : St) (cu : St) (x2 : Int32) : Option (Int32) :=
  if 6 ≤ x2 then
    (fX3_looksLike_J61 ct cu)
  else
    (ck (inb x2 6) <|
    ck (inb x2 6) <|
    if (ct 1 x2.toNatClampNeg) = (cu 1 x2.toNatClampNeg) then
      (ck (inb x2 6) <|
      ck (inb x2 6) <|
      if (ct 2 x2.toNatClampNeg) = (cu 2 x2.toNatClampNeg) then
        (ck (inb x2 6) <|
        ck (inb x2 6) <|
        if (ct 3 x2.toNatClampNeg) = (cu 3 x2.toNatClampNeg) then
          (k2 (x2 + 1))
        else
          (some 0))
      else
        (some 0))
    else
      (some 0))
def fX3_looksLike_L2 (ct : St) (cu : St) (x2 : Int32) : Option (Int32) := loopN (fun k a => fX3_looksLike_S2 k ct cu a) 1000 x2
def fX3_looksLike (ct : St) (cu : St) : Option (Int32) :=
  fX3_looksLike_L2 ct cu 0
def fX3_hasWaitingPort_S2 (k2 : Int32 → Option (Int32)) (ct : St) (x1 : Int32) : Option (Int32) :=
  if 30 ≤ x1 then
    (some 0)
  else
    (ck (inb x1 30) <|
    if (ct 8 x1.toNatClampNeg) ≤ 0 then
      (k2 (x1 + 1))
    else
      (some 1))
def fX3_hasWaitingPort_L2 (ct : St) (x1 : Int32) : Option (Int32) := loopN (fun k a => fX3_hasWaitingPort_S2 k ct a) 1000 x1
def fX3_hasWaitingPort (ct : St) : Option (Int32) :=
  fX3_hasWaitingPort_L2 ct 0
def fX5_isAtRest (cw : St) (ct : St) (cu : St) : Option (Int32 × St) :=
  bd (fX3_copyFrom cu ct) <| fun q8 =>
  bd (fX3_pass q8 cw) <| fun q15 =>
  bd (fX3_looksLike q15 ct) <| fun q26 =>
  if q26 = 0 then
    (some (0, q15))
  else
    (bd (fX3_hasWaitingPort q15) <| fun q36 =>
    if q36 = 0 then
      (some (1, q15))
    else
      (some (0, q15)))
def fX3_shorten_J20 (ct : St) (x1 : Int32) (x2 : Int32) : Option (St) :=
  ck (inb x1 6) <|
  some (aS ct 15 x1 x2)
def fX3_shorten (ct : St) (x1 : Int32) (x2 : Int32) : Option (St) :=
  ck (inb x1 6) <|
  if (ct 15 x1.toNatClampNeg) = (-1) then
    (fX3_shorten_J20 ct x1 x2)
  else
    (ck (inb x1 6) <|
    if (ct 15 x1.toNatClampNeg) ≤ x2 then
      (some ct)
    else
      (fX3_shorten_J20 ct x1 x2))
def fX3_measureWays_S40 (k32 : (St × Int32) → Option (St)) (k40 : (St × Int32) → Option (St)) (cw : St) (x2 : Int32) (ct : St) (x3 : Int32) : Option (St) :=
  if 30 ≤ x3 then
    (k32 (ct, x2 + 1))
  else
    (ck (inb (x3 / 5) 6) <|
    if (ct 15 (x3 / 5).toNatClampNeg) = (-1) then
      (k40 (ct, x3 + 1))
    else
      (bd (fX3_isJoined ct cw x3) <| fun q60 =>
      if q60 = 0 then
        (k40 (ct, x3 + 1))
      else
        (ck (inb x3 30) <|
        ck (inb (x3 / 5) 6) <|
        ck (inb x3 30) <|
        bd (fX3_shorten ct ((cw 0 x3.toNatClampNeg) / 5) ((ct 15 (x3 / 5).toNatClampNeg) + (cw 1 x3.toNatClampNeg))) <| fun q96 =>
        k40 (q96, x3 + 1))))
def fX3_measureWays_L40 (k32 : (St × Int32) → Option (St)) (cw : St) (x2 : Int32) (ct : St) (x3 : Int32) : Option (St) := loopN (fun k a => fX3_measureWays_S40 k32 k cw x2 (a.1) (a.2)) 1000 (ct, x3)
def fX3_measureWays_S32 (k32 : (St × Int32) → Option (St)) (cw : St) (ct : St) (x2 : Int32) : Option (St) :=
  if 6 ≤ x2 then
    (some ct)
  else
    (fX3_measureWays_L40 k32 cw x2 ct 0)
def fX3_measureWays_L32 (cw : St) (ct : St) (x2 : Int32) : Option (St) := loopN (fun k a => fX3_measureWays_S32 k cw (a.1) (a.2)) 1000 (ct, x2)
def fX3_measureWays_J30 (ct : St) (cw : St) : Option (St) :=
  fX3_measureWays_L32 cw ct 0
def fX3_measureWays_J23 (k2 : (St × Int32) → Option (St)) (ct : St) (cw : St) (x1 : Int32) (x2 : Int32) (y0 : Int32) (y1 : Int32) : Option (St) :=
  ck (inb y1 6) <|
  k2 ((aS ct 15 y1 y0), x2 + 1)
def fX3_measureWays_S2 (k2 : (St × Int32) → Option (St)) (cw : St) (x1 : Int32) (ct : St) (x2 : Int32) : Option (St) :=
  if 6 ≤ x2 then
    (fX3_measureWays_J30 ct cw)
  else
    (if x2 = x1 then
      (fX3_measureWays_J23 k2 ct cw x1 x2 0 x2)
    else
      (fX3_measureWays_J23 k2 ct cw x1 x2 (-1) x2))
def fX3_measureWays_L2 (cw : St) (x1 : Int32) (ct : St) (x2 : Int32) : Option (St) := loopN (fun k a => fX3_measureWays_S2 k cw x1 (a.1) (a.2)) 1000 (ct, x2)
def fX3_measureWays (ct : St) (cw : St) (x1 : Int32) : Option (St) :=
  fX3_measureWays_L2 cw x1 ct 0
def fX5_found_J55 (cw : St) (ct : St) (x2 : Int32) : Option ((Int32 × St) ⊕ Nat) :=
  ck (inb x2 6) <|
  some (.inl ((1000 * x2) + (ct 15 x2.toNatClampNeg), ct))
def fX5_found_S16 (k16 : (Int32 × Int32) → Option ((Int32 × St) ⊕ Nat)) (cw : St) (ct : St) (x2 : Int32) (x3 : Int32) : Option ((Int32 × St) ⊕ Nat) :=
  if 6 ≤ x3 then
    (fX5_found_J55 cw ct x2)
  else
    (ck (inb x3 6) <|
    if (ct 15 x3.toNatClampNeg) = (-1) then
      (k16 (x2, x3 + 1))
    else
      (bd (fX4_isBetterName cw x3 x2) <| fun q41 =>
      if q41 = 0 then
        (k16 (x2, x3 + 1))
      else
        (k16 (x3, x3 + 1))))
def fX5_found_L16 (cw : St) (ct : St) (x2 : Int32) (x3 : Int32) : Option ((Int32 × St) ⊕ Nat) := loopN (fun k a => fX5_found_S16 k cw ct (a.1) (a.2)) 1000 (x2, x3)
def fX5_found (cw : St) (ct : St) (x1 : Int32) : Option ((Int32 × St) ⊕ Nat) :=
  bx (fX5_needSwitch x1) <| fun q1 =>
  bd (fX3_measureWays ct cw x1) <| fun q9 =>
  fX5_found_L16 cw q9 x1 0
def fX5_wayTold (ct : St) (cl : St) (cb : St) (x1 : Int32) (x2 : Int32) (x3 : Int32) : Option (Int32) :=
  bd (fX2_portFor cb x1 x2 x3) <| fun q7 =>
  if q7 = (-1) then
    (some (-1))
  else
    (bd (fX5_spotOf x1 q7) <| fun q23 =>
    ck (inb q23 30) <|
    if (ct 6 q23.toNatClampNeg) = 0 then
      (some (-1))
    else
      (bd (fX0_carries cl q23 x2) <| fun q48 =>
      if q48 = 0 then
        (some (-1))
      else
        (some q23)))
def fX5_walk_J134 (cw : St) (ct : St) (cl : St) (cb : St) (x2 : Int32) (x5 : Int32) (x7 : Int32) : Option ((Int32) ⊕ Nat) :=
  ck (inb x7 30) <|
  if (cw 2 x7.toNatClampNeg) = x2 then
    (some (.inl x5))
  else
    (some (.inl (-1)))
def fX5_walk_J110 (k75 : (Int32 × Int32 × Int32) → Option ((Int32) ⊕ Nat)) (cw : St) (ct : St) (cl : St) (cb : St) (x2 : Int32) (x5 : Int32) (x6 : Int32) (y0 : Int32) : Option ((Int32) ⊕ Nat) :=
  if y0 = (-1) then
    (some (.inl (-1)))
  else
    (ck (inb y0 30) <|
    if (cw 0 y0.toNatClampNeg) = (-1) then
      (fX5_walk_J134 cw ct cl cb x2 x5 y0)
    else
      (bd (fX0_tagOut cl y0 x6) <| fun q163 =>
      ck (inb y0 30) <|
      k75 (cw 0 y0.toNatClampNeg, q163, x5 + 1)))
def fX5_walk_S75 (k75 : (Int32 × Int32 × Int32) → Option ((Int32) ⊕ Nat)) (cw : St) (ct : St) (cl : St) (cb : St) (x2 : Int32) (x3 : Int32) (x4 : Int32) (x5 : Int32) : Option ((Int32) ⊕ Nat) :=
  if 12 < x5 then
    (some (.inl (-1)))
  else
    (bd (fX5_laneLetIn ct cl x3 x4) <| fun q86 =>
    if q86 = 0 then
      (fX5_walk_J110 k75 cw ct cl cb x2 x5 q86 (-1))
    else
      (bd (fX5_wayTold ct cl cb (x3 / 5) q86 x2) <| fun q107 =>
      fX5_walk_J110 k75 cw ct cl cb x2 x5 q86 q107))
def fX5_walk_L75 (cw : St) (ct : St) (cl : St) (cb : St) (x2 : Int32) (x3 : Int32) (x4 : Int32) (x5 : Int32) : Option ((Int32) ⊕ Nat) := loopN (fun k a => fX5_walk_S75 k cw ct cl cb x2 (a.1) (a.2.1) (a.2.2)) 1000 (x3, x4, x5)
def fX5_walk (cw : St) (ct : St) (cl : St) (cb : St) (x1 : Int32) (x2 : Int32) : Option ((Int32) ⊕ Nat) :=
  bx (fX5_needHouse x1) <| fun q1 =>
  bx (fX5_needHouse x2) <| fun q5 =>
  if x1 = x2 then
    (some (.inr 2))
  else
    (ck (inb x1 10) <|
    if (cw 4 x1.toNatClampNeg) = (-1) then
      (some (.inr 3))
    else
      (ck (inb x2 10) <|
      if (cw 4 x2.toNatClampNeg) = (-1) then
        (some (.inr 3))
      else
        (ck (inb x1 10) <|
        fX5_walk_L75 cw ct cl cb x2 (cw 4 x1.toNatClampNeg) 0 1)))
def fX0_init_S22 (k22 : (St × Int32) → Option (St)) (cl : St) (x1 : Int32) : Option (St) :=
  if 30 ≤ x1 then
    (some cl)
  else
    (ck (inb x1 30) <|
    ck (inb x1 30) <|
    k22 ((aS (aS cl 0 x1 1) 1 x1 1), x1 + 1))
def fX0_init_L22 (cl : St) (x1 : Int32) : Option (St) := loopN (fun k a => fX0_init_S22 k (a.1) (a.2)) 1000 (cl, x1)
def fX0_init : Option (St) :=
  fX0_init_L22 st0 0
def fX1_init : Option (St) :=
  some st0
def fX2_init_S32 (k32 : (St × Int32) → Option (St)) (cb : St) (x1 : Int32) : Option (St) :=
  if 180 ≤ x1 then
    (some cb)
  else
    (ck (inb x1 180) <|
    k32 ((aS cb 0 x1 (-1)), x1 + 1))
def fX2_init_L32 (cb : St) (x1 : Int32) : Option (St) := loopN (fun k a => fX2_init_S32 k (a.1) (a.2)) 1000 (cb, x1)
def fX2_init : Option (St) :=
  fX2_init_L32 st0 0
def fX3_init_S123 (k123 : (St × Int32) → Option (St)) (ct : St) (x2 : Int32) : Option (St) :=
  if 6 ≤ x2 then
    (some ct)
  else
    (ck (inb x2 6) <|
    ck (inb x2 6) <|
    k123 ((aS (aS ct 1 x2 x2) 4 x2 (-1)), x2 + 1))
def fX3_init_L123 (ct : St) (x2 : Int32) : Option (St) := loopN (fun k a => fX3_init_S123 k (a.1) (a.2)) 1000 (ct, x2)
def fX3_init : Option (St) :=
  fX3_init_L123 st0 0
def fX4_init_S103 (k103 : (St × Int32) → Option (St)) (cw : St) (x1 : Int32) : Option (St) :=
  if 6 ≤ x1 then
    (some cw)
  else
    (ck (inb x1 6) <|
    k103 ((aS cw 5 x1 8), x1 + 1))
def fX4_init_L103 (cw : St) (x1 : Int32) : Option (St) := loopN (fun k a => fX4_init_S103 k (a.1) (a.2)) 1000 (cw, x1)
def fX4_init_J101 (cw : St) : Option (St) :=
  fX4_init_L103 cw 0
def fX4_init_S82 (k82 : (St × Int32) → Option (St)) (cw : St) (x1 : Int32) : Option (St) :=
  if 10 ≤ x1 then
    (fX4_init_J101 cw)
  else
    (ck (inb x1 10) <|
    k82 ((aS cw 4 x1 (-1)), x1 + 1))
def fX4_init_L82 (cw : St) (x1 : Int32) : Option (St) := loopN (fun k a => fX4_init_S82 k (a.1) (a.2)) 1000 (cw, x1)
def fX4_init_J80 (cw : St) : Option (St) :=
  fX4_init_L82 cw 0
def fX4_init_S54 (k54 : (St × Int32) → Option (St)) (cw : St) (x1 : Int32) : Option (St) :=
  if 30 ≤ x1 then
    (fX4_init_J80 cw)
  else
    (ck (inb x1 30) <|
    ck (inb x1 30) <|
    k54 ((aS (aS cw 0 x1 (-1)) 2 x1 (-1)), x1 + 1))
def fX4_init_L54 (cw : St) (x1 : Int32) : Option (St) := loopN (fun k a => fX4_init_S54 k (a.1) (a.2)) 1000 (cw, x1)
def fX4_init : Option (St) :=
  fX4_init_L54 st0 0
def fX5_init : Option (St × St × St × St × St × St × St) :=
  bd (fX4_init) <| fun r1 =>
  bd (fX3_init) <| fun r2 =>
  bd (fX3_init) <| fun r3 =>
  bd (fX0_init) <| fun r4 =>
  bd (fX2_init) <| fun r5 =>
  bd (fX1_init) <| fun r6 =>
  some ((iS st0 9 20), r1, r2, r3, r4, r5, r6)
def fL_part_J25 (v x2 : Int32) : Option Int32 :=
  ck (decide (¬ x2 = 0)) <|
  some ((v &&& 2147483647) - (v &&& 2147483647) / x2 * x2)
def fL_part (L : Nat) (xs : Nat → Int32) (x1 x2 : Int32) : Option Int32 :=
  if Int32.ofNat L ≤ x1 then
    (fL_part_J25 (761 * x1 + 619 * x1 * x1) x2)
  else
    (ck (inb x1 L) <|
    fL_part_J25 (xs x1.toNatClampNeg) x2)
def fL_isBetter (cg : St) (x1 : Int32) (x2 : Int32) : Option (Int32) :=
  ck (inb x1 6) <|
  ck (inb x2 6) <|
  if (cg 3 x1.toNatClampNeg) < (cg 3 x2.toNatClampNeg) then
    (some 1)
  else
    (ck (inb x1 6) <|
    ck (inb x2 6) <|
    if (cg 3 x1.toNatClampNeg) = (cg 3 x2.toNatClampNeg) then
      (if x2 ≤ x1 then
        (some 0)
      else
        (some 1))
    else
      (some 0))
def fL_isPassable (cs : St) (ct : St) (cg : St) (x2 : Int32) : Option (Int32) :=
  ck (inb x2 30) <|
  if (cg 0 x2.toNatClampNeg) < 0 then
    (some 0)
  else
    (ck (inb x2 30) <|
    if 100 ≤ (cg 0 x2.toNatClampNeg) then
      (some 0)
    else
      (bn (fX5_port cs ct (x2 / 5) (x2 - x2 / 5 * 5) 2) <| fun q22 =>
      if q22 = 0 then
        (ck (inb x2 30) <|
        ck (inb x2 30) <|
        bn (fX5_port cs ct ((cg 0 x2.toNatClampNeg) / 5) ((cg 0 x2.toNatClampNeg) - (cg 0 x2.toNatClampNeg) / 5 * 5) 2) <| fun q40 =>
        if q40 = 0 then
          (some 1)
        else
          (some 0))
      else
        (some 0)))
def fL_found_J175 (cs : St) (ct : St) (cg : St) (cf : St) (x6 : Int32) : Option (Int32) :=
  ck (inb x6 6) <|
  some ((1000 * x6) + (cf 0 x6.toNatClampNeg))
def fL_found_S132 (k132 : (Int32 × Int32) → Option (Int32)) (cs : St) (ct : St) (cg : St) (cf : St) (x6 : Int32) (x7 : Int32) : Option (Int32) :=
  if 6 ≤ x7 then
    (fL_found_J175 cs ct cg cf x6)
  else
    (ck (inb x7 6) <|
    if 100000 ≤ (cf 0 x7.toNatClampNeg) then
      (k132 (x6, x7 + 1))
    else
      (bd (fL_isBetter cg x7 x6) <| fun q154 =>
      if q154 = 0 then
        (k132 (x6, x7 + 1))
      else
        (k132 (x7, x7 + 1))))
def fL_found_L132 (cs : St) (ct : St) (cg : St) (cf : St) (x6 : Int32) (x7 : Int32) : Option (Int32) := loopN (fun k a => fL_found_S132 k cs ct cg cf (a.1) (a.2)) 1000 (x6, x7)
def fL_found_J125 (cs : St) (ct : St) (cg : St) (cf : St) (x4 : Int32) : Option (Int32) :=
  fL_found_L132 cs ct cg cf x4 0
def fL_found_J118 (k43 : (St × Int32) → Option (Int32)) (cs : St) (ct : St) (cg : St) (cf : St) (x4 : Int32) (x6 : Int32) (y0 : Int32) (y1 : Int32) : Option (Int32) :=
  ck (inb y1 6) <|
  k43 ((aS cf 0 y1 y0), x6 + 1)
def fL_found_S43 (k43 : (St × Int32) → Option (Int32)) (cs : St) (ct : St) (cg : St) (x4 : Int32) (cf : St) (x6 : Int32) : Option (Int32) :=
  if 180 ≤ x6 then
    (fL_found_J125 cs ct cg cf x4)
  else
    (bd (fL_isPassable cs ct cg (x6 - x6 / 30 * 30)) <| fun q62 =>
    if q62 = 0 then
      (k43 (cf, x6 + 1))
    else
      (ck (inb ((x6 - x6 / 30 * 30) / 5) 6) <|
      ck (inb (x6 - x6 / 30 * 30) 30) <|
      ck (inb (x6 - x6 / 30 * 30) 30) <|
      ck (inb (x6 - x6 / 30 * 30) 30) <|
      ck (inb ((cg 0 (x6 - x6 / 30 * 30).toNatClampNeg) / 5) 6) <|
      if (cf 0 ((cg 0 (x6 - x6 / 30 * 30).toNatClampNeg) / 5).toNatClampNeg) ≤ ((cf 0 ((x6 - x6 / 30 * 30) / 5).toNatClampNeg) + (cg 1 (x6 - x6 / 30 * 30).toNatClampNeg)) then
        (ck (inb (x6 - x6 / 30 * 30) 30) <|
        ck (inb ((cg 0 (x6 - x6 / 30 * 30).toNatClampNeg) / 5) 6) <|
        fL_found_J118 k43 cs ct cg cf x4 x6 (cf 0 ((cg 0 (x6 - x6 / 30 * 30).toNatClampNeg) / 5).toNatClampNeg) ((cg 0 (x6 - x6 / 30 * 30).toNatClampNeg) / 5))
      else
        (fL_found_J118 k43 cs ct cg cf x4 x6 ((cf 0 ((x6 - x6 / 30 * 30) / 5).toNatClampNeg) + (cg 1 (x6 - x6 / 30 * 30).toNatClampNeg)) ((cg 0 (x6 - x6 / 30 * 30).toNatClampNeg) / 5))))
def fL_found_L43 (cs : St) (ct : St) (cg : St) (x4 : Int32) (cf : St) (x6 : Int32) : Option (Int32) := loopN (fun k a => fL_found_S43 k cs ct cg x4 (a.1) (a.2)) 1000 (cf, x6)
def fL_found_J40 (cs : St) (ct : St) (cg : St) (cf : St) (x4 : Int32) : Option (Int32) :=
  fL_found_L43 cs ct cg x4 cf 0
def fL_found_J33 (k9 : (St × Int32) → Option (Int32)) (cs : St) (ct : St) (cg : St) (cf : St) (x4 : Int32) (x6 : Int32) (y0 : Int32) (y1 : Int32) : Option (Int32) :=
  ck (inb y1 6) <|
  k9 ((aS cf 0 y1 y0), x6 + 1)
def fL_found_S9 (k9 : (St × Int32) → Option (Int32)) (cs : St) (ct : St) (cg : St) (x4 : Int32) (cf : St) (x6 : Int32) : Option (Int32) :=
  if 6 ≤ x6 then
    (fL_found_J40 cs ct cg cf x4)
  else
    (if x6 = x4 then
      (fL_found_J33 k9 cs ct cg cf x4 x6 0 x6)
    else
      (fL_found_J33 k9 cs ct cg cf x4 x6 100000 x6))
def fL_found_L9 (cs : St) (ct : St) (cg : St) (x4 : Int32) (cf : St) (x6 : Int32) : Option (Int32) := loopN (fun k a => fL_found_S9 k cs ct cg x4 (a.1) (a.2)) 1000 (cf, x6)
def fL_found (cs : St) (ct : St) (cg : St) (x4 : Int32) : Option (Int32) :=
  fL_found_L9 cs ct cg x4 st0 0
def fL_areAll_J525 (cs : St) (cw : St) (ct : St) (cb : St) (cg : St) (x6 : Int32) (x7 : Int32) : Option (Int32 × St) :=
  if x6 = 0 then
    (some (0, ct))
  else
    (ck (inb 4 6) <|
    if x7 = (cg 4 (4 : Int32).toNatClampNeg) then
      (some (1, ct))
    else
      (some (0, ct)))
def fL_areAll_S500 (k500 : (Int32 × Int32) → Option (Int32 × St)) (cs : St) (cw : St) (ct : St) (cb : St) (cg : St) (x6 : Int32) (x7 : Int32) (x8 : Int32) : Option (Int32 × St) :=
  if 10 ≤ x8 then
    (fL_areAll_J525 cs cw ct cb cg x6 x7)
  else
    (bn (fX5_got cs x8 0) <| fun q513 =>
    k500 (x7 + q513, x8 + 1))
def fL_areAll_L500 (cs : St) (cw : St) (ct : St) (cb : St) (cg : St) (x6 : Int32) (x7 : Int32) (x8 : Int32) : Option (Int32 × St) := loopN (fun k a => fL_areAll_S500 k cs cw ct cb cg x6 (a.1) (a.2)) 1000 (x7, x8)
def fL_areAll_J497 (cs : St) (cw : St) (ct : St) (cb : St) (cg : St) (x6 : Int32) (x7 : Int32) : Option (Int32 × St) :=
  fL_areAll_L500 cs cw ct cb cg x6 x7 0
def fL_areAll_J458 (k242 : (St × Int32 × Int32) → Option (Int32 × St)) (cs : St) (cw : St) (ct : St) (cb : St) (cg : St) (x7 : Int32) (x8 : Int32) (y0 : Int32) : Option (Int32 × St) :=
  if y0 = 0 then
    (k242 (ct, 0, x8 + 1))
  else
    (bn (fX5_found cw ct x8) <| fun q468 =>
    bd (fL_found cs (q468.2) cg x8) <| fun q478 =>
    if q468.1 = q478 then
      (k242 ((q468.2), 1, x8 + 1))
    else
      (k242 ((q468.2), 0, x8 + 1)))
def fL_areAll_J457 (k242 : (St × Int32 × Int32) → Option (Int32 × St)) (cs : St) (cw : St) (ct : St) (cb : St) (cg : St) (x7 : Int32) (x8 : Int32) : Option (Int32 × St) :=
  fL_areAll_J458 k242 cs cw ct cb cg x7 x8 0
def fL_areAll_J349 (k242 : (St × Int32 × Int32) → Option (Int32 × St)) (cs : St) (cw : St) (ct : St) (cb : St) (cg : St) (x6 : Int32) (x7 : Int32) (x8 : Int32) (x9 : Int32) : Option (Int32 × St) :=
  bn (fX5_holds ct cb x8 0) <| fun q353 =>
  if x6 = 0 then
    (fL_areAll_J457 k242 cs cw ct cb cg x7 x8)
  else
    (bn (fX5_holds ct cb x8 4) <| fun q369 =>
    if x9 = q369 then
      (if 9 ≤ x9 then
        (fL_areAll_J457 k242 cs cw ct cb cg x7 x8)
      else
        (if q353 < 0 then
          (fL_areAll_J457 k242 cs cw ct cb cg x7 x8)
        else
          (if 6 ≤ q353 then
            (fL_areAll_J457 k242 cs cw ct cb cg x7 x8)
          else
            (bn (fX5_holds ct cb x8 2) <| fun q398 =>
            if 8 ≤ q398 then
              (fL_areAll_J457 k242 cs cw ct cb cg x7 x8)
            else
              (bn (fX5_holds ct cb x8 1) <| fun q410 =>
              if q410 < 0 then
                (fL_areAll_J457 k242 cs cw ct cb cg x7 x8)
              else
                (bn (fX5_holds ct cb x8 3) <| fun q420 =>
                if 0 ≤ q420 then
                  (fL_areAll_J458 k242 cs cw ct cb cg x7 x8 1)
                else
                  (if q353 = x8 then
                    (bn (fX5_holds ct cb x8 1) <| fun q437 =>
                    if q437 = 0 then
                      (bn (fX5_holds ct cb x8 2) <| fun q447 =>
                      if q447 = 0 then
                        (fL_areAll_J458 k242 cs cw ct cb cg x7 x8 1)
                      else
                        (fL_areAll_J457 k242 cs cw ct cb cg x7 x8))
                    else
                      (fL_areAll_J457 k242 cs cw ct cb cg x7 x8))
                  else
                    (fL_areAll_J457 k242 cs cw ct cb cg x7 x8))))))))
    else
      (fL_areAll_J457 k242 cs cw ct cb cg x7 x8))
def fL_areAll_J304 (k242 : (St × Int32 × Int32) → Option (Int32 × St)) (k260 : (Int32 × Int32 × Int32) → Option (Int32 × St)) (cs : St) (cw : St) (ct : St) (cb : St) (cg : St) (x7 : Int32) (x8 : Int32) (x10 : Int32) (x11 : Int32) (y0 : Int32) (y1 : Int32) : Option (Int32 × St) :=
  if x11 < 0 then
    (k260 (1, y1 + y0, x10 + 1))
  else
    (ck (inb ((5 * x8) + x11) 30) <|
    if (cg 0 ((5 * x8) + x11).toNatClampNeg) < 0 then
      (k260 (0, y1 + y0, x10 + 1))
    else
      (bn (fX5_port cs ct x8 x11 2) <| fun q330 =>
      if q330 = 0 then
        (k260 (1, y1 + y0, x10 + 1))
      else
        (k260 (0, y1 + y0, x10 + 1))))
def fL_areAll_S260 (k242 : (St × Int32 × Int32) → Option (Int32 × St)) (k260 : (Int32 × Int32 × Int32) → Option (Int32 × St)) (cs : St) (cw : St) (ct : St) (cb : St) (cg : St) (x7 : Int32) (x8 : Int32) (x6 : Int32) (x9 : Int32) (x10 : Int32) : Option (Int32 × St) :=
  if 30 ≤ x10 then
    (fL_areAll_J349 k242 cs cw ct cb cg x6 x7 x8 x9)
  else
    (if x6 = 0 then
      (fL_areAll_J349 k242 cs cw ct cb cg x6 x7 x8 x9)
    else
      (bn (fX5_table cb x8 (1 + (x10 / 10)) (x10 - x10 / 10 * 10)) <| fun q287 =>
      if q287 < 0 then
        (fL_areAll_J304 k242 k260 cs cw ct cb cg x7 x8 x10 q287 0 x9)
      else
        (fL_areAll_J304 k242 k260 cs cw ct cb cg x7 x8 x10 q287 1 x9)))
def fL_areAll_L260 (k242 : (St × Int32 × Int32) → Option (Int32 × St)) (cs : St) (cw : St) (ct : St) (cb : St) (cg : St) (x7 : Int32) (x8 : Int32) (x6 : Int32) (x9 : Int32) (x10 : Int32) : Option (Int32 × St) := loopN (fun k a => fL_areAll_S260 k242 k cs cw ct cb cg x7 x8 (a.1) (a.2.1) (a.2.2)) 1000 (x6, x9, x10)
def fL_areAll_S242 (k242 : (St × Int32 × Int32) → Option (Int32 × St)) (cs : St) (cw : St) (cb : St) (cg : St) (x7 : Int32) (ct : St) (x6 : Int32) (x8 : Int32) : Option (Int32 × St) :=
  if 6 ≤ x8 then
    (fL_areAll_J497 cs cw ct cb cg x6 x7)
  else
    (if x6 = 0 then
      (fL_areAll_J497 cs cw ct cb cg x6 x7)
    else
      (fL_areAll_L260 k242 cs cw ct cb cg x7 x8 x6 0 0))
def fL_areAll_L242 (cs : St) (cw : St) (cb : St) (cg : St) (x7 : Int32) (ct : St) (x6 : Int32) (x8 : Int32) : Option (Int32 × St) := loopN (fun k a => fL_areAll_S242 k cs cw cb cg x7 (a.1) (a.2.1) (a.2.2)) 8 (ct, x6, x8)
def fL_areAll_J239 (cs : St) (cw : St) (ct : St) (cb : St) (cg : St) (x6 : Int32) (x7 : Int32) : Option (Int32 × St) :=
  fL_areAll_L242 cs cw cb cg x7 ct x6 0
def fL_areAll_J195 (k9 : (Int32 × Int32) → Option (Int32 × St)) (cs : St) (cw : St) (ct : St) (cb : St) (cg : St) (x7 : Int32) (x8 : Int32) (x9 : Int32) : Option (Int32 × St) :=
  bn (fX5_port cs ct x9 (x8 - x8 / 5 * 5) 3) <| fun q203 =>
  if q203 < 0 then
    (k9 (0, x8 + 1))
  else
    (bn (fX5_port cs ct x9 (x8 - x8 / 5 * 5) 3) <| fun q217 =>
    if 200 ≤ q217 then
      (k9 (0, x8 + 1))
    else
      (k9 (1, x8 + 1)))
def fL_areAll_J173 (k9 : (Int32 × Int32) → Option (Int32 × St)) (cs : St) (cw : St) (ct : St) (cb : St) (cg : St) (x7 : Int32) (x8 : Int32) (x9 : Int32) (x10 : Int32) (x12 : Int32) (x13 : Int32) : Option (Int32 × St) :=
  if x13 = 0 then
    (fL_areAll_J195 k9 cs cw ct cb cg x7 x8 x9)
  else
    (if x10 = 0 then
      (fL_areAll_J195 k9 cs cw ct cb cg x7 x8 x9)
    else
      (if x12 = 1 then
        (fL_areAll_J195 k9 cs cw ct cb cg x7 x8 x9)
      else
        (if x12 = 2 then
          (fL_areAll_J195 k9 cs cw ct cb cg x7 x8 x9)
        else
          (k9 (0, x8 + 1)))))
def fL_areAll_J170 (k9 : (Int32 × Int32) → Option (Int32 × St)) (cs : St) (cw : St) (ct : St) (cb : St) (cg : St) (x7 : Int32) (x8 : Int32) (x9 : Int32) (x10 : Int32) (x12 : Int32) (x13 : Int32) (y0 : Int32) (y1 : Int32) : Option (Int32 × St) :=
  if y1 = y0 then
    (fL_areAll_J173 k9 cs cw ct cb cg x7 x8 x9 x10 x12 x13)
  else
    (k9 (0, x8 + 1))
def fL_areAll_J149 (k9 : (Int32 × Int32) → Option (Int32 × St)) (cs : St) (cw : St) (ct : St) (cb : St) (cg : St) (x7 : Int32) (x8 : Int32) (x9 : Int32) (x10 : Int32) (x11 : Int32) (x12 : Int32) (x13 : Int32) : Option (Int32 × St) :=
  ck (inb x8 30) <|
  if (cg 0 x8.toNatClampNeg) < 100 then
    (fL_areAll_J173 k9 cs cw ct cb cg x7 x8 x9 x10 x12 x13)
  else
    (if x11 = 0 then
      (fL_areAll_J170 k9 cs cw ct cb cg x7 x8 x9 x10 x12 x13 1 x10)
    else
      (fL_areAll_J170 k9 cs cw ct cb cg x7 x8 x9 x10 x12 x13 0 x10))
def fL_areAll_J137 (k9 : (Int32 × Int32) → Option (Int32 × St)) (cs : St) (cw : St) (ct : St) (cb : St) (cg : St) (x7 : Int32) (x8 : Int32) (x9 : Int32) (x10 : Int32) (x11 : Int32) (x12 : Int32) (x13 : Int32) : Option (Int32 × St) :=
  ck (inb x8 30) <|
  if 0 ≤ (cg 0 x8.toNatClampNeg) then
    (fL_areAll_J149 k9 cs cw ct cb cg x7 x8 x9 x10 x11 x12 x13)
  else
    (if x10 = 0 then
      (fL_areAll_J149 k9 cs cw ct cb cg x7 x8 x9 x10 x11 x12 x13)
    else
      (k9 (0, x8 + 1)))
def fL_areAll_J127 (k9 : (Int32 × Int32) → Option (Int32 × St)) (cs : St) (cw : St) (ct : St) (cb : St) (cg : St) (x7 : Int32) (x8 : Int32) (x9 : Int32) (x10 : Int32) (x11 : Int32) (x12 : Int32) (x13 : Int32) : Option (Int32 × St) :=
  if x11 = 0 then
    (fL_areAll_J137 k9 cs cw ct cb cg x7 x8 x9 x10 x11 x12 x13)
  else
    (if x12 = 0 then
      (fL_areAll_J137 k9 cs cw ct cb cg x7 x8 x9 x10 x11 x12 x13)
    else
      (k9 (0, x8 + 1)))
def fL_areAll_J117 (k9 : (Int32 × Int32) → Option (Int32 × St)) (cs : St) (cw : St) (ct : St) (cb : St) (cg : St) (x7 : Int32) (x8 : Int32) (x9 : Int32) (x10 : Int32) (x11 : Int32) (x12 : Int32) (x13 : Int32) : Option (Int32 × St) :=
  if x13 = 0 then
    (if x12 = 0 then
      (fL_areAll_J127 k9 cs cw ct cb cg x7 x8 x9 x10 x11 x12 x13)
    else
      (k9 (0, x8 + 1)))
  else
    (fL_areAll_J127 k9 cs cw ct cb cg x7 x8 x9 x10 x11 x12 x13)
def fL_areAll_J105 (k9 : (Int32 × Int32) → Option (Int32 × St)) (cs : St) (cw : St) (ct : St) (cb : St) (cg : St) (x7 : Int32) (x8 : Int32) (x9 : Int32) (x10 : Int32) (x11 : Int32) (x12 : Int32) (y0 : Int32) : Option (Int32 × St) :=
  if x10 = 0 then
    (fL_areAll_J117 k9 cs cw ct cb cg x7 x8 x9 x10 x11 x12 y0)
  else
    (if x11 = 0 then
      (fL_areAll_J117 k9 cs cw ct cb cg x7 x8 x9 x10 x11 x12 y0)
    else
      (k9 (0, x8 + 1)))
def fL_areAll_J104 (k9 : (Int32 × Int32) → Option (Int32 × St)) (cs : St) (cw : St) (ct : St) (cb : St) (cg : St) (x7 : Int32) (x8 : Int32) (x9 : Int32) (x10 : Int32) (x11 : Int32) (x12 : Int32) : Option (Int32 × St) :=
  fL_areAll_J105 k9 cs cw ct cb cg x7 x8 x9 x10 x11 x12 0
def fL_areAll_J69 (k9 : (Int32 × Int32) → Option (Int32 × St)) (cs : St) (cw : St) (ct : St) (cb : St) (cg : St) (x7 : Int32) (x8 : Int32) (x9 : Int32) (x10 : Int32) (y0 : Int32) : Option (Int32 × St) :=
  bn (fX5_port cs ct x9 (x8 - x8 / 5 * 5) 1) <| fun q79 =>
  ck (inb x8 30) <|
  if (cg 0 x8.toNatClampNeg) < 0 then
    (fL_areAll_J104 k9 cs cw ct cb cg x7 x8 x9 x10 y0 q79)
  else
    (ck (inb x8 30) <|
    if 100 ≤ (cg 0 x8.toNatClampNeg) then
      (fL_areAll_J104 k9 cs cw ct cb cg x7 x8 x9 x10 y0 q79)
    else
      (fL_areAll_J105 k9 cs cw ct cb cg x7 x8 x9 x10 y0 q79 1))
def fL_areAll_J47 (k9 : (Int32 × Int32) → Option (Int32 × St)) (cs : St) (cw : St) (ct : St) (cb : St) (cg : St) (x7 : Int32) (x8 : Int32) (x9 : Int32) (y0 : Int32) : Option (Int32 × St) :=
  bn (fX5_port cs ct x9 (x8 - x8 / 5 * 5) 2) <| fun q57 =>
  if q57 = 1 then
    (fL_areAll_J69 k9 cs cw ct cb cg x7 x8 x9 y0 1)
  else
    (fL_areAll_J69 k9 cs cw ct cb cg x7 x8 x9 y0 0)
def fL_areAll_S9 (k9 : (Int32 × Int32) → Option (Int32 × St)) (cs : St) (cw : St) (ct : St) (cb : St) (cg : St) (x7 : Int32) (x6 : Int32) (x8 : Int32) : Option (Int32 × St) :=
  if 30 ≤ x8 then
    (fL_areAll_J239 cs cw ct cb cg x6 x7)
  else
    (if x6 = 0 then
      (fL_areAll_J239 cs cw ct cb cg x6 x7)
    else
      (bn (fX5_port cs ct (x8 / 5) (x8 - x8 / 5 * 5) 0) <| fun q35 =>
      if q35 = 1 then
        (fL_areAll_J47 k9 cs cw ct cb cg x7 x8 (x8 / 5) 1)
      else
        (fL_areAll_J47 k9 cs cw ct cb cg x7 x8 (x8 / 5) 0)))
def fL_areAll_L9 (cs : St) (cw : St) (ct : St) (cb : St) (cg : St) (x7 : Int32) (x6 : Int32) (x8 : Int32) : Option (Int32 × St) := loopN (fun k a => fL_areAll_S9 k cs cw ct cb cg x7 (a.1) (a.2)) 1000 (x6, x8)
def fL_areAll (cs : St) (cw : St) (ct : St) (cb : St) (cg : St) : Option (Int32 × St) :=
  fL_areAll_L9 cs cw ct cb cg 0 1 0
def fL_isTree_J393 (cs : St) (ct : St) (cb : St) (cg : St) (x4 : Int32) (x5 : Int32) (x6 : Int32) : Option (Int32) :=
  if x4 = 0 then
    (some 0)
  else
    (if x5 = (6 - x6) then
      (some 1)
    else
      (some 0))
def fL_isTree_J324 (k230 : (Int32 × Int32 × Int32) → Option (Int32)) (cs : St) (ct : St) (cb : St) (cg : St) (x6 : Int32) (x7 : Int32) (x8 : Int32) (y0 : Int32) (y1 : Int32) : Option (Int32) :=
  if x8 = 0 then
    (k230 (1, y1 + y0, x7 + 1))
  else
    (bd (fL_isPassable cs ct cg x7) <| fun q336 =>
    if q336 = 0 then
      (k230 (1, y1 + y0, x7 + 1))
    else
      (bn (fX5_port cs ct (x7 / 5) (x7 - x7 / 5 * 5) 1) <| fun q352 =>
      if q352 = 2 then
        (k230 (1, y1 + y0, x7 + 1))
      else
        (ck (inb x7 30) <|
        ck (inb x7 30) <|
        bn (fX5_port cs ct ((cg 0 x7.toNatClampNeg) / 5) ((cg 0 x7.toNatClampNeg) - (cg 0 x7.toNatClampNeg) / 5 * 5) 1) <| fun q373 =>
        if q373 = 2 then
          (k230 (1, y1 + y0, x7 + 1))
        else
          (k230 (0, y1 + y0, x7 + 1)))))
def fL_isTree_J323 (k230 : (Int32 × Int32 × Int32) → Option (Int32)) (cs : St) (ct : St) (cb : St) (cg : St) (x6 : Int32) (x7 : Int32) (x8 : Int32) (y0 : Int32) : Option (Int32) :=
  fL_isTree_J324 k230 cs ct cb cg x6 x7 x8 0 y0
def fL_isTree_J263 (k230 : (Int32 × Int32 × Int32) → Option (Int32)) (cs : St) (ct : St) (cb : St) (cg : St) (x5 : Int32) (x6 : Int32) (x7 : Int32) (y0 : Int32) : Option (Int32) :=
  if y0 = 0 then
    (fL_isTree_J323 k230 cs ct cb cg x6 x7 y0 x5)
  else
    (bn (fX5_port cs ct (x7 / 5) (x7 - x7 / 5 * 5) 0) <| fun q282 =>
    if q282 = 1 then
      (ck (inb x7 30) <|
      ck (inb x7 30) <|
      bn (fX5_port cs ct ((cg 0 x7.toNatClampNeg) / 5) ((cg 0 x7.toNatClampNeg) - (cg 0 x7.toNatClampNeg) / 5 * 5) 0) <| fun q303 =>
      if q303 = 1 then
        (ck (inb x7 30) <|
        if (cg 0 x7.toNatClampNeg) ≤ x7 then
          (fL_isTree_J323 k230 cs ct cb cg x6 x7 y0 x5)
        else
          (fL_isTree_J324 k230 cs ct cb cg x6 x7 y0 1 x5))
      else
        (fL_isTree_J323 k230 cs ct cb cg x6 x7 y0 x5))
    else
      (fL_isTree_J323 k230 cs ct cb cg x6 x7 y0 x5))
def fL_isTree_J262 (k230 : (Int32 × Int32 × Int32) → Option (Int32)) (cs : St) (ct : St) (cb : St) (cg : St) (x5 : Int32) (x6 : Int32) (x7 : Int32) : Option (Int32) :=
  fL_isTree_J263 k230 cs ct cb cg x5 x6 x7 0
def fL_isTree_S230 (k230 : (Int32 × Int32 × Int32) → Option (Int32)) (cs : St) (ct : St) (cb : St) (cg : St) (x6 : Int32) (x4 : Int32) (x5 : Int32) (x7 : Int32) : Option (Int32) :=
  if 30 ≤ x7 then
    (fL_isTree_J393 cs ct cb cg x4 x5 x6)
  else
    (if x4 = 0 then
      (fL_isTree_J393 cs ct cb cg x4 x5 x6)
    else
      (ck (inb x7 30) <|
      if (cg 0 x7.toNatClampNeg) < 0 then
        (fL_isTree_J262 k230 cs ct cb cg x5 x6 x7)
      else
        (ck (inb x7 30) <|
        if 100 ≤ (cg 0 x7.toNatClampNeg) then
          (fL_isTree_J262 k230 cs ct cb cg x5 x6 x7)
        else
          (fL_isTree_J263 k230 cs ct cb cg x5 x6 x7 1))))
def fL_isTree_L230 (cs : St) (ct : St) (cb : St) (cg : St) (x6 : Int32) (x4 : Int32) (x5 : Int32) (x7 : Int32) : Option (Int32) := loopN (fun k a => fL_isTree_S230 k cs ct cb cg x6 (a.1) (a.2.1) (a.2.2)) 1000 (x4, x5, x7)
def fL_isTree_J227 (cs : St) (ct : St) (cb : St) (cg : St) (x4 : Int32) (x5 : Int32) (x6 : Int32) : Option (Int32) :=
  fL_isTree_L230 cs ct cb cg x6 x4 x5 0
def fL_isTree_J123 (k12 : (Int32 × Int32 × Int32) → Option (Int32)) (cs : St) (ct : St) (cb : St) (cg : St) (x5 : Int32) (x6 : Int32) (x7 : Int32) (x9 : Int32) (x10 : Int32) (y0 : Int32) (y1 : Int32) : Option (Int32) :=
  if y1 = y0 then
    (if x10 < 0 then
      (k12 (1, x6, x7 + 1))
    else
      (ck (inb ((5 * x7) + x10) 30) <|
      if (cg 0 ((5 * x7) + x10).toNatClampNeg) < 0 then
        (k12 (0, x6, x7 + 1))
      else
        (ck (inb ((5 * x7) + x10) 30) <|
        if 100 ≤ (cg 0 ((5 * x7) + x10).toNatClampNeg) then
          (k12 (0, x6, x7 + 1))
        else
          (bn (fX5_port cs ct x7 x10 0) <| fun q163 =>
          if q163 = 1 then
            (bn (fX5_port cs ct x7 x10 1) <| fun q176 =>
            if q176 = 1 then
              (ck (inb ((5 * x7) + x10) 30) <|
              bn (fX5_holds ct cb ((cg 0 ((5 * x7) + x10).toNatClampNeg) / 5) 1) <| fun q196 =>
              ck (inb ((5 * x7) + x10) 30) <|
              if (q196 + (cg 1 ((5 * x7) + x10).toNatClampNeg)) = x9 then
                (k12 (1, x6, x7 + 1))
              else
                (k12 (0, x6, x7 + 1)))
            else
              (k12 (0, x6, x7 + 1)))
          else
            (k12 (0, x6, x7 + 1))))))
  else
    (k12 (0, x6, x7 + 1))
def fL_isTree_J111 (k12 : (Int32 × Int32 × Int32) → Option (Int32)) (cs : St) (ct : St) (cb : St) (cg : St) (x5 : Int32) (x6 : Int32) (x7 : Int32) (x8 : Int32) (x9 : Int32) (x10 : Int32) (y0 : Int32) : Option (Int32) :=
  if x8 = x7 then
    (fL_isTree_J123 k12 cs ct cb cg x5 x6 x7 x9 x10 1 y0)
  else
    (fL_isTree_J123 k12 cs ct cb cg x5 x6 x7 x9 x10 0 y0)
def fL_isTree_J84 (k12 : (Int32 × Int32 × Int32) → Option (Int32)) (cs : St) (ct : St) (cb : St) (cg : St) (x4 : Int32) (x5 : Int32) (x7 : Int32) (x8 : Int32) (x9 : Int32) (y0 : Int32) (y1 : Int32) : Option (Int32) :=
  bn (fX5_holds ct cb x7 3) <| fun q91 =>
  if x4 = 0 then
    (k12 (0, y1 + y0, x7 + 1))
  else
    (if 0 ≤ q91 then
      (fL_isTree_J111 k12 cs ct cb cg x5 (y1 + y0) x7 x8 x9 q91 0)
    else
      (fL_isTree_J111 k12 cs ct cb cg x5 (y1 + y0) x7 x8 x9 q91 1))
def fL_isTree_J68 (k12 : (Int32 × Int32 × Int32) → Option (Int32)) (cs : St) (ct : St) (cb : St) (cg : St) (x5 : Int32) (x6 : Int32) (x7 : Int32) (x8 : Int32) (x9 : Int32) (y0 : Int32) : Option (Int32) :=
  if x8 = x7 then
    (fL_isTree_J84 k12 cs ct cb cg y0 x5 x7 x8 x9 1 x6)
  else
    (fL_isTree_J84 k12 cs ct cb cg y0 x5 x7 x8 x9 0 x6)
def fL_isTree_S12 (k12 : (Int32 × Int32 × Int32) → Option (Int32)) (cs : St) (ct : St) (cb : St) (cg : St) (x5 : Int32) (x4 : Int32) (x6 : Int32) (x7 : Int32) : Option (Int32) :=
  if 6 ≤ x7 then
    (fL_isTree_J227 cs ct cb cg x4 x5 x6)
  else
    (if x4 = 0 then
      (fL_isTree_J227 cs ct cb cg x4 x5 x6)
    else
      (bn (fX5_holds ct cb x7 0) <| fun q28 =>
      bn (fX5_holds ct cb x7 1) <| fun q37 =>
      bd (fL_found cs ct cg x7) <| fun q48 =>
      if q48 = ((1000 * q28) + q37) then
        (fL_isTree_J68 k12 cs ct cb cg x5 x6 x7 q28 q37 1)
      else
        (fL_isTree_J68 k12 cs ct cb cg x5 x6 x7 q28 q37 0)))
def fL_isTree_L12 (cs : St) (ct : St) (cb : St) (cg : St) (x5 : Int32) (x4 : Int32) (x6 : Int32) (x7 : Int32) : Option (Int32) := loopN (fun k a => fL_isTree_S12 k cs ct cb cg x5 (a.1) (a.2.1) (a.2.2)) 8 (x4, x6, x7)
def fL_isTree (cs : St) (ct : St) (cb : St) (cg : St) : Option (Int32) :=
  fL_isTree_L12 cs ct cb cg 0 1 0 0
def fL_trunked (cl : St) (x1 : Int32) (x2 : Int32) (x3 : Int32) (x4 : Int32) : Option ((Int32 × St) ⊕ Nat) :=
  bx (fX5_trunk cl x1 x2 x3 x4) <| fun q6 =>
  some (.inl (0, q6))
def fL_plained (cl : St) (x1 : Int32) (x2 : Int32) (x3 : Int32) : Option ((Int32 × St) ⊕ Nat) :=
  bx (fX5_plain cl x1 x2 x3) <| fun q4 =>
  some (.inl (0, q4))
def fL_does (cs : St) (cw : St) (ct : St) (cl : St) (cb : St) (cp : St) (x1 : Int32) (x2 : Int32) (x3 : Int32) (x4 : Int32) (x5 : Int32) (x6 : Int32) : Option (Int32 × St × St × St × St × St × St) :=
  if x1 = 0 then
    (hxb (fX5_wire cw x2 x3 x4 x5 x6) (fun q13 =>
      some (q13.1, cs, (q13.2), ct, cl, cb, cp)) (fun kx => if kx = 1 then some ((-3000), cs, cw, ct, cl, cb, cp) else if kx = 2 then some ((-2000), cs, cw, ct, cl, cb, cp) else if kx = 3 then some ((-1000), cs, cw, ct, cl, cb, cp) else none))
  else
    (if x1 = 1 then
      (hxb (fX5_free cw ct cb x2 x3) (fun q27 =>
        some (q27.1, cs, (q27.2.1), (q27.2.2.1), cl, (q27.2.2.2), cp)) (fun kx => if kx = 1 then some ((-3000), cs, cw, ct, cl, cb, cp) else if kx = 2 then some ((-2000), cs, cw, ct, cl, cb, cp) else if kx = 3 then some ((-1000), cs, cw, ct, cl, cb, cp) else none))
    else
      (if x1 = 2 then
        (hxb (fX5_house cw ct x2 x3 x4) (fun q43 =>
          some (q43.1, cs, (q43.2.1), (q43.2.2), cl, cb, cp)) (fun kx => if kx = 1 then some ((-3000), cs, cw, ct, cl, cb, cp) else if kx = 2 then some ((-2000), cs, cw, ct, cl, cb, cp) else if kx = 3 then some ((-1000), cs, cw, ct, cl, cb, cp) else none))
      else
        (if x1 = 3 then
          (hxb (fX5_rank cw x2 x3) (fun q57 =>
            some (q57.1, cs, (q57.2), ct, cl, cb, cp)) (fun kx => if kx = 1 then some ((-3000), cs, cw, ct, cl, cb, cp) else if kx = 2 then some ((-2000), cs, cw, ct, cl, cb, cp) else if kx = 3 then some ((-1000), cs, cw, ct, cl, cb, cp) else none))
        else
          (if x1 = 4 then
            (hxb (fX5_shut cw ct cb x2 x3) (fun q71 =>
              if q71.1 = 0 then
                (some (0, cs, cw, (q71.2.1), cl, (q71.2.2), cp))
              else
                (some (1, cs, cw, (q71.2.1), cl, (q71.2.2), cp))) (fun kx => if kx = 1 then some ((-3000), cs, cw, ct, cl, cb, cp) else if kx = 2 then some ((-2000), cs, cw, ct, cl, cb, cp) else if kx = 3 then some ((-1000), cs, cw, ct, cl, cb, cp) else none))
          else
            (if x1 = 5 then
              (hxb (fX5_guard cw x2 x3 x4) (fun q95 =>
                some (q95.1, cs, (q95.2), ct, cl, cb, cp)) (fun kx => if kx = 1 then some ((-3000), cs, cw, ct, cl, cb, cp) else if kx = 2 then some ((-2000), cs, cw, ct, cl, cb, cp) else if kx = 3 then some ((-1000), cs, cw, ct, cl, cb, cp) else none))
            else
              (if x1 = 6 then
                (hxb (fL_plained cl x2 x3 x4) (fun q112 =>
                  some (q112.1, cs, cw, ct, (q112.2), cb, cp)) (fun kx => if kx = 1 then some ((-3000), cs, cw, ct, cl, cb, cp) else if kx = 2 then some ((-2000), cs, cw, ct, cl, cb, cp) else if kx = 3 then some ((-1000), cs, cw, ct, cl, cb, cp) else none))
              else
                (if x1 = 7 then
                  (hxb (fL_trunked cl x2 x3 x4 x5) (fun q131 =>
                    some (q131.1, cs, cw, ct, (q131.2), cb, cp)) (fun kx => if kx = 1 then some ((-3000), cs, cw, ct, cl, cb, cp) else if kx = 2 then some ((-2000), cs, cw, ct, cl, cb, cp) else if kx = 3 then some ((-1000), cs, cw, ct, cl, cb, cp) else none))
                else
                  (if x1 = 8 then
                    (hxb (fX5_limit cs x2) (fun q145 =>
                      some (q145.1, (q145.2), cw, ct, cl, cb, cp)) (fun kx => if kx = 1 then some ((-3000), cs, cw, ct, cl, cb, cp) else if kx = 2 then some ((-2000), cs, cw, ct, cl, cb, cp) else if kx = 3 then some ((-1000), cs, cw, ct, cl, cb, cp) else none))
                  else
                    (if x1 = 9 then
                      (hxb (fX5_beat cs cw ct cb x2) (fun q159 =>
                        some (q159.1, (q159.2.1), cw, (q159.2.2.1), cl, (q159.2.2.2), cp)) (fun kx => if kx = 1 then some ((-3000), cs, cw, ct, cl, cb, cp) else if kx = 2 then some ((-2000), cs, cw, ct, cl, cb, cp) else if kx = 3 then some ((-1000), cs, cw, ct, cl, cb, cp) else none))
                    else
                      (if x1 = 10 then
                        (hxb (fX5_send cs cw ct cl cb cp x2 x3 x4 x5) (fun q178 =>
                          some (q178.1, (q178.2.1), cw, (q178.2.2.1), cl, (q178.2.2.2.1), (q178.2.2.2.2))) (fun kx => if kx = 1 then some ((-3000), cs, cw, ct, cl, cb, cp) else if kx = 2 then some ((-2000), cs, cw, ct, cl, cb, cp) else if kx = 3 then some ((-1000), cs, cw, ct, cl, cb, cp) else none))
                      else
                        (if x1 = 11 then
                          (hxb (fX5_holds ct cb x2 x3) (fun q193 =>
                            some (q193, cs, cw, ct, cl, cb, cp)) (fun kx => if kx = 1 then some ((-3000), cs, cw, ct, cl, cb, cp) else if kx = 2 then some ((-2000), cs, cw, ct, cl, cb, cp) else if kx = 3 then some ((-1000), cs, cw, ct, cl, cb, cp) else none))
                        else
                          (if x1 = 12 then
                            (hxb (fX5_port cs ct x2 x3 x4) (fun q210 =>
                              some (q210, cs, cw, ct, cl, cb, cp)) (fun kx => if kx = 1 then some ((-3000), cs, cw, ct, cl, cb, cp) else if kx = 2 then some ((-2000), cs, cw, ct, cl, cb, cp) else if kx = 3 then some ((-1000), cs, cw, ct, cl, cb, cp) else none))
                          else
                            (if x1 = 13 then
                              (hxb (fX5_table cb x2 x3 x4) (fun q227 =>
                                some (q227, cs, cw, ct, cl, cb, cp)) (fun kx => if kx = 1 then some ((-3000), cs, cw, ct, cl, cb, cp) else if kx = 2 then some ((-2000), cs, cw, ct, cl, cb, cp) else if kx = 3 then some ((-1000), cs, cw, ct, cl, cb, cp) else none))
                            else
                              (if x1 = 14 then
                                (hxb (fX5_got cs x2 0) (fun q242 =>
                                  some (q242, cs, cw, ct, cl, cb, cp)) (fun kx => if kx = 1 then some ((-3000), cs, cw, ct, cl, cb, cp) else if kx = 2 then some ((-2000), cs, cw, ct, cl, cb, cp) else if kx = 3 then some ((-1000), cs, cw, ct, cl, cb, cp) else none))
                              else
                                (if x1 = 15 then
                                  (hxb (fX5_found cw ct x2) (fun q256 =>
                                    some (q256.1, cs, cw, (q256.2), cl, cb, cp)) (fun kx => if kx = 1 then some ((-3000), cs, cw, ct, cl, cb, cp) else if kx = 2 then some ((-2000), cs, cw, ct, cl, cb, cp) else if kx = 3 then some ((-1000), cs, cw, ct, cl, cb, cp) else none))
                                else
                                  (hxb (fX5_walk cw ct cl cb x2 x3) (fun q265 =>
                                    some (q265, cs, cw, ct, cl, cb, cp)) (fun kx => if kx = 1 then some ((-3000), cs, cw, ct, cl, cb, cp) else if kx = 2 then some ((-2000), cs, cw, ct, cl, cb, cp) else if kx = 3 then some ((-1000), cs, cw, ct, cl, cb, cp) else none)))))))))))))))))
def fL_isSent_J178 (cs : St) (cw : St) (ct : St) (cl : St) (cb : St) (cp : St) (cg : St) (x7 : Int32) (x10 : Int32) (y0 : Int32) (y1 : Int32) (y2 : Int32) : Option (Int32 × St × St × St × St × St × St × St) :=
  bd (fL_does cs cw ct cl cb cp y2 y1 y0 0 0 0) <| fun q181 =>
  if x10 < 0 then
    (some (0, (q181.2.1), (q181.2.2.1), (q181.2.2.2.1), (q181.2.2.2.2.1), (q181.2.2.2.2.2.1), (q181.2.2.2.2.2.2), cg))
  else
    (if 2000 ≤ x10 then
      (some (0, (q181.2.1), (q181.2.2.1), (q181.2.2.2.1), (q181.2.2.2.2.1), (q181.2.2.2.2.2.1), (q181.2.2.2.2.2.2), cg))
    else
      (if x7 = 10 then
        (some (1, (q181.2.1), (q181.2.2.1), (q181.2.2.2.1), (q181.2.2.2.2.1), (q181.2.2.2.2.2.1), (q181.2.2.2.2.2.2), cg))
      else
        (if q181.1 = (-1000) then
          (some (1, (q181.2.1), (q181.2.2.1), (q181.2.2.2.1), (q181.2.2.2.2.1), (q181.2.2.2.2.2.1), (q181.2.2.2.2.2.2), cg))
        else
          (if q181.1 = (-2000) then
            (some (1, (q181.2.1), (q181.2.2.1), (q181.2.2.2.1), (q181.2.2.2.2.1), (q181.2.2.2.2.2.1), (q181.2.2.2.2.2.2), cg))
          else
            (if q181.1 < (-1) then
              (some (0, (q181.2.1), (q181.2.2.1), (q181.2.2.2.1), (q181.2.2.2.2.1), (q181.2.2.2.2.2.1), (q181.2.2.2.2.2.2), cg))
            else
              (if 13 ≤ q181.1 then
                (some (0, (q181.2.1), (q181.2.2.1), (q181.2.2.2.1), (q181.2.2.2.2.1), (q181.2.2.2.2.2.1), (q181.2.2.2.2.2.2), cg))
              else
                (some (1, (q181.2.1), (q181.2.2.1), (q181.2.2.2.1), (q181.2.2.2.2.1), (q181.2.2.2.2.2.1), (q181.2.2.2.2.2.2), cg))))))))
def fL_isSent_J132 (cs : St) (cw : St) (ct : St) (cl : St) (cb : St) (cp : St) (cg : St) (x6 : Int32) (x7 : Int32) (x10 : Int32) (y0 : Int32) : Option (Int32 × St × St × St × St × St × St × St) :=
  if 0 ≤ y0 then
    (ck (inb 4 6) <|
    ck (inb 4 6) <|
    if x7 = 10 then
      (fL_isSent_J178 cs cw ct cl cb cp (aS cg 4 4 ((cg 4 (4 : Int32).toNatClampNeg) + x10)) x7 x10 0 x6 16)
    else
      (fL_isSent_J178 cs cw ct cl cb cp (aS cg 4 4 ((cg 4 (4 : Int32).toNatClampNeg) + x10)) x7 x10 x7 x6 16))
  else
    (if x10 = y0 then
      (some (1, cs, cw, ct, cl, cb, cp, cg))
    else
      (some (0, cs, cw, ct, cl, cb, cp, cg)))
def fL_isSent_J118 (cs : St) (cw : St) (ct : St) (cl : St) (cb : St) (cp : St) (cg : St) (x6 : Int32) (x7 : Int32) (x10 : Int32) : Option (Int32 × St × St × St × St × St × St × St) :=
  ck (inb x6 10) <|
  if 0 ≤ (cg 2 x6.toNatClampNeg) then
    (fL_isSent_J132 cs cw ct cl cb cp cg x6 x7 x10 0)
  else
    (fL_isSent_J132 cs cw ct cl cb cp cg x6 x7 x10 (-1000))
def fL_isSent_J57 (cs : St) (cw : St) (ct : St) (cl : St) (cb : St) (cp : St) (cg : St) (x6 : Int32) (x7 : Int32) (x8 : Int32) (y0 : Int32) : Option (Int32 × St × St × St × St × St × St × St) :=
  bd (fL_does cs cw ct cl cb cp 10 x6 x7 x8 y0 0) <| fun q71 =>
  if x7 = 11 then
    (fL_isSent_J132 (q71.2.1) (q71.2.2.1) (q71.2.2.2.1) (q71.2.2.2.2.1) (q71.2.2.2.2.2.1) (q71.2.2.2.2.2.2) cg x6 x7 q71.1 (-3000))
  else
    (if x6 = x7 then
      (fL_isSent_J132 (q71.2.1) (q71.2.2.1) (q71.2.2.2.1) (q71.2.2.2.2.1) (q71.2.2.2.2.2.1) (q71.2.2.2.2.2.2) cg x6 x7 q71.1 (-2000))
    else
      (if x8 = 4 then
        (fL_isSent_J132 (q71.2.1) (q71.2.2.1) (q71.2.2.2.1) (q71.2.2.2.2.1) (q71.2.2.2.2.2.1) (q71.2.2.2.2.2.2) cg x6 x7 q71.1 (-2000))
      else
        (if x8 = 0 then
          (if y0 ≤ 0 then
            (fL_isSent_J118 (q71.2.1) (q71.2.2.1) (q71.2.2.2.1) (q71.2.2.2.2.1) (q71.2.2.2.2.2.1) (q71.2.2.2.2.2.2) cg x6 x7 q71.1)
          else
            (fL_isSent_J132 (q71.2.1) (q71.2.2.1) (q71.2.2.2.1) (q71.2.2.2.2.1) (q71.2.2.2.2.2.1) (q71.2.2.2.2.2.2) cg x6 x7 q71.1 (-2000)))
        else
          (fL_isSent_J118 (q71.2.1) (q71.2.2.1) (q71.2.2.2.1) (q71.2.2.2.2.1) (q71.2.2.2.2.2.1) (q71.2.2.2.2.2.2) cg x6 x7 q71.1))))
def fL_isSent_J34 (cs : St) (cw : St) (ct : St) (cl : St) (cb : St) (cp : St) (cg : St) (x5 : Int32) (x6 : Int32) (x7 : Int32) (y0 : Int32) : Option (Int32 × St × St × St × St × St × St × St) :=
  if ((x5 / 25) - (x5 / 25) / 4 * 4) = 0 then
    (fL_isSent_J57 cs cw ct cl cb cp cg x6 x7 y0 ((x5 / 100) - (x5 / 100) / 4 * 4))
  else
    (fL_isSent_J57 cs cw ct cl cb cp cg x6 x7 y0 0)
def fL_isSent (cs : St) (cw : St) (ct : St) (cl : St) (cb : St) (cp : St) (cg : St) (x4 : Int32) (x5 : Int32) : Option (Int32 × St × St × St × St × St × St × St) :=
  if (x5 - x5 / 5 * 5) = 0 then
    (fL_isSent_J34 cs cw ct cl cb cp cg x5 (x4 - x4 / 10 * 10) ((x4 / 10) - (x4 / 10) / 12 * 12) ((x5 / 5) - (x5 / 5) / 5 * 5))
  else
    (fL_isSent_J34 cs cw ct cl cb cp cg x5 (x4 - x4 / 10 * 10) ((x4 / 10) - (x4 / 10) / 12 * 12) 0)
def fL_isPort_J726 (cs : St) (cw : St) (ct : St) (cl : St) (cb : St) (cp : St) (cg : St) (y0 : Int32) (y1 : Int32) : Option (Int32 × St × St × St × St × St × St × St) :=
  if y1 = y0 then
    (some (1, cs, cw, ct, cl, cb, cp, cg))
  else
    (some (0, cs, cw, ct, cl, cb, cp, cg))
def fL_isPort_J649 (cs : St) (cw : St) (ct : St) (cl : St) (cb : St) (cp : St) (cg : St) (y0 : Int32) (y1 : Int32) : Option (Int32 × St × St × St × St × St × St × St) :=
  if y1 = y0 then
    (some (1, cs, cw, ct, cl, cb, cp, cg))
  else
    (some (0, cs, cw, ct, cl, cb, cp, cg))
def fL_isPort_J549 (cs : St) (cw : St) (ct : St) (cl : St) (cb : St) (cp : St) (cg : St) (x9 : Int32) (x11 : Int32) (y0 : Int32) (y1 : Int32) : Option (Int32 × St × St × St × St × St × St × St) :=
  ck (inb y1 6) <|
  bd (fL_does cs cw ct cl cb cp 5 (x9 / 5) (x9 - x9 / 5 * 5) x11 0 0) <| fun q564 =>
  if x11 = 3 then
    (if q564.1 = (-2000) then
      (some (1, (q564.2.1), (q564.2.2.1), (q564.2.2.2.1), (q564.2.2.2.2.1), (q564.2.2.2.2.2.1), (q564.2.2.2.2.2.2), (aS cg 4 y1 y0)))
    else
      (some (0, (q564.2.1), (q564.2.2.1), (q564.2.2.2.1), (q564.2.2.2.2.1), (q564.2.2.2.2.2.1), (q564.2.2.2.2.2.2), (aS cg 4 y1 y0))))
  else
    (if q564.1 < 0 then
      (some (0, (q564.2.1), (q564.2.2.1), (q564.2.2.2.1), (q564.2.2.2.2.1), (q564.2.2.2.2.2.1), (q564.2.2.2.2.2.2), (aS cg 4 y1 y0)))
    else
      (if 3 ≤ q564.1 then
        (some (0, (q564.2.1), (q564.2.2.1), (q564.2.2.2.1), (q564.2.2.2.2.1), (q564.2.2.2.2.2.1), (q564.2.2.2.2.2.2), (aS cg 4 y1 y0)))
      else
        (some (1, (q564.2.1), (q564.2.2.1), (q564.2.2.2.1), (q564.2.2.2.2.1), (q564.2.2.2.2.2.1), (q564.2.2.2.2.2.2), (aS cg 4 y1 y0)))))
def fL_isPort_J545 (cs : St) (cw : St) (ct : St) (cl : St) (cb : St) (cp : St) (cg : St) (x9 : Int32) (x11 : Int32) (y0 : Int32) : Option (Int32 × St × St × St × St × St × St × St) :=
  ck (inb 3 6) <|
  fL_isPort_J549 cs cw ct cl cb cp cg x9 x11 (cg 4 (3 : Int32).toNatClampNeg) y0
def fL_isPort_J358 (cs : St) (cw : St) (ct : St) (cl : St) (cb : St) (cp : St) (cg : St) (x9 : Int32) (x12 : Int32) : Option (Int32 × St × St × St × St × St × St × St) :=
  ck (inb x9 30) <|
  bd (fL_does cs cw ct cl cb cp 1 (x9 / 5) (x9 - x9 / 5 * 5) 0 0 0) <| fun q376 =>
  if q376.1 = x12 then
    (some (1, (q376.2.1), (q376.2.2.1), (q376.2.2.2.1), (q376.2.2.2.2.1), (q376.2.2.2.2.2.1), (q376.2.2.2.2.2.2), (aS cg 0 x9 (-1))))
  else
    (some (0, (q376.2.1), (q376.2.2.1), (q376.2.2.2.1), (q376.2.2.2.2.1), (q376.2.2.2.2.2.1), (q376.2.2.2.2.2.2), (aS cg 0 x9 (-1))))
def fL_isPort_J312 (cs : St) (cw : St) (ct : St) (cl : St) (cb : St) (cp : St) (cg : St) (x9 : Int32) (x11 : Int32) (y0 : Int32) : Option (Int32 × St × St × St × St × St × St × St) :=
  if x11 < 100 then
    (if x11 < 0 then
      (fL_isPort_J358 cs cw ct cl cb cp cg x9 y0)
    else
      (ck (inb x11 30) <|
      ck (inb 0 6) <|
      ck (inb 0 6) <|
      fL_isPort_J358 cs cw ct cl cb cp (aS (aS cg 0 x11 (-1)) 4 0 ((cg 4 (0 : Int32).toNatClampNeg) - 1)) x9 y0))
  else
    (ck (inb (x11 - 100) 10) <|
    ck (inb 1 6) <|
    ck (inb 1 6) <|
    fL_isPort_J358 cs cw ct cl cb cp (aS (aS cg 2 (x11 - 100) (-1)) 4 1 ((cg 4 (1 : Int32).toNatClampNeg) - 1)) x9 y0)
def fL_isPort_J264 (cs : St) (cw : St) (ct : St) (cl : St) (cb : St) (cp : St) (cg : St) (y0 : Int32) (y1 : Int32) : Option (Int32 × St × St × St × St × St × St × St) :=
  if y1 = y0 then
    (some (1, cs, cw, ct, cl, cb, cp, cg))
  else
    (some (0, cs, cw, ct, cl, cb, cp, cg))
def fL_isPort_J232 (cs : St) (cw : St) (ct : St) (cl : St) (cb : St) (cp : St) (cg : St) (x9 : Int32) (x11 : Int32) (x12 : Int32) : Option (Int32 × St × St × St × St × St × St × St) :=
  bd (fL_does cs cw ct cl cb cp 2 (x9 / 5) (x9 - x9 / 5 * 5) x11 0 0) <| fun q246 =>
  if x12 = 0 then
    (fL_isPort_J264 (q246.2.1) (q246.2.2.1) (q246.2.2.2.1) (q246.2.2.2.2.1) (q246.2.2.2.2.2.1) (q246.2.2.2.2.2.2) cg (-1000) q246.1)
  else
    (ck (inb 1 6) <|
    fL_isPort_J264 (q246.2.1) (q246.2.2.1) (q246.2.2.2.1) (q246.2.2.2.2.1) (q246.2.2.2.2.2.1) (q246.2.2.2.2.2.2) cg (cg 4 (1 : Int32).toNatClampNeg) q246.1)
def fL_isPort_J202 (cs : St) (cw : St) (ct : St) (cl : St) (cb : St) (cp : St) (cg : St) (x9 : Int32) (x11 : Int32) (y0 : Int32) : Option (Int32 × St × St × St × St × St × St × St) :=
  if y0 = 0 then
    (fL_isPort_J232 cs cw ct cl cb cp cg x9 x11 y0)
  else
    (ck (inb x9 30) <|
    ck (inb x11 10) <|
    ck (inb 1 6) <|
    ck (inb 1 6) <|
    fL_isPort_J232 cs cw ct cl cb cp (aS (aS (aS cg 0 x9 (100 + x11)) 2 x11 x9) 4 1 ((cg 4 (1 : Int32).toNatClampNeg) + 1)) x9 x11 y0)
def fL_isPort_J201 (cs : St) (cw : St) (ct : St) (cl : St) (cb : St) (cp : St) (cg : St) (x9 : Int32) (x11 : Int32) : Option (Int32 × St × St × St × St × St × St × St) :=
  fL_isPort_J202 cs cw ct cl cb cp cg x9 x11 0
def fL_isPort_J161 (cs : St) (cw : St) (ct : St) (cl : St) (cb : St) (cp : St) (cg : St) (y0 : Int32) (y1 : Int32) : Option (Int32 × St × St × St × St × St × St × St) :=
  if y1 = y0 then
    (some (1, cs, cw, ct, cl, cb, cp, cg))
  else
    (some (0, cs, cw, ct, cl, cb, cp, cg))
def fL_isPort_J112 (cs : St) (cw : St) (ct : St) (cl : St) (cb : St) (cp : St) (cg : St) (x9 : Int32) (x10 : Int32) (x11 : Int32) (x12 : Int32) (x13 : Int32) : Option (Int32 × St × St × St × St × St × St × St) :=
  bd (fL_does cs cw ct cl cb cp 0 (x9 / 5) (x9 - x9 / 5 * 5) (x10 / 5) (x10 - x10 / 5 * 5) x11) <| fun q132 =>
  if x12 = 0 then
    (fL_isPort_J161 (q132.2.1) (q132.2.2.1) (q132.2.2.2.1) (q132.2.2.2.2.1) (q132.2.2.2.2.2.1) (q132.2.2.2.2.2.2) cg (-2000) q132.1)
  else
    (if x13 = 0 then
      (fL_isPort_J161 (q132.2.1) (q132.2.2.1) (q132.2.2.2.1) (q132.2.2.2.2.1) (q132.2.2.2.2.2.1) (q132.2.2.2.2.2.2) cg (-1000) q132.1)
    else
      (ck (inb 0 6) <|
      fL_isPort_J161 (q132.2.1) (q132.2.2.1) (q132.2.2.2.1) (q132.2.2.2.2.1) (q132.2.2.2.2.2.1) (q132.2.2.2.2.2.2) cg (cg 4 (0 : Int32).toNatClampNeg) q132.1))
def fL_isPort_J73 (cs : St) (cw : St) (ct : St) (cl : St) (cb : St) (cp : St) (cg : St) (x9 : Int32) (x10 : Int32) (x11 : Int32) (x12 : Int32) (y0 : Int32) : Option (Int32 × St × St × St × St × St × St × St) :=
  if y0 = 0 then
    (fL_isPort_J112 cs cw ct cl cb cp cg x9 x10 x11 x12 y0)
  else
    (ck (inb x9 30) <|
    ck (inb x10 30) <|
    ck (inb x9 30) <|
    ck (inb x10 30) <|
    ck (inb 0 6) <|
    ck (inb 0 6) <|
    fL_isPort_J112 cs cw ct cl cb cp (aS (aS (aS (aS (aS cg 0 x9 x10) 0 x10 x9) 1 x9 x11) 1 x10 x11) 4 0 ((cg 4 (0 : Int32).toNatClampNeg) + 1)) x9 x10 x11 x12 y0)
def fL_isPort_J72 (cs : St) (cw : St) (ct : St) (cl : St) (cb : St) (cp : St) (cg : St) (x9 : Int32) (x10 : Int32) (x11 : Int32) (x12 : Int32) : Option (Int32 × St × St × St × St × St × St × St) :=
  fL_isPort_J73 cs cw ct cl cb cp cg x9 x10 x11 x12 0
def fL_isPort_J47 (cs : St) (cw : St) (ct : St) (cl : St) (cb : St) (cp : St) (cg : St) (x9 : Int32) (x10 : Int32) (x11 : Int32) (y0 : Int32) : Option (Int32 × St × St × St × St × St × St × St) :=
  if y0 = 0 then
    (fL_isPort_J72 cs cw ct cl cb cp cg x9 x10 x11 y0)
  else
    (ck (inb x9 30) <|
    if 0 ≤ (cg 0 x9.toNatClampNeg) then
      (fL_isPort_J72 cs cw ct cl cb cp cg x9 x10 x11 y0)
    else
      (ck (inb x10 30) <|
      if 0 ≤ (cg 0 x10.toNatClampNeg) then
        (fL_isPort_J72 cs cw ct cl cb cp cg x9 x10 x11 y0)
      else
        (fL_isPort_J73 cs cw ct cl cb cp cg x9 x10 x11 y0 1)))
def fL_isPort (cs : St) (cw : St) (ct : St) (cl : St) (cb : St) (cp : St) (cg : St) (x6 : Int32) (x7 : Int32) (x8 : Int32) : Option (Int32 × St × St × St × St × St × St × St) :=
  if x6 = 0 then
    (if ((x7 - x7 / 30 * 30) / 5) = (((x7 / 30) - (x7 / 30) / 30 * 30) / 5) then
      (fL_isPort_J47 cs cw ct cl cb cp cg (x7 - x7 / 30 * 30) ((x7 / 30) - (x7 / 30) / 30 * 30) (1 + (x8 - x8 / 20 * 20)) 0)
    else
      (fL_isPort_J47 cs cw ct cl cb cp cg (x7 - x7 / 30 * 30) ((x7 / 30) - (x7 / 30) / 30 * 30) (1 + (x8 - x8 / 20 * 20)) 1))
  else
    (if x6 = 1 then
      (ck (inb (x7 - x7 / 30 * 30) 30) <|
      if 0 ≤ (cg 0 (x7 - x7 / 30 * 30).toNatClampNeg) then
        (fL_isPort_J201 cs cw ct cl cb cp cg (x7 - x7 / 30 * 30) (x8 - x8 / 10 * 10))
      else
        (ck (inb (x8 - x8 / 10 * 10) 10) <|
        if 0 ≤ (cg 2 (x8 - x8 / 10 * 10).toNatClampNeg) then
          (fL_isPort_J201 cs cw ct cl cb cp cg (x7 - x7 / 30 * 30) (x8 - x8 / 10 * 10))
        else
          (fL_isPort_J202 cs cw ct cl cb cp cg (x7 - x7 / 30 * 30) (x8 - x8 / 10 * 10) 1)))
    else
      (if x6 = 2 then
        (ck (inb (x7 - x7 / 30 * 30) 30) <|
        if 0 ≤ (cg 0 (x7 - x7 / 30 * 30).toNatClampNeg) then
          (if 100 ≤ (cg 0 (x7 - x7 / 30 * 30).toNatClampNeg) then
            (fL_isPort_J312 cs cw ct cl cb cp cg (x7 - x7 / 30 * 30) (cg 0 (x7 - x7 / 30 * 30).toNatClampNeg) ((cg 0 (x7 - x7 / 30 * 30).toNatClampNeg) - 100))
          else
            (fL_isPort_J312 cs cw ct cl cb cp cg (x7 - x7 / 30 * 30) (cg 0 (x7 - x7 / 30 * 30).toNatClampNeg) (-1)))
        else
          (fL_isPort_J312 cs cw ct cl cb cp cg (x7 - x7 / 30 * 30) (cg 0 (x7 - x7 / 30 * 30).toNatClampNeg) (-1000)))
      else
        (if x6 = 3 then
          (ck (inb ((x7 - x7 / 30 * 30) / 5) 6) <|
          ck (inb ((x7 - x7 / 30 * 30) / 5) 6) <|
          bd (fL_does cs cw ct cl cb cp 3 ((x7 - x7 / 30 * 30) / 5) (x8 - x8 / 16 * 16) 0 0 0) <| fun q431 =>
          if q431.1 = (cg 3 ((x7 - x7 / 30 * 30) / 5).toNatClampNeg) then
            (some (1, (q431.2.1), (q431.2.2.1), (q431.2.2.2.1), (q431.2.2.2.2.1), (q431.2.2.2.2.2.1), (q431.2.2.2.2.2.2), (aS cg 3 ((x7 - x7 / 30 * 30) / 5) (x8 - x8 / 16 * 16))))
          else
            (some (0, (q431.2.1), (q431.2.2.1), (q431.2.2.2.1), (q431.2.2.2.2.1), (q431.2.2.2.2.2.1), (q431.2.2.2.2.2.2), (aS cg 3 ((x7 - x7 / 30 * 30) / 5) (x8 - x8 / 16 * 16)))))
        else
          (if x6 = 4 then
            (bn (fX5_port cs ct ((x7 - x7 / 30 * 30) / 5) ((x7 - x7 / 30 * 30) - (x7 - x7 / 30 * 30) / 5 * 5) 2) <| fun q461 =>
            bd (fL_does cs cw ct cl cb cp 4 ((x7 - x7 / 30 * 30) / 5) ((x7 - x7 / 30 * 30) - (x7 - x7 / 30 * 30) / 5 * 5) 0 0 0) <| fun q479 =>
            if q479.1 = (1 - q461) then
              (bn (fX5_port (q479.2.1) (q479.2.2.2.1) ((x7 - x7 / 30 * 30) / 5) ((x7 - x7 / 30 * 30) - (x7 - x7 / 30 * 30) / 5 * 5) 2) <| fun q499 =>
              if q499 = (1 - q461) then
                (some (1, (q479.2.1), (q479.2.2.1), (q479.2.2.2.1), (q479.2.2.2.2.1), (q479.2.2.2.2.2.1), (q479.2.2.2.2.2.2), cg))
              else
                (some (0, (q479.2.1), (q479.2.2.1), (q479.2.2.2.1), (q479.2.2.2.2.1), (q479.2.2.2.2.2.1), (q479.2.2.2.2.2.2), cg)))
            else
              (some (0, (q479.2.1), (q479.2.2.1), (q479.2.2.2.1), (q479.2.2.2.2.1), (q479.2.2.2.2.2.1), (q479.2.2.2.2.2.2), cg)))
          else
            (if x6 = 5 then
              (if (x8 - x8 / 4 * 4) ≤ 0 then
                (fL_isPort_J545 cs cw ct cl cb cp cg (x7 - x7 / 30 * 30) (x8 - x8 / 4 * 4) 3)
              else
                (if 3 ≤ (x8 - x8 / 4 * 4) then
                  (fL_isPort_J545 cs cw ct cl cb cp cg (x7 - x7 / 30 * 30) (x8 - x8 / 4 * 4) 3)
                else
                  (fL_isPort_J549 cs cw ct cl cb cp cg (x7 - x7 / 30 * 30) (x8 - x8 / 4 * 4) 0 3)))
            else
              (if x6 = 6 then
                (bd (fL_does cs cw ct cl cb cp 6 ((x7 - x7 / 30 * 30) / 5) ((x7 - x7 / 30 * 30) - (x7 - x7 / 30 * 30) / 5 * 5) (x8 - x8 / 4 * 4) 0 0) <| fun q632 =>
                if (x8 - x8 / 4 * 4) = 0 then
                  (fL_isPort_J649 (q632.2.1) (q632.2.2.1) (q632.2.2.2.1) (q632.2.2.2.2.1) (q632.2.2.2.2.2.1) (q632.2.2.2.2.2.2) cg (-3000) q632.1)
                else
                  (fL_isPort_J649 (q632.2.1) (q632.2.2.1) (q632.2.2.2.1) (q632.2.2.2.2.1) (q632.2.2.2.2.2.1) (q632.2.2.2.2.2.2) cg 0 q632.1))
              else
                (bd (fL_does cs cw ct cl cb cp 7 ((x7 - x7 / 30 * 30) / 5) ((x7 - x7 / 30 * 30) - (x7 - x7 / 30 * 30) / 5 * 5) (x8 - x8 / 9 * 9) ((x8 / 9) - (x8 / 9) / 4 * 4) 0) <| fun q682 =>
                if ((x8 / 9) - (x8 / 9) / 4 * 4) = 0 then
                  (fL_isPort_J726 (q682.2.1) (q682.2.2.1) (q682.2.2.2.1) (q682.2.2.2.2.1) (q682.2.2.2.2.2.1) (q682.2.2.2.2.2.2) cg (-3000) q682.1)
                else
                  (if (x8 - x8 / 9 * 9) = 0 then
                    (fL_isPort_J726 (q682.2.1) (q682.2.2.1) (q682.2.2.2.1) (q682.2.2.2.2.1) (q682.2.2.2.2.2.1) (q682.2.2.2.2.2.2) cg (-2000) q682.1)
                  else
                    (if (x8 - x8 / 9 * 9) = 8 then
                      (fL_isPort_J726 (q682.2.1) (q682.2.2.1) (q682.2.2.2.1) (q682.2.2.2.2.1) (q682.2.2.2.2.2.1) (q682.2.2.2.2.2.2) cg (-2000) q682.1)
                    else
                      (fL_isPort_J726 (q682.2.1) (q682.2.2.1) (q682.2.2.2.1) (q682.2.2.2.2.1) (q682.2.2.2.2.2.1) (q682.2.2.2.2.2.2) cg 0 q682.1))))))))))
def fL_law_J572 (L : Nat) (xs : Nat → Int32) (k268 : (St × St × St × St × St × St × St × St × Int32 × Int32) → Option (Int32)) (cs : St) (cw : St) (ct : St) (cu : St) (cl : St) (cb : St) (cp : St) (cg : St) (x7 : Int32) (x8 : Int32) : Option (Int32) :=
  if x7 = 0 then
    (k268 (cs, cw, ct, cu, cl, cb, cp, cg, 0, x8 + 1))
  else
    (bd (fL_areAll cs cw ct cb cg) <| fun q586 =>
    if q586.1 = 0 then
      (k268 (cs, cw, (q586.2), cu, cl, cb, cp, cg, 0, x8 + 1))
    else
      (ck (inb 3 6) <|
      if (cg 4 (3 : Int32).toNatClampNeg) = 0 then
        (k268 (cs, cw, (q586.2), cu, cl, cb, cp, cg, 1, x8 + 1))
      else
        (bd (fX5_isAtRest cw (q586.2) cu) <| fun q600 =>
        if q600.1 = 0 then
          (k268 (cs, cw, (q586.2), (q600.2), cl, cb, cp, cg, 1, x8 + 1))
        else
          (bd (fL_isTree cs (q586.2) cb cg) <| fun q611 =>
          if q611 = 0 then
            (k268 (cs, cw, (q586.2), (q600.2), cl, cb, cp, cg, 0, x8 + 1))
          else
            (k268 (cs, cw, (q586.2), (q600.2), cl, cb, cp, cg, 1, x8 + 1))))))
def fL_law_J570 (L : Nat) (xs : Nat → Int32) (k268 : (St × St × St × St × St × St × St × St × Int32 × Int32) → Option (Int32)) (cs : St) (cw : St) (ct : St) (cu : St) (cl : St) (cb : St) (cp : St) (cg : St) (x8 : Int32) (y0 : Int32) : Option (Int32) :=
  fL_law_J572 L xs k268 cs cw ct cu cl cb cp cg y0 x8
def fL_law_J541 (L : Nat) (xs : Nat → Int32) (k268 : (St × St × St × St × St × St × St × St × Int32 × Int32) → Option (Int32)) (cs : St) (cw : St) (ct : St) (cu : St) (cl : St) (cb : St) (cp : St) (cg : St) (x8 : Int32) (y0 : Int32) : Option (Int32) :=
  ck (inb 2 6) <|
  ck (inb 2 6) <|
  bn (fX5_beat cs cw ct cb y0) <| fun q555 =>
  ck (inb 2 6) <|
  if q555.1 = ((aS cg 4 2 ((cg 4 (2 : Int32).toNatClampNeg) + y0)) 4 (2 : Int32).toNatClampNeg) then
    (fL_law_J570 L xs k268 (q555.2.1) cw (q555.2.2.1) cu cl (q555.2.2.2) cp (aS cg 4 2 ((cg 4 (2 : Int32).toNatClampNeg) + y0)) x8 1)
  else
    (fL_law_J570 L xs k268 (q555.2.1) cw (q555.2.2.1) cu cl (q555.2.2.2) cp (aS cg 4 2 ((cg 4 (2 : Int32).toNatClampNeg) + y0)) x8 0)
def fL_law_J487 (L : Nat) (xs : Nat → Int32) (k268 : (St × St × St × St × St × St × St × St × Int32 × Int32) → Option (Int32)) (cs : St) (cw : St) (ct : St) (cu : St) (cl : St) (cb : St) (cp : St) (cg : St) (x8 : Int32) (x12 : Int32) (y0 : Int32) : Option (Int32) :=
  ck (inb 5 6) <|
  fL_law_J572 L xs k268 cs cw ct cu cl cb cp (aS cg 4 5 x12) y0 x8
def fL_law_J441 (L : Nat) (xs : Nat → Int32) (k268 : (St × St × St × St × St × St × St × St × Int32 × Int32) → Option (Int32)) (cs : St) (cw : St) (ct : St) (cu : St) (cl : St) (cb : St) (cp : St) (cg : St) (x8 : Int32) (x10 : Int32) (x11 : Int32) (y0 : Int32) : Option (Int32) :=
  bd (fL_isPort cs cw ct cl cb cp cg y0 x10 x11) <| fun q445 =>
  fL_law_J572 L xs k268 (q445.2.1) (q445.2.2.1) (q445.2.2.2.1) cu (q445.2.2.2.2.1) (q445.2.2.2.2.2.1) (q445.2.2.2.2.2.2.1) (q445.2.2.2.2.2.2.2) q445.1 x8
def fL_law_J439 (L : Nat) (xs : Nat → Int32) (k268 : (St × St × St × St × St × St × St × St × Int32 × Int32) → Option (Int32)) (cs : St) (cw : St) (ct : St) (cu : St) (cl : St) (cb : St) (cp : St) (cg : St) (x8 : Int32) (x10 : Int32) (x11 : Int32) (x12 : Int32) : Option (Int32) :=
  fL_law_J441 L xs k268 cs cw ct cu cl cb cp cg x8 x10 x11 x12
def fL_law_J301 (L : Nat) (xs : Nat → Int32) (k268 : (St × St × St × St × St × St × St × St × Int32 × Int32) → Option (Int32)) (cs : St) (cw : St) (ct : St) (cu : St) (cl : St) (cb : St) (cp : St) (cg : St) (x8 : Int32) (y0 : Int32) : Option (Int32) :=
  bd (fL_part L xs ((3 * x8) + 1) 90000) <| fun q312 =>
  bd (fL_part L xs ((3 * x8) + 2) 60000) <| fun q326 =>
  if 5 ≤ y0 then
    (if 9 ≤ y0 then
      (if 16 ≤ y0 then
        (if y0 = 16 then
          (bn (fX5_limit cs (1 + (q312 - q312 / 100 * 100))) <| fun q472 =>
          ck (inb 5 6) <|
          if q472.1 = (cg 4 (5 : Int32).toNatClampNeg) then
            (fL_law_J487 L xs k268 (q472.2) cw ct cu cl cb cp cg x8 (1 + (q312 - q312 / 100 * 100)) 1)
          else
            (fL_law_J487 L xs k268 (q472.2) cw ct cu cl cb cp cg x8 (1 + (q312 - q312 / 100 * 100)) 0))
        else
          (if 23 ≤ y0 then
            (if (q312 - q312 / 4 * 4) = 0 then
              (fL_law_J541 L xs k268 cs cw ct cu cl cb cp cg x8 20)
            else
              (fL_law_J541 L xs k268 cs cw ct cu cl cb cp cg x8 (1 + (q312 - q312 / 5 * 5))))
          else
            (bd (fL_isSent cs cw ct cl cb cp cg q312 q326) <| fun q515 =>
            fL_law_J572 L xs k268 (q515.2.1) (q515.2.2.1) (q515.2.2.2.1) cu (q515.2.2.2.2.1) (q515.2.2.2.2.2.1) (q515.2.2.2.2.2.2.1) (q515.2.2.2.2.2.2.2) q515.1 x8)))
      else
        (if (y0 - 7) ≤ 7 then
          (if (y0 - 7) = 5 then
            (if (q326 - q326 / 3 * 3) ≤ 0 then
              (fL_law_J439 L xs k268 cs cw ct cu cl cb cp cg x8 q312 q326 (y0 - 7))
            else
              (fL_law_J441 L xs k268 cs cw ct cu cl cb cp cg x8 q312 q326 4))
          else
            (fL_law_J439 L xs k268 cs cw ct cu cl cb cp cg x8 q312 q326 (y0 - 7)))
        else
          (fL_law_J441 L xs k268 cs cw ct cu cl cb cp cg x8 q312 q326 3)))
    else
      (bd (fL_isPort cs cw ct cl cb cp cg 1 q312 q326) <| fun q380 =>
      fL_law_J572 L xs k268 (q380.2.1) (q380.2.2.1) (q380.2.2.2.1) cu (q380.2.2.2.2.1) (q380.2.2.2.2.2.1) (q380.2.2.2.2.2.2.1) (q380.2.2.2.2.2.2.2) q380.1 x8))
  else
    (bd (fL_isPort cs cw ct cl cb cp cg 0 q312 q326) <| fun q351 =>
    fL_law_J572 L xs k268 (q351.2.1) (q351.2.2.1) (q351.2.2.2.1) cu (q351.2.2.2.2.1) (q351.2.2.2.2.2.1) (q351.2.2.2.2.2.2.1) (q351.2.2.2.2.2.2.2) q351.1 x8)
def fL_law_S268 (L : Nat) (xs : Nat → Int32) (k268 : (St × St × St × St × St × St × St × St × Int32 × Int32) → Option (Int32)) (cs : St) (cw : St) (ct : St) (cu : St) (cl : St) (cb : St) (cp : St) (cg : St) (x7 : Int32) (x8 : Int32) : Option (Int32) :=
  if 64 ≤ x8 then
    (some x7)
  else
    (if x7 = 0 then
      (some x7)
    else
      (if 8 ≤ x8 then
        (bd (fL_part L xs (3 * x8) 30) <| fun q298 =>
        fL_law_J301 L xs k268 cs cw ct cu cl cb cp cg x8 q298)
      else
        (fL_law_J301 L xs k268 cs cw ct cu cl cb cp cg x8 0)))
def fL_law_L268 (L : Nat) (xs : Nat → Int32) (cs : St) (cw : St) (ct : St) (cu : St) (cl : St) (cb : St) (cp : St) (cg : St) (x7 : Int32) (x8 : Int32) : Option (Int32) := loopN (fun k a => fL_law_S268 L xs k (a.1) (a.2.1) (a.2.2.1) (a.2.2.2.1) (a.2.2.2.2.1) (a.2.2.2.2.2.1) (a.2.2.2.2.2.2.1) (a.2.2.2.2.2.2.2.1) (a.2.2.2.2.2.2.2.2.1) (a.2.2.2.2.2.2.2.2.2)) 66 (cs, cw, ct, cu, cl, cb, cp, cg, x7, x8)
def fL_law_J263 (L : Nat) (xs : Nat → Int32) (cs : St) (cw : St) (ct : St) (cu : St) (cl : St) (cb : St) (cp : St) (cg : St) (y0 : Int32) : Option (Int32) :=
  fL_law_L268 L xs cs cw ct cu cl cb cp cg y0 0
def fL_law_J262 (L : Nat) (xs : Nat → Int32) (cs : St) (cw : St) (ct : St) (cu : St) (cl : St) (cb : St) (cp : St) (cg : St) : Option (Int32) :=
  fL_law_J263 L xs cs cw ct cu cl cb cp cg 0
def fL_law_J102 (L : Nat) (xs : Nat → Int32) (cs : St) (cw : St) (ct : St) (cu : St) (cl : St) (cb : St) (cp : St) (cg : St) : Option (Int32) :=
  ck (inb 3 6) <|
  ck (inb 5 6) <|
  bd (fX5_isAtRest cw ct cu) <| fun q114 =>
  if q114.1 = 0 then
    (fL_law_J262 L xs cs cw ct (q114.2) cl cb cp (aS (aS cg 4 3 1) 4 5 20))
  else
    (bd (fL_does cs cw ct cl cb cp 11 6 0 0 0 0) <| fun q129 =>
    if q129.1 = (-3000) then
      (bd (fL_does (q129.2.1) (q129.2.2.1) (q129.2.2.2.1) (q129.2.2.2.2.1) (q129.2.2.2.2.2.1) (q129.2.2.2.2.2.2) 11 0 5 0 0 0) <| fun q146 =>
      if q146.1 = (-2000) then
        (bd (fL_does (q146.2.1) (q146.2.2.1) (q146.2.2.2.1) (q146.2.2.2.2.1) (q146.2.2.2.2.2.1) (q146.2.2.2.2.2.2) 12 0 5 0 0 0) <| fun q163 =>
        if q163.1 = (-3000) then
          (bd (fL_does (q163.2.1) (q163.2.2.1) (q163.2.2.2.1) (q163.2.2.2.2.1) (q163.2.2.2.2.2.1) (q163.2.2.2.2.2.2) 12 0 0 4 0 0) <| fun q180 =>
          if q180.1 = (-2000) then
            (bd (fL_does (q180.2.1) (q180.2.2.1) (q180.2.2.2.1) (q180.2.2.2.2.1) (q180.2.2.2.2.2.1) (q180.2.2.2.2.2.2) 13 0 4 0 0 0) <| fun q197 =>
            if q197.1 = (-3000) then
              (bd (fL_does (q197.2.1) (q197.2.2.1) (q197.2.2.2.1) (q197.2.2.2.2.1) (q197.2.2.2.2.2.1) (q197.2.2.2.2.2.2) 14 10 0 0 0 0) <| fun q215 =>
              if q215.1 = (-3000) then
                (bd (fL_does (q215.2.1) (q215.2.2.1) (q215.2.2.2.1) (q215.2.2.2.2.1) (q215.2.2.2.2.2.1) (q215.2.2.2.2.2.2) 8 0 0 0 0 0) <| fun q232 =>
                if q232.1 = (-2000) then
                  (bd (fL_does (q232.2.1) (q232.2.2.1) (q232.2.2.2.1) (q232.2.2.2.2.1) (q232.2.2.2.2.2.1) (q232.2.2.2.2.2.2) 9 0 0 0 0 0) <| fun q249 =>
                  if q249.1 = (-2000) then
                    (fL_law_J263 L xs (q249.2.1) (q249.2.2.1) (q249.2.2.2.1) (q114.2) (q249.2.2.2.2.1) (q249.2.2.2.2.2.1) (q249.2.2.2.2.2.2) (aS (aS cg 4 3 1) 4 5 20) 1)
                  else
                    (fL_law_J262 L xs (q249.2.1) (q249.2.2.1) (q249.2.2.2.1) (q114.2) (q249.2.2.2.2.1) (q249.2.2.2.2.2.1) (q249.2.2.2.2.2.2) (aS (aS cg 4 3 1) 4 5 20)))
                else
                  (fL_law_J262 L xs (q232.2.1) (q232.2.2.1) (q232.2.2.2.1) (q114.2) (q232.2.2.2.2.1) (q232.2.2.2.2.2.1) (q232.2.2.2.2.2.2) (aS (aS cg 4 3 1) 4 5 20)))
              else
                (fL_law_J262 L xs (q215.2.1) (q215.2.2.1) (q215.2.2.2.1) (q114.2) (q215.2.2.2.2.1) (q215.2.2.2.2.2.1) (q215.2.2.2.2.2.2) (aS (aS cg 4 3 1) 4 5 20)))
            else
              (fL_law_J262 L xs (q197.2.1) (q197.2.2.1) (q197.2.2.2.1) (q114.2) (q197.2.2.2.2.1) (q197.2.2.2.2.2.1) (q197.2.2.2.2.2.2) (aS (aS cg 4 3 1) 4 5 20)))
          else
            (fL_law_J262 L xs (q180.2.1) (q180.2.2.1) (q180.2.2.2.1) (q114.2) (q180.2.2.2.2.1) (q180.2.2.2.2.2.1) (q180.2.2.2.2.2.2) (aS (aS cg 4 3 1) 4 5 20)))
        else
          (fL_law_J262 L xs (q163.2.1) (q163.2.2.1) (q163.2.2.2.1) (q114.2) (q163.2.2.2.2.1) (q163.2.2.2.2.2.1) (q163.2.2.2.2.2.2) (aS (aS cg 4 3 1) 4 5 20)))
      else
        (fL_law_J262 L xs (q146.2.1) (q146.2.2.1) (q146.2.2.2.1) (q114.2) (q146.2.2.2.2.1) (q146.2.2.2.2.2.1) (q146.2.2.2.2.2.2) (aS (aS cg 4 3 1) 4 5 20)))
    else
      (fL_law_J262 L xs (q129.2.1) (q129.2.2.1) (q129.2.2.2.1) (q114.2) (q129.2.2.2.2.1) (q129.2.2.2.2.2.1) (q129.2.2.2.2.2.2) (aS (aS cg 4 3 1) 4 5 20)))
def fL_law_S82 (L : Nat) (xs : Nat → Int32) (k82 : (St × Int32) → Option (Int32)) (cs : St) (cw : St) (ct : St) (cu : St) (cl : St) (cb : St) (cp : St) (cg : St) (x7 : Int32) : Option (Int32) :=
  if 6 ≤ x7 then
    (fL_law_J102 L xs cs cw ct cu cl cb cp cg)
  else
    (ck (inb x7 6) <|
    k82 ((aS cg 3 x7 8), x7 + 1))
def fL_law_L82 (L : Nat) (xs : Nat → Int32) (cs : St) (cw : St) (ct : St) (cu : St) (cl : St) (cb : St) (cp : St) (cg : St) (x7 : Int32) : Option (Int32) := loopN (fun k a => fL_law_S82 L xs k cs cw ct cu cl cb cp (a.1) (a.2)) 1000 (cg, x7)
def fL_law_J79 (L : Nat) (xs : Nat → Int32) (cs : St) (cw : St) (ct : St) (cu : St) (cl : St) (cb : St) (cp : St) (cg : St) : Option (Int32) :=
  fL_law_L82 L xs cs cw ct cu cl cb cp cg 0
def fL_law_S60 (L : Nat) (xs : Nat → Int32) (k60 : (St × Int32) → Option (Int32)) (cs : St) (cw : St) (ct : St) (cu : St) (cl : St) (cb : St) (cp : St) (cg : St) (x7 : Int32) : Option (Int32) :=
  if 10 ≤ x7 then
    (fL_law_J79 L xs cs cw ct cu cl cb cp cg)
  else
    (ck (inb x7 10) <|
    k60 ((aS cg 2 x7 (-1)), x7 + 1))
def fL_law_L60 (L : Nat) (xs : Nat → Int32) (cs : St) (cw : St) (ct : St) (cu : St) (cl : St) (cb : St) (cp : St) (cg : St) (x7 : Int32) : Option (Int32) := loopN (fun k a => fL_law_S60 L xs k cs cw ct cu cl cb cp (a.1) (a.2)) 1000 (cg, x7)
def fL_law_J57 (L : Nat) (xs : Nat → Int32) (cs : St) (cw : St) (ct : St) (cu : St) (cl : St) (cb : St) (cp : St) (cg : St) : Option (Int32) :=
  fL_law_L60 L xs cs cw ct cu cl cb cp cg 0
def fL_law_S39 (L : Nat) (xs : Nat → Int32) (k39 : (St × Int32) → Option (Int32)) (cs : St) (cw : St) (ct : St) (cu : St) (cl : St) (cb : St) (cp : St) (cg : St) (x7 : Int32) : Option (Int32) :=
  if 30 ≤ x7 then
    (fL_law_J57 L xs cs cw ct cu cl cb cp cg)
  else
    (ck (inb x7 30) <|
    k39 ((aS cg 0 x7 (-1)), x7 + 1))
def fL_law_L39 (L : Nat) (xs : Nat → Int32) (cs : St) (cw : St) (ct : St) (cu : St) (cl : St) (cb : St) (cp : St) (cg : St) (x7 : Int32) : Option (Int32) := loopN (fun k a => fL_law_S39 L xs k cs cw ct cu cl cb cp (a.1) (a.2)) 1000 (cg, x7)
def fL_law (L : Nat) (xs : Nat → Int32) (cs : St) (cw : St) (ct : St) (cu : St) (cl : St) (cb : St) (cp : St) (cg : St) : Option (Int32) :=
  fL_law_L39 L xs cs cw ct cu cl cb cp cg 0
