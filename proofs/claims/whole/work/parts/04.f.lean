def fX5_needSwitch (x0 : Int32) : Option ((Unit) ⊕ Nat) :=
  if x0 < 0 then
    (some (.inr 1))
  else
    (if x0 < 6 then
      (some (.inl ()))
    else
      (some (.inr 1)))
def fX5_needPort (x0 : Int32) (x1 : Int32) : Option ((Unit) ⊕ Nat) :=
  bx (fX5_needSwitch x0) <| fun q1 =>
  if x1 < 0 then
    (some (.inr 1))
  else
    (if x1 < 5 then
      (some (.inl ()))
    else
      (some (.inr 1)))
def fX5_needWithin (x0 : Int32) (x1 : Int32) (x2 : Int32) : Option ((Unit) ⊕ Nat) :=
  if x0 < x1 then
    (some (.inr 2))
  else
    (if x0 ≤ x2 then
      (some (.inl ()))
    else
      (some (.inr 2)))
def fX5_spotOf (x0 : Int32) (x1 : Int32) : Option (Int32) :=
  some ((x0 * 5) + x1)
def fX4_isBare (cw : St) (x1 : Int32) : Option (Int32) :=
  ck (inb x1 30) <|
  if (cw 0 x1.toNatClampNeg) = (-1) then
    (ck (inb x1 30) <|
    if (cw 2 x1.toNatClampNeg) = (-1) then
      (some 1)
    else
      (some 0))
  else
    (some 0)
def fX4_putWire (cw : St) (x1 : Int32) (x2 : Int32) (x3 : Int32) : Option (St) :=
  ck (inb x1 30) <|
  ck (inb x2 30) <|
  ck (inb x1 30) <|
  ck (inb x2 30) <|
  some (iS (aS (aS (aS (aS cw 0 x1 x2) 0 x2 x1) 1 x1 x3) 1 x2 x3) 6 ((cw 6 0) + 1))
def fX5_wire (cw : St) (x1 : Int32) (x2 : Int32) (x3 : Int32) (x4 : Int32) (x5 : Int32) : Option ((Int32 × St) ⊕ Nat) :=
  bx (fX5_needPort x1 x2) <| fun q2 =>
  bx (fX5_needPort x3 x4) <| fun q8 =>
  if x1 = x3 then
    (some (.inr 2))
  else
    (bx (fX5_needWithin x5 1 100) <| fun q31 =>
    bd (fX5_spotOf x1 x2) <| fun q36 =>
    bd (fX5_spotOf x3 x4) <| fun q44 =>
    bd (fX4_isBare cw q36) <| fun q55 =>
    if q55 = 0 then
      (some (.inr 3))
    else
      (bd (fX4_isBare cw q44) <| fun q67 =>
      if q67 = 0 then
        (some (.inr 3))
      else
        (bd (fX4_putWire cw q36 q44 x5) <| fun q93 =>
        some (.inl (q93 6 0, q93)))))
def fX3_close (ct : St) (x1 : Int32) : Option (St) :=
  ck (inb x1 30) <|
  ck (inb x1 30) <|
  ck (inb x1 30) <|
  some (aS (aS (aS ct 6 x1 (vp_nar .boolean 0)) 7 x1 0) 8 x1 0)
def fX2_drop (cb : St) (x1 : Int32) : Option (St) :=
  ck (inb x1 180) <|
  ck (inb (x1 / 30) 6) <|
  ck (inb (x1 / 30) 6) <|
  some (aS (aS cb 0 x1 (-1)) 2 (x1 / 30) ((cb 2 (x1 / 30).toNatClampNeg) - 1))
def fX2_forgetPort_S9 (k9 : (St × Int32) → Option (St)) (x1 : Int32) (x2 : Int32) (cb : St) (x3 : Int32) : Option (St) :=
  if (x2 + 30) ≤ x3 then
    (some cb)
  else
    (ck (inb x3 180) <|
    if (cb 0 x3.toNatClampNeg) = (x1 - x1 / 5 * 5) then
      (bd (fX2_drop cb x3) <| fun q31 =>
      k9 (q31, x3 + 1))
    else
      (k9 (cb, x3 + 1)))
def fX2_forgetPort_L9 (x1 : Int32) (x2 : Int32) (cb : St) (x3 : Int32) : Option (St) := loopN (fun k a => fX2_forgetPort_S9 k x1 x2 (a.1) (a.2)) 1000 (cb, x3)
def fX2_forgetPort (cb : St) (x1 : Int32) : Option (St) :=
  fX2_forgetPort_L9 x1 ((x1 / 5) * 30) cb ((x1 / 5) * 30)
def fX5_dropUse (ct : St) (cb : St) (x1 : Int32) : Option (St × St) :=
  bd (fX3_close ct x1) <| fun q5 =>
  bd (fX2_forgetPort cb x1) <| fun q13 =>
  some (q5, q13)
def fX4_takeWire (cw : St) (x1 : Int32) (x2 : Int32) : Option (St) :=
  ck (inb x1 30) <|
  ck (inb x2 30) <|
  some (iS (aS (aS cw 0 x1 (-1)) 0 x2 (-1)) 6 ((cw 6 0) - 1))
def fX4_takeHouse (cw : St) (x1 : Int32) : Option (Int32 × St) :=
  ck (inb x1 30) <|
  ck (inb x1 30) <|
  if (cw 2 x1.toNatClampNeg) = (-1) then
    (some (cw 2 x1.toNatClampNeg, (aS cw 2 x1 (-1))))
  else
    (ck (inb (cw 2 x1.toNatClampNeg) 10) <|
    some (cw 2 x1.toNatClampNeg, (iS (aS (aS cw 2 x1 (-1)) 4 (cw 2 x1.toNatClampNeg) (-1)) 7 ((cw 7 0) - 1))))
def fX5_free (cw : St) (ct : St) (cb : St) (x1 : Int32) (x2 : Int32) : Option ((Int32 × St × St × St) ⊕ Nat) :=
  bx (fX5_needPort x1 x2) <| fun q2 =>
  bd (fX5_spotOf x1 x2) <| fun q7 =>
  bd (fX4_isBare cw q7) <| fun q16 =>
  if q16 = 0 then
    (ck (inb q7 30) <|
    if (cw 0 q7.toNatClampNeg) = (-1) then
      (bd (fX5_dropUse ct cb q7) <| fun q51 =>
      bd (fX4_takeHouse cw q7) <| fun q59 =>
      some (.inl (q59.1, (q59.2), (q51.1), (q51.2))))
    else
      (bd (fX5_dropUse ct cb q7) <| fun q65 =>
      bd (fX5_dropUse (q65.1) (q65.2) (cw 0 q7.toNatClampNeg)) <| fun q71 =>
      bd (fX4_takeWire cw q7 (cw 0 q7.toNatClampNeg)) <| fun q81 =>
      some (.inl ((-1), q81, (q71.1), (q71.2)))))
  else
    (some (.inr 3))
def fX5_needHouse (x0 : Int32) : Option ((Unit) ⊕ Nat) :=
  if x0 < 0 then
    (some (.inr 1))
  else
    (if x0 < 10 then
      (some (.inl ()))
    else
      (some (.inr 1)))
def fX4_putHouse (cw : St) (x1 : Int32) (x2 : Int32) : Option (St) :=
  ck (inb x1 30) <|
  ck (inb x2 10) <|
  some (iS (aS (aS cw 2 x1 x2) 4 x2 x1) 7 ((cw 7 0) + 1))
def fX3_isShut (ct : St) (x1 : Int32) : Option (Int32) :=
  ck (inb x1 30) <|
  if (ct 5 x1.toNatClampNeg) = 0 then
    (some 0)
  else
    (some 1)
def fX3_openForHouse_J31 (ct : St) (cw : St) (y0 : Int32) (y1 : Int32) : Option (St) :=
  ck (inb y1 30) <|
  some (aS ct 6 y1 (vp_nar .boolean y0))
def fX3_openForHouse_J30 (ct : St) (cw : St) (y0 : Int32) : Option (St) :=
  fX3_openForHouse_J31 ct cw 0 y0
def fX3_openForHouse (ct : St) (cw : St) (x1 : Int32) : Option (St) :=
  bd (fX3_isShut ct x1) <| fun q7 =>
  if q7 = 0 then
    (ck (inb x1 30) <|
    if (cw 2 x1.toNatClampNeg) = (-1) then
      (fX3_openForHouse_J30 ct cw x1)
    else
      (fX3_openForHouse_J31 ct cw 1 x1))
  else
    (fX3_openForHouse_J30 ct cw x1)
def fX5_house (cw : St) (ct : St) (x1 : Int32) (x2 : Int32) (x3 : Int32) : Option ((Int32 × St × St) ⊕ Nat) :=
  bx (fX5_needPort x1 x2) <| fun q2 =>
  bx (fX5_needHouse x3) <| fun q6 =>
  bd (fX5_spotOf x1 x2) <| fun q11 =>
  bd (fX4_isBare cw q11) <| fun q22 =>
  if q22 = 0 then
    (some (.inr 3))
  else
    (ck (inb x3 10) <|
    if (cw 4 x3.toNatClampNeg) = (-1) then
      (bd (fX4_putHouse cw q11 x3) <| fun q58 =>
      bd (fX3_openForHouse ct q58 q11) <| fun q67 =>
      some (.inl (q58 7 0, q58, q67)))
    else
      (some (.inr 3)))
def fX5_rank (cw : St) (x1 : Int32) (x2 : Int32) : Option ((Int32 × St) ⊕ Nat) :=
  bx (fX5_needSwitch x1) <| fun q1 =>
  bx (fX5_needWithin x2 0 15) <| fun q8 =>
  ck (inb x1 6) <|
  ck (inb x1 6) <|
  some (.inl (cw 5 x1.toNatClampNeg, (aS cw 5 x1 x2)))
def fX3_beginShut (ct : St) (x1 : Int32) (x2 : Int32) : Option (St) :=
  ck (inb x1 30) <|
  bd (fX3_close (aS ct 5 x1 x2) x1) <| fun q9 =>
  some q9
def fX5_shutUntil (ct : St) (cb : St) (x1 : Int32) (x2 : Int32) : Option (St × St) :=
  bd (fX3_beginShut ct x1 x2) <| fun q6 =>
  bd (fX2_forgetPort cb x1) <| fun q14 =>
  some (q6, q14)
def fX3_endShut (ct : St) (cw : St) (x1 : Int32) : Option (St) :=
  ck (inb x1 30) <|
  bd (fX3_openForHouse (aS ct 5 x1 0) cw x1) <| fun q9 =>
  some q9
def fX5_shut (cw : St) (ct : St) (cb : St) (x1 : Int32) (x2 : Int32) : Option ((Int32 × St × St) ⊕ Nat) :=
  bx (fX5_needPort x1 x2) <| fun q2 =>
  bd (fX5_spotOf x1 x2) <| fun q7 =>
  bd (fX3_isShut ct q7) <| fun q16 =>
  if q16 = 0 then
    (bd (fX5_shutUntil ct cb q7 (-1)) <| fun q35 =>
    some (.inl (1, (q35.1), (q35.2))))
  else
    (bd (fX3_endShut ct cw q7) <| fun q27 =>
    some (.inl (0, q27, cb)))
def fX5_guard (cw : St) (x1 : Int32) (x2 : Int32) (x3 : Int32) : Option ((Int32 × St) ⊕ Nat) :=
  bx (fX5_needPort x1 x2) <| fun q2 =>
  bx (fX5_needWithin x3 0 2) <| fun q8 =>
  bd (fX5_spotOf x1 x2) <| fun q13 =>
  ck (inb q13 30) <|
  ck (inb q13 30) <|
  some (.inl (cw 3 q13.toNatClampNeg, (aS cw 3 q13 x3)))
def fX5_needLane (x0 : Int32) : Option ((Unit) ⊕ Nat) :=
  if x0 < 1 then
    (some (.inr 1))
  else
    (if x0 ≤ 3 then
      (some (.inl ()))
    else
      (some (.inr 1)))
def fX0_bitOf (x0 : Int32) : Option (Int32) :=
  some (1 <<< ((x0 - 1) &&& 31))
def fX0_setUp (cl : St) (x1 : Int32) (x2 : Int32) (x3 : Int32) : Option (St) :=
  ck (inb x1 30) <|
  ck (inb x1 30) <|
  some (aS (aS cl 0 x1 x2) 1 x1 x3)
def fX5_plain (cl : St) (x1 : Int32) (x2 : Int32) (x3 : Int32) : Option ((St) ⊕ Nat) :=
  bx (fX5_needPort x1 x2) <| fun q2 =>
  bx (fX5_needLane x3) <| fun q6 =>
  bd (fX5_spotOf x1 x2) <| fun q15 =>
  bd (fX0_bitOf x3) <| fun q19 =>
  bd (fX0_setUp cl q15 q19 x3) <| fun q23 =>
  some (.inl q23)
def fX5_trunk (cl : St) (x1 : Int32) (x2 : Int32) (x3 : Int32) (x4 : Int32) : Option ((St) ⊕ Nat) :=
  bx (fX5_needPort x1 x2) <| fun q2 =>
  bx (fX5_needLane x4) <| fun q7 =>
  bx (fX5_needWithin x3 1 7) <| fun q14 =>
  bd (fX5_spotOf x1 x2) <| fun q23 =>
  bd (fX0_setUp cl q23 x3 x4) <| fun q29 =>
  some (.inl q29)
def fX5_limit (cs : St) (x1 : Int32) : Option ((Int32 × St) ⊕ Nat) :=
  bx (fX5_needWithin x1 1 100) <| fun q4 =>
  some (.inl (cs 9 0, (iS cs 9 x1)))
def fX3_isJoined (ct : St) (cw : St) (x1 : Int32) : Option (Int32) :=
  ck (inb x1 30) <|
  if (cw 0 x1.toNatClampNeg) = (-1) then
    (some 0)
  else
    (bd (fX3_isShut ct x1) <| fun q17 =>
    if q17 = 0 then
      (bd (fX3_isShut ct (cw 0 x1.toNatClampNeg)) <| fun q25 =>
      if q25 = 0 then
        (some 1)
      else
        (some 0))
    else
      (some 0))
def fX3_tell_S2 (k2 : (St × Int32) → Option (St)) (cw : St) (ct : St) (x1 : Int32) : Option (St) :=
  if 30 ≤ x1 then
    (some ct)
  else
    (ck (inb x1 30) <|
    bd (fX3_isJoined (aS ct 10 x1 (-1)) cw x1) <| fun q17 =>
    if q17 = 0 then
      (k2 ((aS ct 10 x1 (-1)), x1 + 1))
    else
      (ck (inb x1 30) <|
      ck (inb ((cw 0 x1.toNatClampNeg) / 5) 6) <|
      ck (inb x1 30) <|
      ck (inb ((cw 0 x1.toNatClampNeg) / 5) 6) <|
      ck (inb x1 30) <|
      ck (inb ((cw 0 x1.toNatClampNeg) / 5) 6) <|
      ck (inb x1 30) <|
      k2 ((aS (aS (aS (aS ct 10 x1 (-1)) 10 x1 (ct 1 ((cw 0 x1.toNatClampNeg) / 5).toNatClampNeg)) 11 x1 (ct 2 ((cw 0 x1.toNatClampNeg) / 5).toNatClampNeg)) 12 x1 (ct 3 ((cw 0 x1.toNatClampNeg) / 5).toNatClampNeg)), x1 + 1)))
def fX3_tell_L2 (cw : St) (ct : St) (x1 : Int32) : Option (St) := loopN (fun k a => fX3_tell_S2 k cw (a.1) (a.2)) 1000 (ct, x1)
def fX3_tell (ct : St) (cw : St) : Option (St) :=
  fX3_tell_L2 cw ct 0
def fX3_guardForHouses_J41 (k2 : (St × Int32) → Option (St)) (ct : St) (cw : St) (x1 : Int32) (y0 : Int32) (y1 : Int32) : Option (St) :=
  ck (inb y1 30) <|
  ck (inb x1 30) <|
  if ((aS ct 13 y1 (vp_nar .boolean y0)) 13 x1.toNatClampNeg) = 0 then
    (k2 ((aS ct 13 y1 (vp_nar .boolean y0)), x1 + 1))
  else
    (ck (inb x1 30) <|
    bd (fX3_beginShut (aS (aS ct 13 y1 (vp_nar .boolean y0)) 10 x1 (-1)) x1 (-1)) <| fun q61 =>
    k2 (q61, x1 + 1))
def fX3_guardForHouses_J40 (k2 : (St × Int32) → Option (St)) (ct : St) (cw : St) (x1 : Int32) (y0 : Int32) : Option (St) :=
  fX3_guardForHouses_J41 k2 ct cw x1 0 y0
def fX3_guardForHouses_S2 (k2 : (St × Int32) → Option (St)) (cw : St) (ct : St) (x1 : Int32) : Option (St) :=
  if 30 ≤ x1 then
    (some ct)
  else
    (ck (inb x1 30) <|
    if (cw 3 x1.toNatClampNeg) = 2 then
      (ck (inb x1 30) <|
      if (ct 10 x1.toNatClampNeg) = (-1) then
        (fX3_guardForHouses_J40 k2 ct cw x1 x1)
      else
        (fX3_guardForHouses_J41 k2 ct cw x1 1 x1))
    else
      (fX3_guardForHouses_J40 k2 ct cw x1 x1))
def fX3_guardForHouses_L2 (cw : St) (ct : St) (x1 : Int32) : Option (St) := loopN (fun k a => fX3_guardForHouses_S2 k cw (a.1) (a.2)) 1000 (ct, x1)
def fX3_guardForHouses (ct : St) (cw : St) : Option (St) :=
  fX3_guardForHouses_L2 cw ct 0
def fX3_spreadStale_S10 (k2 : (St × Int32) → Option (St)) (k10 : (St × Int32) → Option (St)) (cw : St) (x1 : Int32) (ct : St) (x2 : Int32) : Option (St) :=
  if 30 ≤ x2 then
    (k2 (ct, x1 + 1))
  else
    (ck (inb (x2 / 5) 6) <|
    if (ct 14 (x2 / 5).toNatClampNeg) = 0 then
      (k10 (ct, x2 + 1))
    else
      (bd (fX3_isJoined ct cw x2) <| fun q29 =>
      if q29 = 0 then
        (k10 (ct, x2 + 1))
      else
        (ck (inb x2 30) <|
        ck (inb ((cw 0 x2.toNatClampNeg) / 5) 6) <|
        k10 ((aS ct 14 ((cw 0 x2.toNatClampNeg) / 5) (vp_nar .boolean 1)), x2 + 1))))
def fX3_spreadStale_L10 (k2 : (St × Int32) → Option (St)) (cw : St) (x1 : Int32) (ct : St) (x2 : Int32) : Option (St) := loopN (fun k a => fX3_spreadStale_S10 k2 k cw x1 (a.1) (a.2)) 1000 (ct, x2)
def fX3_spreadStale_S2 (k2 : (St × Int32) → Option (St)) (cw : St) (ct : St) (x1 : Int32) : Option (St) :=
  if 6 ≤ x1 then
    (some ct)
  else
    (fX3_spreadStale_L10 k2 cw x1 ct 0)
def fX3_spreadStale_L2 (cw : St) (ct : St) (x1 : Int32) : Option (St) := loopN (fun k a => fX3_spreadStale_S2 k cw (a.1) (a.2)) 1000 (ct, x1)
def fX3_spreadStale (ct : St) (cw : St) : Option (St) :=
  fX3_spreadStale_L2 cw ct 0
def fX3_endStorms_S2 (k2 : (St × Int32) → Option (St)) (cw : St) (ct : St) (x1 : Int32) : Option (St) :=
  if 30 ≤ x1 then
    (some ct)
  else
    (ck (inb x1 30) <|
    if (ct 5 x1.toNatClampNeg) ≤ 0 then
      (k2 (ct, x1 + 1))
    else
      (ck (inb x1 30) <|
      if (ct 9 0) < (ct 5 x1.toNatClampNeg) then
        (k2 (ct, x1 + 1))
      else
        (bd (fX3_endShut ct cw x1) <| fun q32 =>
        k2 (q32, x1 + 1))))
def fX3_endStorms_L2 (cw : St) (ct : St) (x1 : Int32) : Option (St) := loopN (fun k a => fX3_endStorms_S2 k cw (a.1) (a.2)) 1000 (ct, x1)
def fX3_endStorms (ct : St) (cw : St) : Option (St) :=
  fX3_endStorms_L2 cw ct 0
def fX4_isBetterName (cw : St) (x1 : Int32) (x2 : Int32) : Option (Int32) :=
  ck (inb x1 6) <|
  ck (inb x2 6) <|
  if (cw 5 x1.toNatClampNeg) = (cw 5 x2.toNatClampNeg) then
    (if x2 ≤ x1 then
      (some 0)
    else
      (some 1))
  else
    (ck (inb x1 6) <|
    ck (inb x2 6) <|
    if (cw 5 x2.toNatClampNeg) ≤ (cw 5 x1.toNatClampNeg) then
      (some 0)
    else
      (some 1))
def fX3_isHeldBetter (ct : St) (cw : St) (x1 : Int32) : Option (Int32) :=
  ck (inb (x1 / 5) 6) <|
  ck (inb x1 30) <|
  if (ct 1 (x1 / 5).toNatClampNeg) = (ct 10 x1.toNatClampNeg) then
    (ck (inb (x1 / 5) 6) <|
    ck (inb x1 30) <|
    if (ct 2 (x1 / 5).toNatClampNeg) = (ct 11 x1.toNatClampNeg) then
      (ck (inb x1 30) <|
      bd (fX4_isBetterName cw (x1 / 5) ((cw 0 x1.toNatClampNeg) / 5)) <| fun q91 =>
      ck (isb q91) <|
      some q91)
    else
      (ck (inb (x1 / 5) 6) <|
      ck (inb x1 30) <|
      if (ct 11 x1.toNatClampNeg) ≤ (ct 2 (x1 / 5).toNatClampNeg) then
        (some 0)
      else
        (some 1)))
  else
    (ck (inb (x1 / 5) 6) <|
    ck (inb x1 30) <|
    bd (fX4_isBetterName cw (ct 1 (x1 / 5).toNatClampNeg) (ct 10 x1.toNatClampNeg)) <| fun q35 =>
    ck (isb q35) <|
    some q35)
def fX3_roleOf (ct : St) (cw : St) (x1 : Int32) : Option (Int32) :=
  ck (inb x1 30) <|
  if (cw 0 x1.toNatClampNeg) = (-1) then
    (some 0)
  else
    (bd (fX3_isShut ct x1) <| fun q15 =>
    if q15 = 0 then
      (ck (inb (x1 / 5) 6) <|
      if (ct 4 (x1 / 5).toNatClampNeg) = (x1 - x1 / 5 * 5) then
        (some 1)
      else
        (ck (inb x1 30) <|
        if (ct 10 x1.toNatClampNeg) = (-1) then
          (some 2)
        else
          (bd (fX3_isHeldBetter ct cw x1) <| fun q51 =>
          if q51 = 0 then
            (some 3)
          else
            (some 2))))
    else
      (some 0))
def fX3_turnTo (ct : St) (x1 : Int32) (x2 : Int32) : Option (St) :=
  ck (inb x1 30) <|
  if (ct 6 x1.toNatClampNeg) = x2 then
    (some ct)
  else
    (ck (inb x1 30) <|
    ck (inb (x1 / 5) 6) <|
    some (aS (aS ct 6 x1 (vp_nar .boolean x2)) 14 (x1 / 5) (vp_nar .boolean 1)))
def fX3_turn_J61 (ct : St) (cw : St) (x1 : Int32) : Option (St) :=
  ck (inb x1 30) <|
  if (ct 6 x1.toNatClampNeg) = 0 then
    (ck (inb x1 30) <|
    ck (inb x1 30) <|
    ck (inb x1 30) <|
    if ((aS ct 8 x1 ((ct 8 x1.toNatClampNeg) + 1)) 8 x1.toNatClampNeg) ≤ 2 then
      (some (aS ct 8 x1 ((ct 8 x1.toNatClampNeg) + 1)))
    else
      (ck (inb x1 30) <|
      bd (fX3_turnTo (aS (aS ct 8 x1 ((ct 8 x1.toNatClampNeg) + 1)) 8 x1 0) x1 1) <| fun q100 =>
      some q100))
  else
    (some ct)
def fX3_turn (ct : St) (cw : St) (x1 : Int32) : Option (St) :=
  bd (fX3_roleOf ct cw x1) <| fun q7 =>
  ck (inb x1 30) <|
  ck (inb x1 30) <|
  if (cw 0 x1.toNatClampNeg) = (-1) then
    (some (aS ct 7 x1 q7))
  else
    (ck (inb x1 30) <|
    if ((aS ct 7 x1 q7) 7 x1.toNatClampNeg) = 1 then
      (fX3_turn_J61 (aS ct 7 x1 q7) cw x1)
    else
      (ck (inb x1 30) <|
      if ((aS ct 7 x1 q7) 7 x1.toNatClampNeg) = 2 then
        (fX3_turn_J61 (aS ct 7 x1 q7) cw x1)
      else
        (ck (inb x1 30) <|
        bd (fX3_turnTo (aS (aS ct 7 x1 q7) 8 x1 0) x1 0) <| fun q55 =>
        some q55)))
def fX3_isBetterThanHeld_J72 (ct : St) (cw : St) (x1 : Int32) (x3 : Int32) : Option (Int32) :=
  ck (inb x1 6) <|
  if (ct 2 x1.toNatClampNeg) ≤ x3 then
    (some 0)
  else
    (some 1)
def fX3_isBetterThanHeld (ct : St) (cw : St) (x1 : Int32) (x2 : Int32) : Option (Int32) :=
  ck (inb x2 30) <|
  ck (inb x1 6) <|
  if (ct 10 x2.toNatClampNeg) = (ct 1 x1.toNatClampNeg) then
    (ck (inb x2 30) <|
    ck (inb x2 30) <|
    ck (inb x1 6) <|
    if ((ct 11 x2.toNatClampNeg) + (cw 1 x2.toNatClampNeg)) = (ct 2 x1.toNatClampNeg) then
      (ck (inb x1 6) <|
      if (ct 4 x1.toNatClampNeg) = (-1) then
        (fX3_isBetterThanHeld_J72 ct cw x1 ((ct 11 x2.toNatClampNeg) + (cw 1 x2.toNatClampNeg)))
      else
        (ck (inb x2 30) <|
        ck (inb x1 6) <|
        bd (fX5_spotOf x1 (ct 4 x1.toNatClampNeg)) <| fun q113 =>
        ck (inb q113 30) <|
        if ((cw 0 x2.toNatClampNeg) / 5) = ((cw 0 q113.toNatClampNeg) / 5) then
          (if (cw 0 q113.toNatClampNeg) ≤ (cw 0 x2.toNatClampNeg) then
            (some 0)
          else
            (some 1))
        else
          (bd (fX4_isBetterName cw ((cw 0 x2.toNatClampNeg) / 5) ((cw 0 q113.toNatClampNeg) / 5)) <| fun q142 =>
          ck (isb q142) <|
          some q142)))
    else
      (fX3_isBetterThanHeld_J72 ct cw x1 ((ct 11 x2.toNatClampNeg) + (cw 1 x2.toNatClampNeg))))
  else
    (ck (inb x2 30) <|
    ck (inb x1 6) <|
    bd (fX4_isBetterName cw (ct 10 x2.toNatClampNeg) (ct 1 x1.toNatClampNeg)) <| fun q31 =>
    ck (isb q31) <|
    some q31)
def fX3_offer (ct : St) (cw : St) (x1 : Int32) (x2 : Int32) : Option (St) :=
  ck (inb x2 30) <|
  if (ct 10 x2.toNatClampNeg) = (-1) then
    (some ct)
  else
    (ck (inb x2 30) <|
    if 7 ≤ (ct 12 x2.toNatClampNeg) then
      (some ct)
    else
      (bd (fX3_isBetterThanHeld ct cw x1 x2) <| fun q24 =>
      if q24 = 0 then
        (some ct)
      else
        (ck (inb x2 30) <|
        ck (inb x1 6) <|
        ck (inb x2 30) <|
        ck (inb x2 30) <|
        ck (inb x1 6) <|
        ck (inb x2 30) <|
        ck (inb x1 6) <|
        ck (inb x1 6) <|
        some (aS (aS (aS (aS ct 1 x1 (ct 10 x2.toNatClampNeg)) 2 x1 ((ct 11 x2.toNatClampNeg) + (cw 1 x2.toNatClampNeg))) 3 x1 ((ct 12 x2.toNatClampNeg) + 1)) 4 x1 (x2 - x2 / 5 * 5)))))
def fX3_takeBest_S78 (k78 : (St × Int32) → Option (St)) (cw : St) (x1 : Int32) (x2 : Int32) (x3 : Int32) (ct : St) (x4 : Int32) : Option (St) :=
  if (x2 + 5) ≤ x4 then
    (some ct)
  else
    (ck (inb x4 30) <|
    if (cw 3 x4.toNatClampNeg) = 1 then
      (ck (inb x4 30) <|
      if (ct 10 x4.toNatClampNeg) = (-1) then
        (k78 (ct, x4 + 1))
      else
        (ck (inb x4 30) <|
        bd (fX4_isBetterName cw (ct 10 x4.toNatClampNeg) x3) <| fun q123 =>
        if q123 = 0 then
          (bd (fX3_offer ct cw x1 x4) <| fun q133 =>
          k78 (q133, x4 + 1))
        else
          (k78 (ct, x4 + 1))))
    else
      (k78 (ct, x4 + 1)))
def fX3_takeBest_L78 (cw : St) (x1 : Int32) (x2 : Int32) (x3 : Int32) (ct : St) (x4 : Int32) : Option (St) := loopN (fun k a => fX3_takeBest_S78 k cw x1 x2 x3 (a.1) (a.2)) 1000 (ct, x4)
def fX3_takeBest_J68 (ct : St) (cw : St) (x1 : Int32) (x2 : Int32) : Option (St) :=
  ck (inb x1 6) <|
  fX3_takeBest_L78 cw x1 x2 (ct 1 x1.toNatClampNeg) ct x2
def fX3_takeBest_S36 (k36 : (St × Int32) → Option (St)) (cw : St) (x1 : Int32) (x2 : Int32) (ct : St) (x3 : Int32) : Option (St) :=
  if (x2 + 5) ≤ x3 then
    (fX3_takeBest_J68 ct cw x1 x2)
  else
    (ck (inb x3 30) <|
    if (cw 3 x3.toNatClampNeg) = 1 then
      (k36 (ct, x3 + 1))
    else
      (bd (fX3_offer ct cw x1 x3) <| fun q59 =>
      k36 (q59, x3 + 1)))
def fX3_takeBest_L36 (cw : St) (x1 : Int32) (x2 : Int32) (ct : St) (x3 : Int32) : Option (St) := loopN (fun k a => fX3_takeBest_S36 k cw x1 x2 (a.1) (a.2)) 1000 (ct, x3)
def fX3_takeBest (ct : St) (cw : St) (x1 : Int32) : Option (St) :=
  ck (inb x1 6) <|
  ck (inb x1 6) <|
  ck (inb x1 6) <|
  ck (inb x1 6) <|
  bd (fX5_spotOf x1 0) <| fun q30 =>
  fX3_takeBest_L36 cw x1 q30 (aS (aS (aS (aS ct 1 x1 x1) 2 x1 0) 3 x1 0) 4 x1 (-1)) q30
def fX3_pass_J63 (ct : St) (cw : St) : Option (St) :=
  bd (fX3_spreadStale ct cw) <| fun q64 =>
  bd (fX3_endStorms q64 cw) <| fun q68 =>
  some q68
def fX3_pass_S46 (k46 : (St × Int32) → Option (St)) (cw : St) (ct : St) (x1 : Int32) : Option (St) :=
  if 30 ≤ x1 then
    (fX3_pass_J63 ct cw)
  else
    (bd (fX3_turn ct cw x1) <| fun q54 =>
    k46 (q54, x1 + 1))
def fX3_pass_L46 (cw : St) (ct : St) (x1 : Int32) : Option (St) := loopN (fun k a => fX3_pass_S46 k cw (a.1) (a.2)) 1000 (ct, x1)
def fX3_pass_J44 (ct : St) (cw : St) : Option (St) :=
  fX3_pass_L46 cw ct 0
def fX3_pass_S20 (k20 : (St × Int32) → Option (St)) (cw : St) (ct : St) (x1 : Int32) : Option (St) :=
  if 6 ≤ x1 then
    (fX3_pass_J44 ct cw)
  else
    (ck (inb x1 6) <|
    bd (fX3_takeBest (aS ct 14 x1 (vp_nar .boolean 0)) cw x1) <| fun q35 =>
    k20 (q35, x1 + 1))
def fX3_pass_L20 (cw : St) (ct : St) (x1 : Int32) : Option (St) := loopN (fun k a => fX3_pass_S20 k cw (a.1) (a.2)) 1000 (ct, x1)
def fX3_pass (ct : St) (cw : St) : Option (St) :=
  bd (fX3_tell (iS ct 9 ((ct 9 0) + 1)) cw) <| fun q11 =>
  bd (fX3_guardForHouses q11 cw) <| fun q15 =>
  fX3_pass_L20 cw q15 0
def fX2_dropOld_S2 (k2 : (St × Int32) → Option (St)) (x1 : Int32) (cb : St) (x2 : Int32) : Option (St) :=
  if 180 ≤ x2 then
    (some cb)
  else
    (ck (inb x2 180) <|
    if (cb 0 x2.toNatClampNeg) = (-1) then
      (k2 (cb, x2 + 1))
    else
      (ck (inb x2 180) <|
      if (x1 - (cb 1 x2.toNatClampNeg)) < 10 then
        (k2 (cb, x2 + 1))
      else
        (bd (fX2_drop cb x2) <| fun q34 =>
        k2 (q34, x2 + 1))))
def fX2_dropOld_L2 (x1 : Int32) (cb : St) (x2 : Int32) : Option (St) := loopN (fun k a => fX2_dropOld_S2 k x1 (a.1) (a.2)) 1000 (cb, x2)
def fX2_dropOld (cb : St) (x1 : Int32) : Option (St) :=
  fX2_dropOld_L2 x1 cb 0
def fX2_empty_J28 (cb : St) (x1 : Int32) : Option (St) :=
  ck (inb x1 6) <|
  some (aS cb 2 x1 0)
def fX2_empty_S7 (k7 : (St × Int32) → Option (St)) (x1 : Int32) (x2 : Int32) (cb : St) (x3 : Int32) : Option (St) :=
  if (x2 + 30) ≤ x3 then
    (fX2_empty_J28 cb x1)
  else
    (ck (inb x3 180) <|
    k7 ((aS cb 0 x3 (-1)), x3 + 1))
def fX2_empty_L7 (x1 : Int32) (x2 : Int32) (cb : St) (x3 : Int32) : Option (St) := loopN (fun k a => fX2_empty_S7 k x1 x2 (a.1) (a.2)) 1000 (cb, x3)
def fX2_empty (cb : St) (x1 : Int32) : Option (St) :=
  fX2_empty_L7 x1 (x1 * 30) cb (x1 * 30)
def fX5_passBeat_J82 (cs : St) (cw : St) (ct : St) (cb : St) : Option (St × St × St) :=
  bd (fX2_dropOld cb (ct 9 0)) <| fun q93 =>
  some (cs, ct, q93)
def fX5_passBeat_S50 (k50 : (St × Int32) → Option (St × St × St)) (cs : St) (cw : St) (ct : St) (cb : St) (x1 : Int32) : Option (St × St × St) :=
  if 6 ≤ x1 then
    (fX5_passBeat_J82 cs cw ct cb)
  else
    (ck (inb x1 6) <|
    if (ct 14 x1.toNatClampNeg) = 0 then
      (k50 (cb, x1 + 1))
    else
      (bd (fX2_empty cb x1) <| fun q73 =>
      k50 (q73, x1 + 1)))
def fX5_passBeat_L50 (cs : St) (cw : St) (ct : St) (cb : St) (x1 : Int32) : Option (St × St × St) := loopN (fun k a => fX5_passBeat_S50 k cs cw ct (a.1) (a.2)) 1000 (cb, x1)
def fX5_passBeat_J48 (cs : St) (cw : St) (ct : St) (cb : St) : Option (St × St × St) :=
  fX5_passBeat_L50 cs cw ct cb 0
def fX5_passBeat_S9 (k9 : (St × St × Int32) → Option (St × St × St)) (cw : St) (ct : St) (cs : St) (cb : St) (x1 : Int32) : Option (St × St × St) :=
  if 30 ≤ x1 then
    (fX5_passBeat_J48 cs cw ct cb)
  else
    (ck (inb x1 30) <|
    ck (inb x1 30) <|
    if (ct 13 x1.toNatClampNeg) = 0 then
      (k9 ((aS cs 6 x1 0), cb, x1 + 1))
    else
      (bd (fX2_forgetPort cb x1) <| fun q39 =>
      k9 ((aS cs 6 x1 0), q39, x1 + 1)))
def fX5_passBeat_L9 (cw : St) (ct : St) (cs : St) (cb : St) (x1 : Int32) : Option (St × St × St) := loopN (fun k a => fX5_passBeat_S9 k cw ct (a.1) (a.2.1) (a.2.2)) 1000 (cs, cb, x1)
def fX5_passBeat (cs : St) (cw : St) (ct : St) (cb : St) : Option (St × St × St) :=
  bd (fX3_pass ct cw) <| fun q4 =>
  fX5_passBeat_L9 cw q4 cs cb 0
def fX5_beat_S9 (k9 : (St × St × St × Int32) → Option ((Int32 × St × St × St) ⊕ Nat)) (cw : St) (x1 : Int32) (cs : St) (ct : St) (cb : St) (x2 : Int32) : Option ((Int32 × St × St × St) ⊕ Nat) :=
  if x1 ≤ x2 then
    (some (.inl (ct 9 0, cs, ct, cb)))
  else
    (bd (fX5_passBeat cs cw ct cb) <| fun q15 =>
    k9 ((q15.1), (q15.2.1), (q15.2.2), x2 + 1))
def fX5_beat_L9 (cw : St) (x1 : Int32) (cs : St) (ct : St) (cb : St) (x2 : Int32) : Option ((Int32 × St × St × St) ⊕ Nat) := loopN (fun k a => fX5_beat_S9 k cw x1 (a.1) (a.2.1) (a.2.2.1) (a.2.2.2)) 1000 (cs, ct, cb, x2)
def fX5_beat (cs : St) (cw : St) (ct : St) (cb : St) (x1 : Int32) : Option ((Int32 × St × St × St) ⊕ Nat) :=
  bx (fX5_needWithin x1 1 30) <| fun q4 =>
  fX5_beat_L9 cw x1 cs ct cb 0
def fX1_restart (cp : St) : Option (St) :=
  some (iS cp 4 0)
def fX1_add (cp : St) (x1 : Int32) (x2 : Int32) (x3 : Int32) (x4 : Int32) : Option (St) :=
  if (cp 4 0) < 400 then
    (ck (inb (cp 4 0) 400) <|
    ck (inb (cp 4 0) 400) <|
    ck (inb (cp 4 0) 400) <|
    ck (inb (cp 4 0) 400) <|
    some (iS (aS (aS (aS (aS cp 0 (cp 4 0) x1) 1 (cp 4 0) x2) 2 (cp 4 0) x3) 3 (cp 4 0) x4) 4 ((cp 4 0) + 1)))
  else
    (some cp)
def fX0_carries (cl : St) (x1 : Int32) (x2 : Int32) : Option (Int32) :=
  ck (inb x1 30) <|
  bd (fX0_bitOf x2) <| fun q7 =>
  if ((cl 0 x1.toNatClampNeg) &&& q7) = 0 then
    (some 0)
  else
    (some 1)
def fX0_laneIn_J14 (cl : St) (x1 : Int32) (y0 : Int32) : Option (Int32) :=
  bd (fX0_carries cl x1 y0) <| fun q18 =>
  if q18 = 0 then
    (some 0)
  else
    (some y0)
def fX0_laneIn (cl : St) (x1 : Int32) (x2 : Int32) : Option (Int32) :=
  if x2 = 0 then
    (ck (inb x1 30) <|
    fX0_laneIn_J14 cl x1 (cl 1 x1.toNatClampNeg))
  else
    (fX0_laneIn_J14 cl x1 x2)
def fX5_laneLetIn (ct : St) (cl : St) (x1 : Int32) (x2 : Int32) : Option (Int32) :=
  ck (inb x1 30) <|
  if (ct 6 x1.toNatClampNeg) = 0 then
    (some 0)
  else
    (bd (fX0_laneIn cl x1 x2) <| fun q18 =>
    some q18)
def fX2_indexOf (x0 : Int32) (x1 : Int32) (x2 : Int32) : Option (Int32) :=
  some (((x0 * 30) + ((x1 - 1) * 10)) + x2)
def fX2_hear_J49 (cb : St) (x1 : Int32) (x4 : Int32) (x6 : Int32) : Option (St) :=
  ck (inb x6 180) <|
  ck (inb x6 180) <|
  some (aS (aS cb 0 x6 (x1 - x1 / 5 * 5)) 1 x6 x4)
def fX2_hear (cb : St) (x1 : Int32) (x2 : Int32) (x3 : Int32) (x4 : Int32) : Option (St) :=
  bd (fX2_indexOf (x1 / 5) x2 x3) <| fun q9 =>
  ck (inb q9 180) <|
  if (cb 0 q9.toNatClampNeg) = (-1) then
    (ck (inb (x1 / 5) 6) <|
    if (cb 2 (x1 / 5).toNatClampNeg) < 8 then
      (ck (inb (x1 / 5) 6) <|
      ck (inb (x1 / 5) 6) <|
      fX2_hear_J49 (aS cb 2 (x1 / 5) ((cb 2 (x1 / 5).toNatClampNeg) + 1)) x1 x4 q9)
    else
      (some cb))
  else
    (fX2_hear_J49 cb x1 x4 q9)
def fX2_portFor (cb : St) (x1 : Int32) (x2 : Int32) (x3 : Int32) : Option (Int32) :=
  bd (fX2_indexOf x1 x2 x3) <| fun q7 =>
  ck (inb q7 180) <|
  some (cb 0 q7.toNatClampNeg)
def fX0_tagOut (cl : St) (x1 : Int32) (x2 : Int32) : Option (Int32) :=
  ck (inb x1 30) <|
  if x2 = (cl 1 x1.toNatClampNeg) then
    (some 0)
  else
    (some x2)
def fX5_handOver_J18 (cs : St) (x1 : Int32) : Option (Int32 × St) :=
  ck (inb x1 10) <|
  ck (inb x1 10) <|
  some (1, (aS cs 7 x1 ((cs 7 x1.toNatClampNeg) + 1)))
def fX5_handOver (cs : St) (x1 : Int32) (x2 : Int32) : Option (Int32 × St) :=
  if x1 = (-1) then
    (some (0, cs))
  else
    (if x2 = 10 then
      (fX5_handOver_J18 cs x1)
    else
      (if x2 = x1 then
        (fX5_handOver_J18 cs x1)
      else
        (ck (inb x1 10) <|
        ck (inb x1 10) <|
        some (0, (aS cs 8 x1 ((cs 8 x1.toNatClampNeg) + 1))))))
def fX5_goOut (cs : St) (cw : St) (cl : St) (cp : St) (x1 : Int32) (x2 : Int32) (x3 : Int32) (x4 : Int32) : Option (Int32 × St × St) :=
  bd (fX0_carries cl x1 x3) <| fun q6 =>
  if q6 = 0 then
    (some (0, cs, cp))
  else
    (ck (inb x1 30) <|
    if (cw 0 x1.toNatClampNeg) = (-1) then
      (ck (inb x1 30) <|
      bd (fX5_handOver cs (cw 2 x1.toNatClampNeg) x4) <| fun q43 =>
      some (q43.1, (q43.2), cp))
    else
      (ck (inb x2 400) <|
      if ((cp 3 x2.toNatClampNeg) + 1) ≤ 12 then
        (ck (inb x2 400) <|
        bd (fX0_tagOut cl x1 x3) <| fun q86 =>
        if q86 = 0 then
          (bd (fX1_add cp (cw 0 x1.toNatClampNeg) (cp 2 x2.toNatClampNeg) 0 ((cp 3 x2.toNatClampNeg) + 1)) <| fun q107 =>
          some (0, cs, q107))
        else
          (bd (fX1_add cp (cw 0 x1.toNatClampNeg) q86 (cp 2 x2.toNatClampNeg) ((cp 3 x2.toNatClampNeg) + 1)) <| fun q125 =>
          some (0, cs, q125)))
      else
        (some (0, cs, cp))))
def fX5_flood_S69 (k69 : (St × St × Int32 × Int32) → Option (Int32 × St × St × St × St)) (cw : St) (ct : St) (cl : St) (cb : St) (x1 : Int32) (x2 : Int32) (x3 : Int32) (x4 : Int32) (x5 : Int32) (cs : St) (cp : St) (x6 : Int32) (x7 : Int32) : Option (Int32 × St × St × St × St) :=
  if (x5 + 5) ≤ x7 then
    (some (x6, cs, ct, cb, cp))
  else
    (if x7 = x4 then
      (k69 (cs, cp, x6, x7 + 1))
    else
      (ck (inb x7 30) <|
      if (ct 6 x7.toNatClampNeg) = 0 then
        (k69 (cs, cp, x6, x7 + 1))
      else
        (bd (fX5_goOut cs cw cl cp x7 x1 x2 x3) <| fun q106 =>
        k69 ((q106.2.1), (q106.2.2), x6 + q106.1, x7 + 1))))
def fX5_flood_L69 (cw : St) (ct : St) (cl : St) (cb : St) (x1 : Int32) (x2 : Int32) (x3 : Int32) (x4 : Int32) (x5 : Int32) (cs : St) (cp : St) (x6 : Int32) (x7 : Int32) : Option (Int32 × St × St × St × St) := loopN (fun k a => fX5_flood_S69 k cw ct cl cb x1 x2 x3 x4 x5 (a.1) (a.2.1) (a.2.2.1) (a.2.2.2)) 1000 (cs, cp, x6, x7)
def fX5_flood (cs : St) (cw : St) (ct : St) (cl : St) (cb : St) (cp : St) (x1 : Int32) (x2 : Int32) (x3 : Int32) : Option (Int32 × St × St × St × St) :=
  ck (inb x1 400) <|
  ck (inb (cp 0 x1.toNatClampNeg) 30) <|
  ck (inb (cp 0 x1.toNatClampNeg) 30) <|
  ck (inb (cp 0 x1.toNatClampNeg) 30) <|
  if ((aS cs 6 (cp 0 x1.toNatClampNeg) ((cs 6 (cp 0 x1.toNatClampNeg).toNatClampNeg) + 1)) 6 (cp 0 x1.toNatClampNeg).toNatClampNeg) ≤ (cs 9 0) then
    (fX5_flood_L69 cw ct cl cb x1 x2 x3 (cp 0 x1.toNatClampNeg) ((cp 0 x1.toNatClampNeg) - ((cp 0 x1.toNatClampNeg) - (cp 0 x1.toNatClampNeg) / 5 * 5)) (aS cs 6 (cp 0 x1.toNatClampNeg) ((cs 6 (cp 0 x1.toNatClampNeg).toNatClampNeg) + 1)) cp 0 ((cp 0 x1.toNatClampNeg) - ((cp 0 x1.toNatClampNeg) - (cp 0 x1.toNatClampNeg) / 5 * 5)))
  else
    (bd (fX5_shutUntil ct cb (cp 0 x1.toNatClampNeg) ((ct 9 0) + 5)) <| fun q48 =>
    some (0, (aS cs 6 (cp 0 x1.toNatClampNeg) ((cs 6 (cp 0 x1.toNatClampNeg).toNatClampNeg) + 1)), (q48.1), (q48.2), cp))
def fX5_takeStep_J108 (cs : St) (cw : St) (ct : St) (cl : St) (cb : St) (cp : St) (x1 : Int32) (x3 : Int32) (x5 : Int32) : Option (Int32 × St × St × St × St) :=
  bd (fX5_flood cs cw ct cl cb cp x1 x5 x3) <| fun q113 =>
  some (q113.1, (q113.2.1), (q113.2.2.1), (q113.2.2.2.1), (q113.2.2.2.2))
def fX5_takeStep_J82 (cs : St) (cw : St) (ct : St) (cl : St) (cb : St) (cp : St) (x1 : Int32) (x3 : Int32) (x4 : Int32) (x5 : Int32) (x6 : Int32) (y0 : Int32) : Option (Int32 × St × St × St × St) :=
  if y0 = (-1) then
    (fX5_takeStep_J108 cs cw ct cl cb cp x1 x3 x5)
  else
    (bd (fX5_spotOf x6 y0) <| fun q101 =>
    ck (inb q101 30) <|
    if (ct 6 q101.toNatClampNeg) = 0 then
      (fX5_takeStep_J108 cs cw ct cl cb cp x1 x3 x5)
    else
      (bd (fX5_spotOf x6 y0) <| fun q121 =>
      if q121 = x4 then
        (some (0, cs, ct, cb, cp))
      else
        (bd (fX5_goOut cs cw cl cp q121 x1 x5 x3) <| fun q144 =>
        some (q144.1, (q144.2.1), ct, cb, (q144.2.2)))))
def fX5_takeStep (cs : St) (cw : St) (ct : St) (cl : St) (cb : St) (cp : St) (x1 : Int32) (x2 : Int32) (x3 : Int32) : Option (Int32 × St × St × St × St) :=
  ck (inb x1 400) <|
  ck (inb x1 400) <|
  bd (fX5_laneLetIn ct cl (cp 0 x1.toNatClampNeg) (cp 1 x1.toNatClampNeg)) <| fun q23 =>
  if q23 = 0 then
    (some (0, cs, ct, cb, cp))
  else
    (bd (fX2_hear cb (cp 0 x1.toNatClampNeg) q23 x2 (ct 9 0)) <| fun q57 =>
    if x3 = 10 then
      (fX5_takeStep_J82 cs cw ct cl q57 cp x1 x3 (cp 0 x1.toNatClampNeg) q23 ((cp 0 x1.toNatClampNeg) / 5) (-1))
    else
      (bd (fX2_portFor q57 ((cp 0 x1.toNatClampNeg) / 5) q23 x3) <| fun q79 =>
      fX5_takeStep_J82 cs cw ct cl q57 cp x1 x3 (cp 0 x1.toNatClampNeg) q23 ((cp 0 x1.toNatClampNeg) / 5) q79))
def fX5_send_S104 (k104 : (St × St × St × St × Int32 × Int32) → Option ((Int32 × St × St × St × St) ⊕ Nat)) (cw : St) (cl : St) (x1 : Int32) (x2 : Int32) (cs : St) (ct : St) (cb : St) (cp : St) (x6 : Int32) (x7 : Int32) : Option ((Int32 × St × St × St × St) ⊕ Nat) :=
  if 400 ≤ x7 then
    (some (.inl (x6, cs, ct, cb, cp)))
  else
    (if (cp 4 0) ≤ x7 then
      (some (.inl (x6, cs, ct, cb, cp)))
    else
      (bd (fX5_takeStep cs cw ct cl cb cp x7 x1 x2) <| fun q131 =>
      k104 ((q131.2.1), (q131.2.2.1), (q131.2.2.2.1), (q131.2.2.2.2), x6 + q131.1, x7 + 1)))
def fX5_send_L104 (cw : St) (cl : St) (x1 : Int32) (x2 : Int32) (cs : St) (ct : St) (cb : St) (cp : St) (x6 : Int32) (x7 : Int32) : Option ((Int32 × St × St × St × St) ⊕ Nat) := loopN (fun k a => fX5_send_S104 k cw cl x1 x2 (a.1) (a.2.1) (a.2.2.1) (a.2.2.2.1) (a.2.2.2.2.1) (a.2.2.2.2.2)) 1000 (cs, ct, cb, cp, x6, x7)
def fX5_send_J51 (cs : St) (cw : St) (ct : St) (cl : St) (cb : St) (cp : St) (x1 : Int32) (x2 : Int32) (x3 : Int32) (x4 : Int32) : Option ((Int32 × St × St × St × St) ⊕ Nat) :=
  ck (inb x1 10) <|
  if (cw 4 x1.toNatClampNeg) = (-1) then
    (some (.inr 3))
  else
    (bd (fX1_restart cp) <| fun q82 =>
    bd (fX1_add q82 (cw 4 x1.toNatClampNeg) x3 x4 0) <| fun q95 =>
    fX5_send_L104 cw cl x1 x2 cs ct cb q95 0 0)
def fX5_send_J14 (cs : St) (cw : St) (ct : St) (cl : St) (cb : St) (cp : St) (x1 : Int32) (x2 : Int32) (x3 : Int32) (x4 : Int32) : Option ((Int32 × St × St × St × St) ⊕ Nat) :=
  bx (fX5_needWithin x3 0 3) <| fun q17 =>
  bx (fX5_needWithin x4 0 3) <| fun q24 =>
  if x1 = x2 then
    (some (.inr 2))
  else
    (if x3 = 0 then
      (if x4 = 0 then
        (fX5_send_J51 cs cw ct cl cb cp x1 x2 x3 x4)
      else
        (some (.inr 2)))
    else
      (fX5_send_J51 cs cw ct cl cb cp x1 x2 x3 x4))
def fX5_send (cs : St) (cw : St) (ct : St) (cl : St) (cb : St) (cp : St) (x1 : Int32) (x2 : Int32) (x3 : Int32) (x4 : Int32) : Option ((Int32 × St × St × St × St) ⊕ Nat) :=
  bx (fX5_needHouse x1) <| fun q1 =>
  if x2 = 10 then
    (fX5_send_J14 cs cw ct cl cb cp x1 x2 x3 x4)
  else
    (bx (fX5_needHouse x2) <| fun q11 =>
    fX5_send_J14 cs cw ct cl cb cp x1 x2 x3 x4)
def fX5_holds (ct : St) (cb : St) (x1 : Int32) (x2 : Int32) : Option ((Int32) ⊕ Nat) :=
  bx (fX5_needSwitch x1) <| fun q1 =>
  if x2 = 0 then
    (ck (inb x1 6) <|
    some (.inl (ct 1 x1.toNatClampNeg)))
  else
    if x2 = 1 then
      (ck (inb x1 6) <|
      some (.inl (ct 2 x1.toNatClampNeg)))
    else
      if x2 = 2 then
        (ck (inb x1 6) <|
        some (.inl (ct 3 x1.toNatClampNeg)))
      else
        if x2 = 3 then
          (ck (inb x1 6) <|
          some (.inl (ct 4 x1.toNatClampNeg)))
        else
          if x2 = 4 then
            (ck (inb x1 6) <|
            some (.inl (cb 2 x1.toNatClampNeg)))
          else
            (some (.inr 2))
def fX5_port (cs : St) (ct : St) (x1 : Int32) (x2 : Int32) (x3 : Int32) : Option ((Int32) ⊕ Nat) :=
  bx (fX5_needPort x1 x2) <| fun q2 =>
  bd (fX5_spotOf x1 x2) <| fun q7 =>
  if x3 = 0 then
    (ck (inb q7 30) <|
    if (ct 6 q7.toNatClampNeg) = 0 then
      (some (.inl 0))
    else
      (some (.inl 1)))
  else
    if x3 = 1 then
      (ck (inb q7 30) <|
      some (.inl (ct 7 q7.toNatClampNeg)))
    else
      if x3 = 2 then
        (bd (fX3_isShut ct q7) <| fun q80 =>
        if q80 = 0 then
          (some (.inl 0))
        else
          (some (.inl 1)))
      else
        if x3 = 3 then
          (ck (inb q7 30) <|
          some (.inl (cs 6 q7.toNatClampNeg)))
        else
          (some (.inr 2))
def fX5_table (cb : St) (x1 : Int32) (x2 : Int32) (x3 : Int32) : Option ((Int32) ⊕ Nat) :=
  bx (fX5_needSwitch x1) <| fun q1 =>
  bx (fX5_needLane x2) <| fun q5 =>
  bx (fX5_needHouse x3) <| fun q9 =>
  bd (fX2_portFor cb x1 x2 x3) <| fun q19 =>
  some (.inl q19)
def fX5_got (cs : St) (x1 : Int32) (x2 : Int32) : Option ((Int32) ⊕ Nat) :=
  bx (fX5_needHouse x1) <| fun q1 =>
  if x2 = 0 then
    (ck (inb x1 10) <|
    some (.inl (cs 7 x1.toNatClampNeg)))
  else
    (ck (inb x1 10) <|
    some (.inl (cs 8 x1.toNatClampNeg)))
def fX3_copyFrom_J124 (ct : St) (cu : St) : Option (St) :=
  some (iS ct 9 (cu 9 0))
def fX3_copyFrom_S64 (k64 : (St × Int32) → Option (St)) (cu : St) (ct : St) (x2 : Int32) : Option (St) :=
  if 30 ≤ x2 then
    (fX3_copyFrom_J124 ct cu)
  else
    (ck (inb x2 30) <|
    ck (inb x2 30) <|
    ck (inb x2 30) <|
    ck (inb x2 30) <|
    ck (inb x2 30) <|
    ck (inb x2 30) <|
    ck (inb x2 30) <|
    ck (inb x2 30) <|
    k64 ((aS (aS (aS (aS ct 5 x2 (cu 5 x2.toNatClampNeg)) 6 x2 (vp_nar .boolean (cu 6 x2.toNatClampNeg))) 7 x2 (cu 7 x2.toNatClampNeg)) 8 x2 (cu 8 x2.toNatClampNeg)), x2 + 1))
def fX3_copyFrom_L64 (cu : St) (ct : St) (x2 : Int32) : Option (St) := loopN (fun k a => fX3_copyFrom_S64 k cu (a.1) (a.2)) 1000 (ct, x2)
def fX3_copyFrom_J62 (ct : St) (cu : St) : Option (St) :=
  fX3_copyFrom_L64 cu ct 0
def fX3_copyFrom_S2 (k2 : (St × Int32) → Option (St)) (cu : St) (ct : St) (x2 : Int32) : Option (St) :=
  if 6 ≤ x2 then
    (fX3_copyFrom_J62 ct cu)
  else
    (ck (inb x2 6) <|
    ck (inb x2 6) <|
    ck (inb x2 6) <|
    ck (inb x2 6) <|
    ck (inb x2 6) <|
    ck (inb x2 6) <|
    ck (inb x2 6) <|
    ck (inb x2 6) <|
    k2 ((aS (aS (aS (aS ct 1 x2 (cu 1 x2.toNatClampNeg)) 2 x2 (cu 2 x2.toNatClampNeg)) 3 x2 (cu 3 x2.toNatClampNeg)) 4 x2 (cu 4 x2.toNatClampNeg)), x2 + 1))
def fX3_copyFrom_L2 (cu : St) (ct : St) (x2 : Int32) : Option (St) := loopN (fun k a => fX3_copyFrom_S2 k cu (a.1) (a.2)) 1000 (ct, x2)
def fX3_copyFrom (ct : St) (cu : St) : Option (St) :=
  fX3_copyFrom_L2 cu ct 0
def fX3_looksLike_S63 (k63 : Int32 → Option (Int32)) (ct : St) (cu : St) (x2 : Int32) : Option (Int32) :=
  if 30 ≤ x2 then
    (some 1)
  else
    (ck (inb x2 30) <|
    ck (inb x2 30) <|
    if (ct 6 x2.toNatClampNeg) = (cu 6 x2.toNatClampNeg) then
      (ck (inb x2 30) <|
      ck (inb x2 30) <|
      if (ct 7 x2.toNatClampNeg) = (cu 7 x2.toNatClampNeg) then
        (k63 (x2 + 1))
      else
        (some 0))
    else
      (some 0))
def fX3_looksLike_L63 (ct : St) (cu : St) (x2 : Int32) : Option (Int32) := loopN (fun k a => fX3_looksLike_S63 k ct cu a) 1000 x2
def fX3_looksLike_J61 (ct : St) (cu : St) : Option (Int32) :=
  fX3_looksLike_L63 ct cu 0
def fX3_looksLike_S2 (k2 : Int32 → Option (Int32)) (ct : St) (cu : St) (x2 : Int32) : Option (Int32) :=
  if 6 ≤ x2 then
    (fX3_looksLike_J61 ct cu)
  else
    (ck (inb x2 6) <|
    ck (inb x2 6) <|
    if (ct 1 x2.toNatClampNeg) = (cu 1 x2.toNatClampNeg) then
      (ck (inb x2 6) <|
      ck (inb x2 6) <|
      if (ct 2 x2.toNatClampNeg) = (cu 2 x2.toNatClampNeg) then
        (ck (inb x2 6) <|
        ck (inb x2 6) <|
        if (ct 3 x2.toNatClampNeg) = (cu 3 x2.toNatClampNeg) then
          (k2 (x2 + 1))
        else
          (some 0))
      else
        (some 0))
    else
      (some 0))
def fX3_looksLike_L2 (ct : St) (cu : St) (x2 : Int32) : Option (Int32) := loopN (fun k a => fX3_looksLike_S2 k ct cu a) 1000 x2
def fX3_looksLike (ct : St) (cu : St) : Option (Int32) :=
  fX3_looksLike_L2 ct cu 0
def fX3_hasWaitingPort_S2 (k2 : Int32 → Option (Int32)) (ct : St) (x1 : Int32) : Option (Int32) :=
  if 30 ≤ x1 then
    (some 0)
  else
    (ck (inb x1 30) <|
    if (ct 8 x1.toNatClampNeg) ≤ 0 then
      (k2 (x1 + 1))
    else
      (some 1))
def fX3_hasWaitingPort_L2 (ct : St) (x1 : Int32) : Option (Int32) := loopN (fun k a => fX3_hasWaitingPort_S2 k ct a) 1000 x1
def fX3_hasWaitingPort (ct : St) : Option (Int32) :=
  fX3_hasWaitingPort_L2 ct 0
def fX5_isAtRest (cw : St) (ct : St) (cu : St) : Option (Int32 × St) :=
  bd (fX3_copyFrom cu ct) <| fun q8 =>
  bd (fX3_pass q8 cw) <| fun q15 =>
  bd (fX3_looksLike q15 ct) <| fun q26 =>
  if q26 = 0 then
    (some (0, q15))
  else
    (bd (fX3_hasWaitingPort q15) <| fun q36 =>
    if q36 = 0 then
      (some (1, q15))
    else
      (some (0, q15)))
def fX3_shorten_J20 (ct : St) (x1 : Int32) (x2 : Int32) : Option (St) :=
  ck (inb x1 6) <|
  some (aS ct 15 x1 x2)
def fX3_shorten (ct : St) (x1 : Int32) (x2 : Int32) : Option (St) :=
  ck (inb x1 6) <|
  if (ct 15 x1.toNatClampNeg) = (-1) then
    (fX3_shorten_J20 ct x1 x2)
  else
    (ck (inb x1 6) <|
    if (ct 15 x1.toNatClampNeg) ≤ x2 then
      (some ct)
    else
      (fX3_shorten_J20 ct x1 x2))
def fX3_measureWays_S40 (k32 : (St × Int32) → Option (St)) (k40 : (St × Int32) → Option (St)) (cw : St) (x2 : Int32) (ct : St) (x3 : Int32) : Option (St) :=
  if 30 ≤ x3 then
    (k32 (ct, x2 + 1))
  else
    (ck (inb (x3 / 5) 6) <|
    if (ct 15 (x3 / 5).toNatClampNeg) = (-1) then
      (k40 (ct, x3 + 1))
    else
      (bd (fX3_isJoined ct cw x3) <| fun q60 =>
      if q60 = 0 then
        (k40 (ct, x3 + 1))
      else
        (ck (inb x3 30) <|
        ck (inb (x3 / 5) 6) <|
        ck (inb x3 30) <|
        bd (fX3_shorten ct ((cw 0 x3.toNatClampNeg) / 5) ((ct 15 (x3 / 5).toNatClampNeg) + (cw 1 x3.toNatClampNeg))) <| fun q96 =>
        k40 (q96, x3 + 1))))
def fX3_measureWays_L40 (k32 : (St × Int32) → Option (St)) (cw : St) (x2 : Int32) (ct : St) (x3 : Int32) : Option (St) := loopN (fun k a => fX3_measureWays_S40 k32 k cw x2 (a.1) (a.2)) 1000 (ct, x3)
def fX3_measureWays_S32 (k32 : (St × Int32) → Option (St)) (cw : St) (ct : St) (x2 : Int32) : Option (St) :=
  if 6 ≤ x2 then
    (some ct)
  else
    (fX3_measureWays_L40 k32 cw x2 ct 0)
def fX3_measureWays_L32 (cw : St) (ct : St) (x2 : Int32) : Option (St) := loopN (fun k a => fX3_measureWays_S32 k cw (a.1) (a.2)) 1000 (ct, x2)
def fX3_measureWays_J30 (ct : St) (cw : St) : Option (St) :=
  fX3_measureWays_L32 cw ct 0
def fX3_measureWays_J23 (k2 : (St × Int32) → Option (St)) (ct : St) (cw : St) (x1 : Int32) (x2 : Int32) (y0 : Int32) (y1 : Int32) : Option (St) :=
  ck (inb y1 6) <|
  k2 ((aS ct 15 y1 y0), x2 + 1)
def fX3_measureWays_S2 (k2 : (St × Int32) → Option (St)) (cw : St) (x1 : Int32) (ct : St) (x2 : Int32) : Option (St) :=
  if 6 ≤ x2 then
    (fX3_measureWays_J30 ct cw)
  else
    (if x2 = x1 then
      (fX3_measureWays_J23 k2 ct cw x1 x2 0 x2)
    else
      (fX3_measureWays_J23 k2 ct cw x1 x2 (-1) x2))
def fX3_measureWays_L2 (cw : St) (x1 : Int32) (ct : St) (x2 : Int32) : Option (St) := loopN (fun k a => fX3_measureWays_S2 k cw x1 (a.1) (a.2)) 1000 (ct, x2)
def fX3_measureWays (ct : St) (cw : St) (x1 : Int32) : Option (St) :=
  fX3_measureWays_L2 cw x1 ct 0
def fX5_found_J55 (cw : St) (ct : St) (x2 : Int32) : Option ((Int32 × St) ⊕ Nat) :=
  ck (inb x2 6) <|
  some (.inl ((1000 * x2) + (ct 15 x2.toNatClampNeg), ct))
def fX5_found_S16 (k16 : (Int32 × Int32) → Option ((Int32 × St) ⊕ Nat)) (cw : St) (ct : St) (x2 : Int32) (x3 : Int32) : Option ((Int32 × St) ⊕ Nat) :=
  if 6 ≤ x3 then
    (fX5_found_J55 cw ct x2)
  else
    (ck (inb x3 6) <|
    if (ct 15 x3.toNatClampNeg) = (-1) then
      (k16 (x2, x3 + 1))
    else
      (bd (fX4_isBetterName cw x3 x2) <| fun q41 =>
      if q41 = 0 then
        (k16 (x2, x3 + 1))
      else
        (k16 (x3, x3 + 1))))
def fX5_found_L16 (cw : St) (ct : St) (x2 : Int32) (x3 : Int32) : Option ((Int32 × St) ⊕ Nat) := loopN (fun k a => fX5_found_S16 k cw ct (a.1) (a.2)) 1000 (x2, x3)
def fX5_found (cw : St) (ct : St) (x1 : Int32) : Option ((Int32 × St) ⊕ Nat) :=
  bx (fX5_needSwitch x1) <| fun q1 =>
  bd (fX3_measureWays ct cw x1) <| fun q9 =>
  fX5_found_L16 cw q9 x1 0
def fX5_wayTold (ct : St) (cl : St) (cb : St) (x1 : Int32) (x2 : Int32) (x3 : Int32) : Option (Int32) :=
  bd (fX2_portFor cb x1 x2 x3) <| fun q7 =>
  if q7 = (-1) then
    (some (-1))
  else
    (bd (fX5_spotOf x1 q7) <| fun q23 =>
    ck (inb q23 30) <|
    if (ct 6 q23.toNatClampNeg) = 0 then
      (some (-1))
    else
      (bd (fX0_carries cl q23 x2) <| fun q48 =>
      if q48 = 0 then
        (some (-1))
      else
        (some q23)))
def fX5_walk_J134 (cw : St) (ct : St) (cl : St) (cb : St) (x2 : Int32) (x5 : Int32) (x7 : Int32) : Option ((Int32) ⊕ Nat) :=
  ck (inb x7 30) <|
  if (cw 2 x7.toNatClampNeg) = x2 then
    (some (.inl x5))
  else
    (some (.inl (-1)))
def fX5_walk_J110 (k75 : (Int32 × Int32 × Int32) → Option ((Int32) ⊕ Nat)) (cw : St) (ct : St) (cl : St) (cb : St) (x2 : Int32) (x5 : Int32) (x6 : Int32) (y0 : Int32) : Option ((Int32) ⊕ Nat) :=
  if y0 = (-1) then
    (some (.inl (-1)))
  else
    (ck (inb y0 30) <|
    if (cw 0 y0.toNatClampNeg) = (-1) then
      (fX5_walk_J134 cw ct cl cb x2 x5 y0)
    else
      (bd (fX0_tagOut cl y0 x6) <| fun q163 =>
      ck (inb y0 30) <|
      k75 (cw 0 y0.toNatClampNeg, q163, x5 + 1)))
def fX5_walk_S75 (k75 : (Int32 × Int32 × Int32) → Option ((Int32) ⊕ Nat)) (cw : St) (ct : St) (cl : St) (cb : St) (x2 : Int32) (x3 : Int32) (x4 : Int32) (x5 : Int32) : Option ((Int32) ⊕ Nat) :=
  if 12 < x5 then
    (some (.inl (-1)))
  else
    (bd (fX5_laneLetIn ct cl x3 x4) <| fun q86 =>
    if q86 = 0 then
      (fX5_walk_J110 k75 cw ct cl cb x2 x5 q86 (-1))
    else
      (bd (fX5_wayTold ct cl cb (x3 / 5) q86 x2) <| fun q107 =>
      fX5_walk_J110 k75 cw ct cl cb x2 x5 q86 q107))
def fX5_walk_L75 (cw : St) (ct : St) (cl : St) (cb : St) (x2 : Int32) (x3 : Int32) (x4 : Int32) (x5 : Int32) : Option ((Int32) ⊕ Nat) := loopN (fun k a => fX5_walk_S75 k cw ct cl cb x2 (a.1) (a.2.1) (a.2.2)) 1000 (x3, x4, x5)
def fX5_walk (cw : St) (ct : St) (cl : St) (cb : St) (x1 : Int32) (x2 : Int32) : Option ((Int32) ⊕ Nat) :=
  bx (fX5_needHouse x1) <| fun q1 =>
  bx (fX5_needHouse x2) <| fun q5 =>
  if x1 = x2 then
    (some (.inr 2))
  else
    (ck (inb x1 10) <|
    if (cw 4 x1.toNatClampNeg) = (-1) then
      (some (.inr 3))
    else
      (ck (inb x2 10) <|
      if (cw 4 x2.toNatClampNeg) = (-1) then
        (some (.inr 3))
      else
        (ck (inb x1 10) <|
        fX5_walk_L75 cw ct cl cb x2 (cw 4 x1.toNatClampNeg) 0 1)))
def fX6_thrown (mm : St) : Option (Int32) :=
  some (mm 40 0)
def fX6_fails (mm : St) (x1 : Int32) : Option (Int32 × St) :=
  if x1 ≤ 0 then
    (some (0, (iS mm 40 x1)))
  else
    (some (1, (iS mm 40 x1)))
def fX6_isIn (x0 : Int32) (x1 : Int32) (x2 : Int32) : Option (Int32) :=
  if x0 < x1 then
    (some 0)
  else
    (if x2 < x0 then
      (some 0)
    else
      (some 1))
def fX6_isSwitch (x0 : Int32) : Option (Int32) :=
  bd (fX6_isIn x0 0 5) <| fun q3 =>
  ck (isb q3) <|
  some q3
def fX6_isPort (x0 : Int32) (x1 : Int32) : Option (Int32) :=
  bd (fX6_isSwitch x0) <| fun q1 =>
  if q1 = 0 then
    (some 0)
  else
    (bd (fX6_isIn x1 0 4) <| fun q10 =>
    if q10 = 0 then
      (some 0)
    else
      (some 1))
def fX6_isHouse (x0 : Int32) : Option (Int32) :=
  bd (fX6_isIn x0 0 9) <| fun q4 =>
  ck (isb q4) <|
  some q4
def fX6_isLane (x0 : Int32) : Option (Int32) :=
  bd (fX6_isIn x0 1 3) <| fun q3 =>
  ck (isb q3) <|
  some q3
def fX6_isBetter (mm : St) (x1 : Int32) (x2 : Int32) : Option (Int32) :=
  ck (inb x1 6) <|
  ck (inb x2 6) <|
  if (mm 2 x1.toNatClampNeg) < (mm 2 x2.toNatClampNeg) then
    (some 1)
  else
    (ck (inb x1 6) <|
    ck (inb x2 6) <|
    if (mm 2 x1.toNatClampNeg) = (mm 2 x2.toNatClampNeg) then
      (if x2 ≤ x1 then
        (some 0)
      else
        (some 1))
    else
      (some 0))
def fX6_isUsed (mm : St) (x1 : Int32) : Option (Int32) :=
  ck (inb x1 30) <|
  if (mm 3 x1.toNatClampNeg) = (-1) then
    (ck (inb x1 30) <|
    if (mm 5 x1.toNatClampNeg) = (-1) then
      (some 0)
    else
      (some 1))
  else
    (some 1)
def fX6_begins (mm : St) (x1 : Int32) : Option (St) :=
  ck (inb x1 30) <|
  ck (inb x1 30) <|
  ck (inb x1 30) <|
  some (aS (aS (aS mm 12 x1 (vp_nar .boolean 0)) 13 x1 0) 14 x1 0)
def fX6_wire_S166 (k166 : (Int32 × Int32) → Option (Int32 × St)) (mm : St) (x10 : Int32) (x11 : Int32) : Option (Int32 × St) :=
  if 30 ≤ x11 then
    (some (x10 / 2, mm))
  else
    (ck (inb x11 30) <|
    if (mm 3 x11.toNatClampNeg) = (-1) then
      (k166 (x10 + 0, x11 + 1))
    else
      (k166 (x10 + 1, x11 + 1)))
def fX6_wire_L166 (mm : St) (x10 : Int32) (x11 : Int32) : Option (Int32 × St) := loopN (fun k a => fX6_wire_S166 k mm (a.1) (a.2)) 1000 (x10, x11)
def fX6_wire_J104 (mm : St) (x5 : Int32) (x8 : Int32) (x9 : Int32) (y0 : Int32) : Option (Int32 × St) :=
  bd (fX6_fails mm y0) <| fun q104 =>
  if q104.1 = 0 then
    (ck (inb x8 30) <|
    ck (inb x9 30) <|
    ck (inb x8 30) <|
    ck (inb x9 30) <|
    bd (fX6_begins (aS (aS (aS (aS (q104.2) 3 x8 x9) 3 x9 x8) 4 x8 x5) 4 x9 x5) x8) <| fun q151 =>
    bd (fX6_begins q151 x9) <| fun q157 =>
    fX6_wire_L166 q157 0 0)
  else
    (some (0, (q104.2)))
def fX6_wire_J45 (mm : St) (x1 : Int32) (x2 : Int32) (x3 : Int32) (x4 : Int32) (x5 : Int32) (x6 : Int32) (y0 : Int32) : Option (Int32 × St) :=
  if x6 = 0 then
    (fX6_wire_J104 mm x5 ((5 * x1) + x2) ((5 * x3) + x4) 1)
  else
    (if y0 = 0 then
      (fX6_wire_J104 mm x5 ((5 * x1) + x2) ((5 * x3) + x4) 2)
    else
      (bd (fX6_isUsed mm ((5 * x1) + x2)) <| fun q84 =>
      if q84 = 0 then
        (bd (fX6_isUsed mm ((5 * x3) + x4)) <| fun q93 =>
        if q93 = 0 then
          (fX6_wire_J104 mm x5 ((5 * x1) + x2) ((5 * x3) + x4) 0)
        else
          (fX6_wire_J104 mm x5 ((5 * x1) + x2) ((5 * x3) + x4) 3))
      else
        (fX6_wire_J104 mm x5 ((5 * x1) + x2) ((5 * x3) + x4) 3)))
def fX6_wire_J44 (mm : St) (x1 : Int32) (x2 : Int32) (x3 : Int32) (x4 : Int32) (x5 : Int32) (x6 : Int32) : Option (Int32 × St) :=
  fX6_wire_J45 mm x1 x2 x3 x4 x5 x6 0
def fX6_wire_J22 (mm : St) (x1 : Int32) (x2 : Int32) (x3 : Int32) (x4 : Int32) (x5 : Int32) (y0 : Int32) : Option (Int32 × St) :=
  if x1 = x3 then
    (fX6_wire_J44 mm x1 x2 x3 x4 x5 y0)
  else
    (bd (fX6_isIn x5 1 100) <| fun q34 =>
    if q34 = 0 then
      (fX6_wire_J44 mm x1 x2 x3 x4 x5 y0)
    else
      (fX6_wire_J45 mm x1 x2 x3 x4 x5 y0 1))
def fX6_wire_J21 (mm : St) (x1 : Int32) (x2 : Int32) (x3 : Int32) (x4 : Int32) (x5 : Int32) : Option (Int32 × St) :=
  fX6_wire_J22 mm x1 x2 x3 x4 x5 0
def fX6_wire (mm : St) (x1 : Int32) (x2 : Int32) (x3 : Int32) (x4 : Int32) (x5 : Int32) : Option (Int32 × St) :=
  bd (fX6_isPort x1 x2) <| fun q2 =>
  if q2 = 0 then
    (fX6_wire_J21 mm x1 x2 x3 x4 x5)
  else
    (bd (fX6_isPort x3 x4) <| fun q11 =>
    if q11 = 0 then
      (fX6_wire_J21 mm x1 x2 x3 x4 x5)
    else
      (fX6_wire_J22 mm x1 x2 x3 x4 x5 1))
def fX6_drops_S12 (k12 : (St × Int32) → Option (St)) (x1 : Int32) (mm : St) (x3 : Int32) : Option (St) :=
  ck (inb x1 6) <|
  if ((8 * x1) + (mm 24 x1.toNatClampNeg)) ≤ x3 then
    (some mm)
  else
    (ck (inb (x3 + 1) 48) <|
    ck (inb x3 48) <|
    ck (inb (x3 + 1) 48) <|
    ck (inb x3 48) <|
    ck (inb (x3 + 1) 48) <|
    ck (inb x3 48) <|
    ck (inb (x3 + 1) 48) <|
    ck (inb x3 48) <|
    k12 ((aS (aS (aS (aS mm 25 x3 (mm 25 (x3 + 1).toNatClampNeg)) 26 x3 (mm 26 (x3 + 1).toNatClampNeg)) 27 x3 (mm 27 (x3 + 1).toNatClampNeg)) 28 x3 (mm 28 (x3 + 1).toNatClampNeg)), x3 + 1))
def fX6_drops_L12 (x1 : Int32) (mm : St) (x3 : Int32) : Option (St) := loopN (fun k a => fX6_drops_S12 k x1 (a.1) (a.2)) 1000 (mm, x3)
def fX6_drops (mm : St) (x1 : Int32) (x2 : Int32) : Option (St) :=
  ck (inb x1 6) <|
  ck (inb x1 6) <|
  fX6_drops_L12 x1 (aS mm 24 x1 ((mm 24 x1.toNatClampNeg) - 1)) x2
def fX6_forgets_S18 (k18 : (St × Int32) → Option (St)) (x1 : Int32) (x2 : Int32) (mm : St) (x3 : Int32) : Option (St) :=
  if x3 < (8 * x2) then
    (some mm)
  else
    (ck (inb x3 48) <|
    if (mm 27 x3.toNatClampNeg) = (x1 - x1 / 5 * 5) then
      (bd (fX6_drops mm x2 x3) <| fun q41 =>
      k18 (q41, x3 + (-1)))
    else
      (k18 (mm, x3 + (-1))))
def fX6_forgets_L18 (x1 : Int32) (x2 : Int32) (mm : St) (x3 : Int32) : Option (St) := loopN (fun k a => fX6_forgets_S18 k x1 x2 (a.1) (a.2)) 1000 (mm, x3)
def fX6_forgets (mm : St) (x1 : Int32) : Option (St) :=
  ck (inb (x1 / 5) 6) <|
  fX6_forgets_L18 x1 (x1 / 5) mm (((8 * (x1 / 5)) + (mm 24 (x1 / 5).toNatClampNeg)) - 1)
def fX6_shuts (mm : St) (x1 : Int32) : Option (St) :=
  ck (inb x1 30) <|
  bd (fX6_begins (aS mm 10 x1 (vp_nar .boolean 1)) x1) <| fun q9 =>
  bd (fX6_forgets q9 x1) <| fun q14 =>
  some q14
def fX6_frees_J34 (mm : St) (y0 : Int32) (y1 : Int32) : Option (St) :=
  ck (inb y1 30) <|
  some (aS mm 12 y1 (vp_nar .boolean y0))
def fX6_frees (mm : St) (x1 : Int32) : Option (St) :=
  ck (inb x1 30) <|
  ck (inb x1 30) <|
  ck (inb x1 30) <|
  if (mm 5 x1.toNatClampNeg) = (-1) then
    (fX6_frees_J34 (aS (aS mm 10 x1 (vp_nar .boolean 0)) 11 x1 0) 0 x1)
  else
    (fX6_frees_J34 (aS (aS mm 10 x1 (vp_nar .boolean 0)) 11 x1 0) 1 x1)
def fX6_free_J36 (mm : St) (x4 : Int32) (y0 : Int32) : Option (Int32 × St) :=
  bd (fX6_fails mm y0) <| fun q36 =>
  if q36.1 = 0 then
    (ck (inb x4 30) <|
    ck (inb x4 30) <|
    ck (inb x4 30) <|
    ck (inb x4 30) <|
    bd (fX6_begins (aS (aS (q36.2) 5 x4 (-1)) 3 x4 (-1)) x4) <| fun q81 =>
    bd (fX6_forgets q81 x4) <| fun q87 =>
    if ((q36.2) 3 x4.toNatClampNeg) = (-1) then
      (some ((q36.2) 5 x4.toNatClampNeg, q87))
    else
      (ck (inb ((q36.2) 3 x4.toNatClampNeg) 30) <|
      bd (fX6_begins (aS q87 3 ((q36.2) 3 x4.toNatClampNeg) (-1)) ((q36.2) 3 x4.toNatClampNeg)) <| fun q107 =>
      bd (fX6_forgets q107 ((q36.2) 3 x4.toNatClampNeg)) <| fun q113 =>
      some ((q36.2) 5 x4.toNatClampNeg, q113)))
  else
    (some (0, (q36.2)))
def fX6_free (mm : St) (x1 : Int32) (x2 : Int32) : Option (Int32 × St) :=
  bd (fX6_isPort x1 x2) <| fun q2 =>
  if q2 = 0 then
    (fX6_free_J36 mm ((5 * x1) + x2) 1)
  else
    (bd (fX6_isUsed mm ((5 * x1) + x2)) <| fun q25 =>
    if q25 = 0 then
      (fX6_free_J36 mm ((5 * x1) + x2) 2)
    else
      (fX6_free_J36 mm ((5 * x1) + x2) 0))
def fX6_house_J167 (mm : St) (x7 : Int32) (y0 : Int32) (y1 : Int32) : Option (Int32 × St) :=
  ck (inb y1 30) <|
  some (x7, (aS mm 12 y1 (vp_nar .boolean y0)))
def fX6_house_J124 (mm : St) (x3 : Int32) (x5 : Int32) (x7 : Int32) (y0 : Int32) : Option (Int32 × St) :=
  bd (fX6_fails mm y0) <| fun q124 =>
  if q124.1 = 0 then
    (ck (inb x5 30) <|
    bd (fX6_begins (aS (q124.2) 5 x5 x3) x5) <| fun q143 =>
    ck (inb x5 30) <|
    if (q143 10 x5.toNatClampNeg) = 0 then
      (fX6_house_J167 q143 x7 1 x5)
    else
      (fX6_house_J167 q143 x7 0 x5))
  else
    (some (0, (q124.2)))
def fX6_house_J95 (mm : St) (x3 : Int32) (x4 : Int32) (x5 : Int32) (x6 : Int32) (x7 : Int32) : Option (Int32 × St) :=
  if x4 = 0 then
    (fX6_house_J124 mm x3 x5 x7 1)
  else
    (bd (fX6_isUsed mm x5) <| fun q108 =>
    if q108 = 0 then
      (if x6 = 0 then
        (fX6_house_J124 mm x3 x5 x7 0)
      else
        (fX6_house_J124 mm x3 x5 x7 2))
    else
      (fX6_house_J124 mm x3 x5 x7 2))
def fX6_house_J66 (k38 : (Int32 × Int32 × Int32) → Option (Int32 × St)) (mm : St) (x3 : Int32) (x4 : Int32) (x5 : Int32) (x7 : Int32) (x8 : Int32) (y0 : Int32) : Option (Int32 × St) :=
  ck (inb x8 30) <|
  if (mm 5 x8.toNatClampNeg) = (-1) then
    (k38 (y0, x7 + 0, x8 + 1))
  else
    (k38 (y0, x7 + 1, x8 + 1))
def fX6_house_S38 (k38 : (Int32 × Int32 × Int32) → Option (Int32 × St)) (mm : St) (x3 : Int32) (x4 : Int32) (x5 : Int32) (x6 : Int32) (x7 : Int32) (x8 : Int32) : Option (Int32 × St) :=
  if 30 ≤ x8 then
    (fX6_house_J95 mm x3 x4 x5 x6 x7)
  else
    (if x6 = 0 then
      (ck (inb x8 30) <|
      if (mm 5 x8.toNatClampNeg) = x3 then
        (fX6_house_J66 k38 mm x3 x4 x5 x7 x8 1)
      else
        (fX6_house_J66 k38 mm x3 x4 x5 x7 x8 0))
    else
      (fX6_house_J66 k38 mm x3 x4 x5 x7 x8 1))
def fX6_house_L38 (mm : St) (x3 : Int32) (x4 : Int32) (x5 : Int32) (x6 : Int32) (x7 : Int32) (x8 : Int32) : Option (Int32 × St) := loopN (fun k a => fX6_house_S38 k mm x3 x4 x5 (a.1) (a.2.1) (a.2.2)) 1000 (x6, x7, x8)
def fX6_house_J20 (mm : St) (x1 : Int32) (x2 : Int32) (x3 : Int32) (y0 : Int32) : Option (Int32 × St) :=
  fX6_house_L38 mm x3 y0 ((5 * x1) + x2) 0 1 0
def fX6_house_J19 (mm : St) (x1 : Int32) (x2 : Int32) (x3 : Int32) : Option (Int32 × St) :=
  fX6_house_J20 mm x1 x2 x3 0
def fX6_house (mm : St) (x1 : Int32) (x2 : Int32) (x3 : Int32) : Option (Int32 × St) :=
  bd (fX6_isPort x1 x2) <| fun q2 =>
  if q2 = 0 then
    (fX6_house_J19 mm x1 x2 x3)
  else
    (bd (fX6_isHouse x3) <| fun q9 =>
    if q9 = 0 then
      (fX6_house_J19 mm x1 x2 x3)
    else
      (fX6_house_J20 mm x1 x2 x3 1))
def fX6_rank_J27 (mm : St) (x1 : Int32) (x2 : Int32) (y0 : Int32) : Option (Int32 × St) :=
  bd (fX6_fails mm y0) <| fun q27 =>
  if q27.1 = 0 then
    (ck (inb x1 6) <|
    ck (inb x1 6) <|
    some ((q27.2) 2 x1.toNatClampNeg, (aS (q27.2) 2 x1 x2)))
  else
    (some (0, (q27.2)))
def fX6_rank (mm : St) (x1 : Int32) (x2 : Int32) : Option (Int32 × St) :=
  bd (fX6_isSwitch x1) <| fun q2 =>
  if q2 = 0 then
    (fX6_rank_J27 mm x1 x2 1)
  else
    (bd (fX6_isIn x2 0 15) <| fun q16 =>
    if q16 = 0 then
      (fX6_rank_J27 mm x1 x2 2)
    else
      (fX6_rank_J27 mm x1 x2 0))
def fX6_shut_J14 (mm : St) (x1 : Int32) (x2 : Int32) (y0 : Int32) : Option (Int32 × St) :=
  bd (fX6_fails mm y0) <| fun q14 =>
  if q14.1 = 0 then
    (ck (inb ((5 * x1) + x2) 30) <|
    if ((q14.2) 10 ((5 * x1) + x2).toNatClampNeg) = 0 then
      (bd (fX6_shuts (q14.2) ((5 * x1) + x2)) <| fun q47 =>
      ck (inb ((5 * x1) + x2) 30) <|
      ck (isb (q47 10 ((5 * x1) + x2).toNatClampNeg)) <|
      some (q47 10 ((5 * x1) + x2).toNatClampNeg, q47))
    else
      (bd (fX6_frees (q14.2) ((5 * x1) + x2)) <| fun q39 =>
      ck (inb ((5 * x1) + x2) 30) <|
      ck (isb (q39 10 ((5 * x1) + x2).toNatClampNeg)) <|
      some (q39 10 ((5 * x1) + x2).toNatClampNeg, q39)))
  else
    (some (0, (q14.2)))
def fX6_shut (mm : St) (x1 : Int32) (x2 : Int32) : Option (Int32 × St) :=
  bd (fX6_isPort x1 x2) <| fun q3 =>
  if q3 = 0 then
    (fX6_shut_J14 mm x1 x2 1)
  else
    (fX6_shut_J14 mm x1 x2 0)
def fX6_guard_J27 (mm : St) (x1 : Int32) (x2 : Int32) (x3 : Int32) (y0 : Int32) : Option (Int32 × St) :=
  bd (fX6_fails mm y0) <| fun q27 =>
  if q27.1 = 0 then
    (ck (inb ((5 * x1) + x2) 30) <|
    ck (inb ((5 * x1) + x2) 30) <|
    some ((q27.2) 6 ((5 * x1) + x2).toNatClampNeg, (aS (q27.2) 6 ((5 * x1) + x2) x3)))
  else
    (some (0, (q27.2)))
def fX6_guard (mm : St) (x1 : Int32) (x2 : Int32) (x3 : Int32) : Option (Int32 × St) :=
  bd (fX6_isPort x1 x2) <| fun q3 =>
  if q3 = 0 then
    (fX6_guard_J27 mm x1 x2 x3 1)
  else
    (bd (fX6_isIn x3 0 2) <| fun q16 =>
    if q16 = 0 then
      (fX6_guard_J27 mm x1 x2 x3 2)
    else
      (fX6_guard_J27 mm x1 x2 x3 0))
def fX6_plain_J21 (mm : St) (x1 : Int32) (x2 : Int32) (x3 : Int32) (y0 : Int32) : Option (St) :=
  bd (fX6_fails mm y0) <| fun q21 =>
  if q21.1 = 0 then
    (ck (inb ((5 * x1) + x2) 30) <|
    ck (inb ((5 * x1) + x2) 30) <|
    some (aS (aS (q21.2) 7 ((5 * x1) + x2) (vp_nar .boolean 0)) 9 ((5 * x1) + x2) x3))
  else
    (some (q21.2))
def fX6_plain_J20 (mm : St) (x1 : Int32) (x2 : Int32) (x3 : Int32) : Option (St) :=
  fX6_plain_J21 mm x1 x2 x3 1
def fX6_plain (mm : St) (x1 : Int32) (x2 : Int32) (x3 : Int32) : Option (St) :=
  bd (fX6_isPort x1 x2) <| fun q3 =>
  if q3 = 0 then
    (fX6_plain_J20 mm x1 x2 x3)
  else
    (bd (fX6_isLane x3) <| fun q10 =>
    if q10 = 0 then
      (fX6_plain_J20 mm x1 x2 x3)
    else
      (fX6_plain_J21 mm x1 x2 x3 0))
def fX6_trunk_J36 (mm : St) (x1 : Int32) (x2 : Int32) (x3 : Int32) (x4 : Int32) (y0 : Int32) : Option (St) :=
  bd (fX6_fails mm y0) <| fun q36 =>
  if q36.1 = 0 then
    (ck (inb ((5 * x1) + x2) 30) <|
    ck (inb ((5 * x1) + x2) 30) <|
    ck (inb ((5 * x1) + x2) 30) <|
    some (aS (aS (aS (q36.2) 7 ((5 * x1) + x2) (vp_nar .boolean 1)) 8 ((5 * x1) + x2) x3) 9 ((5 * x1) + x2) x4))
  else
    (some (q36.2))
def fX6_trunk (mm : St) (x1 : Int32) (x2 : Int32) (x3 : Int32) (x4 : Int32) : Option (St) :=
  bd (fX6_isPort x1 x2) <| fun q3 =>
  if q3 = 0 then
    (fX6_trunk_J36 mm x1 x2 x3 x4 1)
  else
    (bd (fX6_isLane x4) <| fun q11 =>
    if q11 = 0 then
      (fX6_trunk_J36 mm x1 x2 x3 x4 1)
    else
      (bd (fX6_isIn x3 1 7) <| fun q25 =>
      if q25 = 0 then
        (fX6_trunk_J36 mm x1 x2 x3 x4 2)
      else
        (fX6_trunk_J36 mm x1 x2 x3 x4 0)))
def fX6_limit_J16 (mm : St) (x1 : Int32) (y0 : Int32) : Option (Int32 × St) :=
  bd (fX6_fails mm y0) <| fun q16 =>
  if q16.1 = 0 then
    (some ((q16.2) 1 0, (iS (q16.2) 1 x1)))
  else
    (some (0, (q16.2)))
def fX6_limit (mm : St) (x1 : Int32) : Option (Int32 × St) :=
  bd (fX6_isIn x1 1 100) <| fun q5 =>
  if q5 = 0 then
    (fX6_limit_J16 mm x1 1)
  else
    (fX6_limit_J16 mm x1 0)
def fX6_tells_J109 (k2 : (St × Int32) → Option (St)) (mm : St) (x1 : Int32) (y0 : Int32) (y1 : Int32) : Option (St) :=
  ck (inb y1 30) <|
  k2 ((aS mm 22 y1 y0), x1 + 1)
def fX6_tells_J87 (k2 : (St × Int32) → Option (St)) (mm : St) (x1 : Int32) (x2 : Int32) (x3 : Int32) (y0 : Int32) (y1 : Int32) : Option (St) :=
  ck (inb y1 30) <|
  if x3 = 0 then
    (fX6_tells_J109 k2 (aS mm 21 y1 y0) x1 0 x1)
  else
    (ck (inb (x2 / 5) 6) <|
    fX6_tells_J109 k2 (aS mm 21 y1 y0) x1 (mm 18 (x2 / 5).toNatClampNeg) x1)
def fX6_tells_J65 (k2 : (St × Int32) → Option (St)) (mm : St) (x1 : Int32) (x2 : Int32) (x3 : Int32) (y0 : Int32) (y1 : Int32) : Option (St) :=
  ck (inb y1 30) <|
  if x3 = 0 then
    (fX6_tells_J87 k2 (aS mm 20 y1 y0) x1 x2 x3 0 x1)
  else
    (ck (inb (x2 / 5) 6) <|
    fX6_tells_J87 k2 (aS mm 20 y1 y0) x1 x2 x3 (mm 17 (x2 / 5).toNatClampNeg) x1)
def fX6_tells_J43 (k2 : (St × Int32) → Option (St)) (mm : St) (x1 : Int32) (x2 : Int32) (y0 : Int32) : Option (St) :=
  if y0 = 0 then
    (fX6_tells_J65 k2 mm x1 x2 y0 (-1) x1)
  else
    (ck (inb (x2 / 5) 6) <|
    fX6_tells_J65 k2 mm x1 x2 y0 (mm 16 (x2 / 5).toNatClampNeg) x1)
def fX6_tells_J42 (k2 : (St × Int32) → Option (St)) (mm : St) (x1 : Int32) (x2 : Int32) : Option (St) :=
  fX6_tells_J43 k2 mm x1 x2 0
def fX6_tells_S2 (k2 : (St × Int32) → Option (St)) (mm : St) (x1 : Int32) : Option (St) :=
  if 30 ≤ x1 then
    (some mm)
  else
    (ck (inb x1 30) <|
    if (mm 3 x1.toNatClampNeg) = (-1) then
      (fX6_tells_J42 k2 mm x1 (mm 3 x1.toNatClampNeg))
    else
      (ck (inb x1 30) <|
      if (mm 10 x1.toNatClampNeg) = 0 then
        (ck (inb (mm 3 x1.toNatClampNeg) 30) <|
        if (mm 10 (mm 3 x1.toNatClampNeg).toNatClampNeg) = 0 then
          (fX6_tells_J43 k2 mm x1 (mm 3 x1.toNatClampNeg) 1)
        else
          (fX6_tells_J42 k2 mm x1 (mm 3 x1.toNatClampNeg)))
      else
        (fX6_tells_J42 k2 mm x1 (mm 3 x1.toNatClampNeg))))
def fX6_tells_L2 (mm : St) (x1 : Int32) : Option (St) := loopN (fun k a => fX6_tells_S2 k (a.1) (a.2)) 1000 (mm, x1)
def fX6_tells (mm : St) : Option (St) :=
  fX6_tells_L2 mm 0
def fX6_guardsHouses_S2 (k2 : (St × Int32) → Option (St)) (mm : St) (x1 : Int32) : Option (St) :=
  if 30 ≤ x1 then
    (some mm)
  else
    (ck (inb x1 30) <|
    if (mm 6 x1.toNatClampNeg) = 2 then
      (ck (inb x1 30) <|
      if (mm 20 x1.toNatClampNeg) = (-1) then
        (k2 (mm, x1 + 1))
      else
        (ck (inb x1 30) <|
        bd (fX6_shuts (aS mm 20 x1 (-1)) x1) <| fun q37 =>
        k2 (q37, x1 + 1)))
    else
      (k2 (mm, x1 + 1)))
def fX6_guardsHouses_L2 (mm : St) (x1 : Int32) : Option (St) := loopN (fun k a => fX6_guardsHouses_S2 k (a.1) (a.2)) 1000 (mm, x1)
def fX6_guardsHouses (mm : St) : Option (St) :=
  fX6_guardsHouses_L2 mm 0
def fX6_isBetterBy_J92 (mm : St) (x6 : Int32) (x7 : Int32) : Option (Int32) :=
  if x7 ≤ x6 then
    (some 0)
  else
    (some 1)
def fX6_isBetterBy_J78 (mm : St) (x2 : Int32) (x3 : Int32) (x6 : Int32) (y0 : Int32) : Option (Int32) :=
  if x6 = y0 then
    (if x3 = (-1) then
      (fX6_isBetterBy_J92 mm x6 y0)
    else
      (ck (inb x2 30) <|
      ck (inb x3 30) <|
      if ((mm 3 x2.toNatClampNeg) / 5) = ((mm 3 x3.toNatClampNeg) / 5) then
        (if (mm 3 x3.toNatClampNeg) ≤ (mm 3 x2.toNatClampNeg) then
          (some 0)
        else
          (some 1))
      else
        (bd (fX6_isBetter mm ((mm 3 x2.toNatClampNeg) / 5) ((mm 3 x3.toNatClampNeg) / 5)) <| fun q141 =>
        ck (isb q141) <|
        some q141)))
  else
    (fX6_isBetterBy_J92 mm x6 y0)
def fX6_isBetterBy_J23 (mm : St) (x2 : Int32) (x3 : Int32) (x4 : Int32) (y0 : Int32) : Option (Int32) :=
  if x4 = y0 then
    (ck (inb x2 30) <|
    ck (inb x2 30) <|
    if x3 = (-1) then
      (fX6_isBetterBy_J78 mm x2 x3 ((mm 21 x2.toNatClampNeg) + (mm 4 x2.toNatClampNeg)) 0)
    else
      (ck (inb x3 30) <|
      ck (inb x3 30) <|
      fX6_isBetterBy_J78 mm x2 x3 ((mm 21 x2.toNatClampNeg) + (mm 4 x2.toNatClampNeg)) ((mm 21 x3.toNatClampNeg) + (mm 4 x3.toNatClampNeg))))
  else
    (bd (fX6_isBetter mm x4 y0) <| fun q37 =>
    ck (isb q37) <|
    some q37)
def fX6_isBetterBy (mm : St) (x1 : Int32) (x2 : Int32) (x3 : Int32) : Option (Int32) :=
  ck (inb x2 30) <|
  if x3 = (-1) then
    (fX6_isBetterBy_J23 mm x2 x3 (mm 20 x2.toNatClampNeg) x1)
  else
    (ck (inb x3 30) <|
    fX6_isBetterBy_J23 mm x2 x3 (mm 20 x2.toNatClampNeg) (mm 20 x3.toNatClampNeg))
def fX6_best_J73 (k7 : (Int32 × Int32) → Option (Int32)) (mm : St) (x1 : Int32) (x2 : Int32) (x3 : Int32) (x4 : Int32) (y0 : Int32) : Option (Int32) :=
  if y0 = 0 then
    (k7 (x3, x4 + 1))
  else
    (bd (fX6_isBetterBy mm x1 x4 x3) <| fun q85 =>
    if q85 = 0 then
      (k7 (x3, x4 + 1))
    else
      (k7 (x4, x4 + 1)))
def fX6_best_J72 (k7 : (Int32 × Int32) → Option (Int32)) (mm : St) (x1 : Int32) (x2 : Int32) (x3 : Int32) (x4 : Int32) : Option (Int32) :=
  fX6_best_J73 k7 mm x1 x2 x3 x4 0
def fX6_best_S7 (k7 : (Int32 × Int32) → Option (Int32)) (mm : St) (x1 : Int32) (x2 : Int32) (x3 : Int32) (x4 : Int32) : Option (Int32) :=
  if ((5 * x1) + 5) ≤ x4 then
    (some x3)
  else
    (ck (inb x4 30) <|
    if (mm 20 x4.toNatClampNeg) = (-1) then
      (fX6_best_J72 k7 mm x1 x2 x3 x4)
    else
      (ck (inb x4 30) <|
      if 7 ≤ (mm 22 x4.toNatClampNeg) then
        (fX6_best_J72 k7 mm x1 x2 x3 x4)
      else
        (if x2 = 0 then
          (ck (inb x4 30) <|
          if (mm 6 x4.toNatClampNeg) = 1 then
            (fX6_best_J72 k7 mm x1 x2 x3 x4)
          else
            (fX6_best_J73 k7 mm x1 x2 x3 x4 1))
        else
          (ck (inb x4 30) <|
          if (mm 23 x4.toNatClampNeg) = 0 then
            (fX6_best_J72 k7 mm x1 x2 x3 x4)
          else
            (fX6_best_J73 k7 mm x1 x2 x3 x4 1)))))
def fX6_best_L7 (mm : St) (x1 : Int32) (x2 : Int32) (x3 : Int32) (x4 : Int32) : Option (Int32) := loopN (fun k a => fX6_best_S7 k mm x1 x2 (a.1) (a.2)) 1000 (x3, x4)
def fX6_best (mm : St) (x1 : Int32) (x2 : Int32) : Option (Int32) :=
  fX6_best_L7 mm x1 x2 (-1) (5 * x1)
def fX6_holds_J187 (mm : St) (y0 : Int32) (y1 : Int32) : Option (St) :=
  ck (inb y1 6) <|
  some (aS mm 18 y1 y0)
def fX6_holds_J162 (mm : St) (x1 : Int32) (x4 : Int32) (y0 : Int32) (y1 : Int32) : Option (St) :=
  ck (inb y1 6) <|
  if x4 = (-1) then
    (fX6_holds_J187 (aS mm 17 y1 y0) 0 x1)
  else
    (ck (inb x4 30) <|
    fX6_holds_J187 (aS mm 17 y1 y0) ((mm 22 x4.toNatClampNeg) + 1) x1)
def fX6_holds_J131 (mm : St) (x1 : Int32) (x4 : Int32) (y0 : Int32) (y1 : Int32) : Option (St) :=
  ck (inb y1 6) <|
  if x4 = (-1) then
    (fX6_holds_J162 (aS mm 16 y1 y0) x1 x4 0 x1)
  else
    (ck (inb x4 30) <|
    ck (inb x4 30) <|
    fX6_holds_J162 (aS mm 16 y1 y0) x1 x4 ((mm 21 x4.toNatClampNeg) + (mm 4 x4.toNatClampNeg)) x1)
def fX6_holds_J93 (mm : St) (x1 : Int32) : Option (St) :=
  bd (fX6_best mm x1 1) <| fun q96 =>
  ck (inb x1 6) <|
  if q96 = (-1) then
    (fX6_holds_J131 (aS mm 19 x1 q96) x1 q96 x1 x1)
  else
    (ck (inb q96 30) <|
    fX6_holds_J131 (aS mm 19 x1 q96) x1 q96 (mm 20 q96.toNatClampNeg) x1)
def fX6_holds_J86 (k28 : (St × Int32) → Option (St)) (mm : St) (x1 : Int32) (x3 : Int32) (x4 : Int32) (y0 : Int32) (y1 : Int32) : Option (St) :=
  ck (inb y1 30) <|
  k28 ((aS mm 23 y1 (vp_nar .boolean y0)), x4 + 1)
def fX6_holds_J85 (k28 : (St × Int32) → Option (St)) (mm : St) (x1 : Int32) (x3 : Int32) (x4 : Int32) (y0 : Int32) : Option (St) :=
  fX6_holds_J86 k28 mm x1 x3 x4 0 y0
def fX6_holds_S28 (k28 : (St × Int32) → Option (St)) (x1 : Int32) (x3 : Int32) (mm : St) (x4 : Int32) : Option (St) :=
  if ((5 * x1) + 5) ≤ x4 then
    (fX6_holds_J93 mm x1)
  else
    (ck (inb x4 30) <|
    if (mm 20 x4.toNatClampNeg) = (-1) then
      (fX6_holds_J85 k28 mm x1 x3 x4 x4)
    else
      (ck (inb x4 30) <|
      if (mm 6 x4.toNatClampNeg) = 1 then
        (ck (inb x4 30) <|
        bd (fX6_isBetter mm (mm 20 x4.toNatClampNeg) x3) <| fun q75 =>
        if q75 = 0 then
          (fX6_holds_J86 k28 mm x1 x3 x4 1 x4)
        else
          (fX6_holds_J85 k28 mm x1 x3 x4 x4))
      else
        (fX6_holds_J86 k28 mm x1 x3 x4 1 x4)))
def fX6_holds_L28 (x1 : Int32) (x3 : Int32) (mm : St) (x4 : Int32) : Option (St) := loopN (fun k a => fX6_holds_S28 k x1 x3 (a.1) (a.2)) 1000 (mm, x4)
def fX6_holds_J22 (mm : St) (x1 : Int32) (y0 : Int32) : Option (St) :=
  fX6_holds_L28 x1 y0 mm (5 * x1)
def fX6_holds (mm : St) (x1 : Int32) : Option (St) :=
  bd (fX6_best mm x1 0) <| fun q3 =>
  if q3 = (-1) then
    (fX6_holds_J22 mm x1 x1)
  else
    (ck (inb q3 30) <|
    fX6_holds_J22 mm x1 (mm 20 q3.toNatClampNeg))
def fX6_isAhead (mm : St) (x1 : Int32) (x2 : Int32) : Option (Int32) :=
  ck (inb x1 6) <|
  ck (inb x2 30) <|
  if (mm 16 x1.toNatClampNeg) = (mm 20 x2.toNatClampNeg) then
    (ck (inb x1 6) <|
    ck (inb x2 30) <|
    if (mm 17 x1.toNatClampNeg) = (mm 21 x2.toNatClampNeg) then
      (ck (inb x2 30) <|
      bd (fX6_isBetter mm x1 ((mm 3 x2.toNatClampNeg) / 5)) <| fun q80 =>
      ck (isb q80) <|
      some q80)
    else
      (ck (inb x1 6) <|
      ck (inb x2 30) <|
      if (mm 21 x2.toNatClampNeg) ≤ (mm 17 x1.toNatClampNeg) then
        (some 0)
      else
        (some 1)))
  else
    (ck (inb x1 6) <|
    ck (inb x2 30) <|
    bd (fX6_isBetter mm (mm 16 x1.toNatClampNeg) (mm 20 x2.toNatClampNeg)) <| fun q28 =>
    ck (isb q28) <|
    some q28)
def fX6_roleOf_J46 (mm : St) (x1 : Int32) (x2 : Int32) : Option (Int32) :=
  ck (inb x2 6) <|
  if (mm 19 x2.toNatClampNeg) = x1 then
    (some 1)
  else
    (ck (inb x1 30) <|
    if (mm 20 x1.toNatClampNeg) = (-1) then
      (some 2)
    else
      (bd (fX6_isAhead mm x2 x1) <| fun q73 =>
      if q73 = 0 then
        (some 3)
      else
        (some 2)))
def fX6_roleOf (mm : St) (x1 : Int32) : Option (Int32) :=
  ck (inb x1 30) <|
  if (mm 3 x1.toNatClampNeg) = (-1) then
    (some 0)
  else
    (ck (inb x1 30) <|
    if (mm 10 x1.toNatClampNeg) = 0 then
      (ck (inb x1 30) <|
      if (mm 20 x1.toNatClampNeg) = (-1) then
        (fX6_roleOf_J46 mm x1 (x1 / 5))
      else
        (ck (inb x1 30) <|
        if (mm 23 x1.toNatClampNeg) = 0 then
          (some 3)
        else
          (fX6_roleOf_J46 mm x1 (x1 / 5))))
    else
      (some 0))
def fX6_isPassable (mm : St) (x1 : Int32) : Option (Int32) :=
  ck (inb x1 30) <|
  if (mm 3 x1.toNatClampNeg) = (-1) then
    (some 0)
  else
    (ck (inb x1 30) <|
    if (mm 10 x1.toNatClampNeg) = 0 then
      (ck (inb x1 30) <|
      ck (inb (mm 3 x1.toNatClampNeg) 30) <|
      if (mm 10 (mm 3 x1.toNatClampNeg).toNatClampNeg) = 0 then
        (some 1)
      else
        (some 0))
    else
      (some 0))
def fX6_spreads_S10 (k2 : (St × Int32) → Option (St)) (k10 : (St × Int32) → Option (St)) (x1 : Int32) (mm : St) (x2 : Int32) : Option (St) :=
  if 30 ≤ x2 then
    (k2 (mm, x1 + 1))
  else
    (bd (fX6_isPassable mm x2) <| fun q18 =>
    if q18 = 0 then
      (k10 (mm, x2 + 1))
    else
      (ck (inb (x2 / 5) 6) <|
      if (mm 39 (x2 / 5).toNatClampNeg) = 0 then
        (k10 (mm, x2 + 1))
      else
        (ck (inb x2 30) <|
        ck (inb ((mm 3 x2.toNatClampNeg) / 5) 6) <|
        k10 ((aS mm 39 ((mm 3 x2.toNatClampNeg) / 5) (vp_nar .boolean 1)), x2 + 1))))
def fX6_spreads_L10 (k2 : (St × Int32) → Option (St)) (x1 : Int32) (mm : St) (x2 : Int32) : Option (St) := loopN (fun k a => fX6_spreads_S10 k2 k x1 (a.1) (a.2)) 1000 (mm, x2)
def fX6_spreads_S2 (k2 : (St × Int32) → Option (St)) (mm : St) (x1 : Int32) : Option (St) :=
  if 6 ≤ x1 then
    (some mm)
  else
    (fX6_spreads_L10 k2 x1 mm 0)
def fX6_spreads_L2 (mm : St) (x1 : Int32) : Option (St) := loopN (fun k a => fX6_spreads_S2 k (a.1) (a.2)) 1000 (mm, x1)
def fX6_spreads (mm : St) : Option (St) :=
  fX6_spreads_L2 mm 0
def fX6_opens_J219 (k189 : (St × Int32) → Option (St)) (mm : St) (x1 : Int32) (y0 : Int32) (y1 : Int32) : Option (St) :=
  ck (inb y1 6) <|
  k189 ((aS mm 24 y1 y0), x1 + 1)
def fX6_opens_S189 (k189 : (St × Int32) → Option (St)) (mm : St) (x1 : Int32) : Option (St) :=
  if 6 ≤ x1 then
    (some mm)
  else
    (ck (inb x1 6) <|
    if (mm 39 x1.toNatClampNeg) = 0 then
      (ck (inb x1 6) <|
      fX6_opens_J219 k189 mm x1 (mm 24 x1.toNatClampNeg) x1)
    else
      (fX6_opens_J219 k189 mm x1 0 x1))
def fX6_opens_L189 (mm : St) (x1 : Int32) : Option (St) := loopN (fun k a => fX6_opens_S189 k (a.1) (a.2)) 1000 (mm, x1)
def fX6_opens_J183 (mm : St) : Option (St) :=
  bd (fX6_spreads mm) <| fun q184 =>
  fX6_opens_L189 q184 0
def fX6_opens_J176 (k23 : (St × Int32) → Option (St)) (mm : St) (x1 : Int32) (y0 : Int32) (y1 : Int32) : Option (St) :=
  ck (inb y1 6) <|
  k23 ((aS mm 39 y1 (vp_nar .boolean y0)), x1 + 1)
def fX6_opens_J142 (k23 : (St × Int32) → Option (St)) (mm : St) (x1 : Int32) (x3 : Int32) (y0 : Int32) (y1 : Int32) : Option (St) :=
  ck (inb y1 30) <|
  ck (inb (x1 / 5) 6) <|
  if (mm 39 (x1 / 5).toNatClampNeg) = 0 then
    (ck (inb x1 30) <|
    if x3 = ((aS mm 12 y1 (vp_nar .boolean y0)) 12 x1.toNatClampNeg) then
      (fX6_opens_J176 k23 (aS mm 12 y1 (vp_nar .boolean y0)) x1 0 (x1 / 5))
    else
      (fX6_opens_J176 k23 (aS mm 12 y1 (vp_nar .boolean y0)) x1 1 (x1 / 5)))
  else
    (fX6_opens_J176 k23 (aS mm 12 y1 (vp_nar .boolean y0)) x1 1 (x1 / 5))
def fX6_opens_J141 (k23 : (St × Int32) → Option (St)) (mm : St) (x1 : Int32) (x3 : Int32) (y0 : Int32) : Option (St) :=
  fX6_opens_J142 k23 mm x1 x3 0 y0
def fX6_opens_J106 (k23 : (St × Int32) → Option (St)) (mm : St) (x1 : Int32) (x2 : Int32) (y0 : Int32) (y1 : Int32) : Option (St) :=
  ck (inb y1 30) <|
  ck (inb x1 30) <|
  if x2 = 0 then
    (fX6_opens_J141 k23 (aS mm 14 y1 y0) x1 (mm 12 x1.toNatClampNeg) x1)
  else
    (if (mm 12 x1.toNatClampNeg) = 0 then
      (ck (inb x1 30) <|
      if ((aS mm 14 y1 y0) 14 x1.toNatClampNeg) ≤ 2 then
        (fX6_opens_J141 k23 (aS mm 14 y1 y0) x1 (mm 12 x1.toNatClampNeg) x1)
      else
        (fX6_opens_J142 k23 (aS mm 14 y1 y0) x1 (mm 12 x1.toNatClampNeg) 1 x1))
    else
      (fX6_opens_J142 k23 (aS mm 14 y1 y0) x1 (mm 12 x1.toNatClampNeg) 1 x1))
def fX6_opens_J84 (k23 : (St × Int32) → Option (St)) (mm : St) (x1 : Int32) (y0 : Int32) : Option (St) :=
  if y0 = 0 then
    (fX6_opens_J106 k23 mm x1 y0 0 x1)
  else
    (ck (inb x1 30) <|
    fX6_opens_J106 k23 mm x1 y0 ((mm 14 x1.toNatClampNeg) + 1) x1)
def fX6_opens_S23 (k23 : (St × Int32) → Option (St)) (mm : St) (x1 : Int32) : Option (St) :=
  if 30 ≤ x1 then
    (fX6_opens_J183 mm)
  else
    (bd (fX6_roleOf mm x1) <| fun q36 =>
    ck (inb x1 30) <|
    ck (inb x1 30) <|
    if (mm 3 x1.toNatClampNeg) = (-1) then
      (k23 ((aS mm 13 x1 q36), x1 + 1))
    else
      (ck (inb x1 30) <|
      if (mm 10 x1.toNatClampNeg) = 0 then
        (ck (inb x1 30) <|
        if ((aS mm 13 x1 q36) 13 x1.toNatClampNeg) = 1 then
          (fX6_opens_J84 k23 (aS mm 13 x1 q36) x1 1)
        else
          (ck (inb x1 30) <|
          if ((aS mm 13 x1 q36) 13 x1.toNatClampNeg) = 2 then
            (fX6_opens_J84 k23 (aS mm 13 x1 q36) x1 1)
          else
            (fX6_opens_J84 k23 (aS mm 13 x1 q36) x1 0)))
      else
        (k23 ((aS mm 13 x1 q36), x1 + 1))))
def fX6_opens_L23 (mm : St) (x1 : Int32) : Option (St) := loopN (fun k a => fX6_opens_S23 k (a.1) (a.2)) 1000 (mm, x1)
def fX6_opens_J21 (mm : St) : Option (St) :=
  fX6_opens_L23 mm 0
def fX6_opens_S2 (k2 : (St × Int32) → Option (St)) (mm : St) (x1 : Int32) : Option (St) :=
  if 6 ≤ x1 then
    (fX6_opens_J21 mm)
  else
    (ck (inb x1 6) <|
    k2 ((aS mm 39 x1 (vp_nar .boolean 0)), x1 + 1))
def fX6_opens_L2 (mm : St) (x1 : Int32) : Option (St) := loopN (fun k a => fX6_opens_S2 k (a.1) (a.2)) 1000 (mm, x1)
def fX6_opens (mm : St) : Option (St) :=
  fX6_opens_L2 mm 0
def fX6_beats_S107 (k107 : (St × Int32) → Option (St)) (mm : St) (x1 : Int32) : Option (St) :=
  if 30 ≤ x1 then
    (some mm)
  else
    (ck (inb x1 30) <|
    ck (inb x1 30) <|
    if (mm 10 x1.toNatClampNeg) = 0 then
      (k107 ((aS mm 15 x1 0), x1 + 1))
    else
      (ck (inb x1 30) <|
      if (mm 11 x1.toNatClampNeg) ≤ 0 then
        (k107 ((aS mm 15 x1 0), x1 + 1))
      else
        (ck (inb x1 30) <|
        if (mm 0 0) < (mm 11 x1.toNatClampNeg) then
          (k107 ((aS mm 15 x1 0), x1 + 1))
        else
          (bd (fX6_frees (aS mm 15 x1 0) x1) <| fun q153 =>
          k107 (q153, x1 + 1)))))
def fX6_beats_L107 (mm : St) (x1 : Int32) : Option (St) := loopN (fun k a => fX6_beats_S107 k (a.1) (a.2)) 1000 (mm, x1)
def fX6_beats_J105 (mm : St) : Option (St) :=
  fX6_beats_L107 mm 0
def fX6_beats_S63 (k43 : (St × Int32) → Option (St)) (k63 : (St × Int32) → Option (St)) (x1 : Int32) (mm : St) (x2 : Int32) : Option (St) :=
  if x2 < (8 * x1) then
    (k43 (mm, x1 + 1))
  else
    (ck (inb x2 48) <|
    if ((mm 0 0) - (mm 28 x2.toNatClampNeg)) < 10 then
      (k63 (mm, x2 + (-1)))
    else
      (bd (fX6_drops mm x1 x2) <| fun q90 =>
      k63 (q90, x2 + (-1))))
def fX6_beats_L63 (k43 : (St × Int32) → Option (St)) (x1 : Int32) (mm : St) (x2 : Int32) : Option (St) := loopN (fun k a => fX6_beats_S63 k43 k x1 (a.1) (a.2)) 1000 (mm, x2)
def fX6_beats_S43 (k43 : (St × Int32) → Option (St)) (mm : St) (x1 : Int32) : Option (St) :=
  if 6 ≤ x1 then
    (fX6_beats_J105 mm)
  else
    (ck (inb x1 6) <|
    fX6_beats_L63 k43 x1 mm (((8 * x1) + (mm 24 x1.toNatClampNeg)) - 1))
def fX6_beats_L43 (mm : St) (x1 : Int32) : Option (St) := loopN (fun k a => fX6_beats_S43 k (a.1) (a.2)) 1000 (mm, x1)
def fX6_beats_J37 (mm : St) : Option (St) :=
  bd (fX6_opens mm) <| fun q38 =>
  fX6_beats_L43 q38 0
def fX6_beats_S20 (k20 : (St × Int32) → Option (St)) (mm : St) (x1 : Int32) : Option (St) :=
  if 6 ≤ x1 then
    (fX6_beats_J37 mm)
  else
    (bd (fX6_holds mm x1) <| fun q28 =>
    k20 (q28, x1 + 1))
def fX6_beats_L20 (mm : St) (x1 : Int32) : Option (St) := loopN (fun k a => fX6_beats_S20 k (a.1) (a.2)) 1000 (mm, x1)
def fX6_beats (mm : St) : Option (St) :=
  bd (fX6_tells (iS mm 0 ((mm 0 0) + 1))) <| fun q11 =>
  bd (fX6_guardsHouses q11) <| fun q15 =>
  fX6_beats_L20 q15 0
def fX6_beat_S26 (k26 : (St × Int32) → Option (Int32 × St)) (x1 : Int32) (mm : St) (x2 : Int32) : Option (Int32 × St) :=
  if x1 ≤ x2 then
    (some (mm 0 0, mm))
  else
    (bd (fX6_beats mm) <| fun q32 =>
    k26 (q32, x2 + 1))
def fX6_beat_L26 (x1 : Int32) (mm : St) (x2 : Int32) : Option (Int32 × St) := loopN (fun k a => fX6_beat_S26 k x1 (a.1) (a.2)) 1000 (mm, x2)
def fX6_beat_J16 (mm : St) (x1 : Int32) (y0 : Int32) : Option (Int32 × St) :=
  bd (fX6_fails mm y0) <| fun q16 =>
  if q16.1 = 0 then
    (fX6_beat_L26 x1 (q16.2) 0)
  else
    (some (0, (q16.2)))
def fX6_beat (mm : St) (x1 : Int32) : Option (Int32 × St) :=
  bd (fX6_isIn x1 1 30) <| fun q5 =>
  if q5 = 0 then
    (fX6_beat_J16 mm x1 1)
  else
    (fX6_beat_J16 mm x1 0)
def fX6_find_S9 (k9 : (Int32 × Int32) → Option (Int32)) (mm : St) (x1 : Int32) (x2 : Int32) (x3 : Int32) (x4 : Int32) (x5 : Int32) : Option (Int32) :=
  ck (inb x1 6) <|
  if ((8 * x1) + (mm 24 x1.toNatClampNeg)) ≤ x5 then
    (some x4)
  else
    (ck (inb x5 48) <|
    if (mm 25 x5.toNatClampNeg) = x2 then
      (ck (inb x5 48) <|
      if (mm 26 x5.toNatClampNeg) = x3 then
        (k9 (x5, x5 + 1))
      else
        (k9 (x4, x5 + 1)))
    else
      (k9 (x4, x5 + 1)))
def fX6_find_L9 (mm : St) (x1 : Int32) (x2 : Int32) (x3 : Int32) (x4 : Int32) (x5 : Int32) : Option (Int32) := loopN (fun k a => fX6_find_S9 k mm x1 x2 x3 (a.1) (a.2)) 1000 (x4, x5)
def fX6_find (mm : St) (x1 : Int32) (x2 : Int32) (x3 : Int32) : Option (Int32) :=
  fX6_find_L9 mm x1 x2 x3 (-1) (8 * x1)
def fX6_hears_J59 (mm : St) (x1 : Int32) (x2 : Int32) (x3 : Int32) (x5 : Int32) : Option (St) :=
  if x5 = (-1) then
    (some mm)
  else
    (ck (inb x5 48) <|
    ck (inb x5 48) <|
    ck (inb x5 48) <|
    ck (inb x5 48) <|
    some (aS (aS (aS (aS mm 25 x5 x2) 26 x5 x3) 27 x5 (x1 - x1 / 5 * 5)) 28 x5 (mm 0 0)))
def fX6_hears (mm : St) (x1 : Int32) (x2 : Int32) (x3 : Int32) : Option (St) :=
  bd (fX6_find mm (x1 / 5) x2 x3) <| fun q10 =>
  if q10 = (-1) then
    (ck (inb (x1 / 5) 6) <|
    if 8 ≤ (mm 24 (x1 / 5).toNatClampNeg) then
      (fX6_hears_J59 mm x1 x2 x3 q10)
    else
      (ck (inb (x1 / 5) 6) <|
      ck (inb (x1 / 5) 6) <|
      ck (inb (x1 / 5) 6) <|
      fX6_hears_J59 (aS mm 24 (x1 / 5) ((mm 24 (x1 / 5).toNatClampNeg) + 1)) x1 x2 x3 ((8 * (x1 / 5)) + (mm 24 (x1 / 5).toNatClampNeg))))
  else
    (fX6_hears_J59 mm x1 x2 x3 q10)
def fX6_laneOf_J59 (mm : St) (x1 : Int32) (y0 : Int32) : Option (Int32) :=
  ck (inb x1 30) <|
  if (((mm 8 x1.toNatClampNeg) >>> ((y0 - 1) &&& 31)) &&& 1) = 1 then
    (some y0)
  else
    (some 0)
def fX6_laneOf (mm : St) (x1 : Int32) (x2 : Int32) : Option (Int32) :=
  ck (inb x1 30) <|
  if (mm 12 x1.toNatClampNeg) = 0 then
    (some 0)
  else
    (ck (inb x1 30) <|
    if (mm 7 x1.toNatClampNeg) = 0 then
      (if x2 = 0 then
        (ck (inb x1 30) <|
        some (mm 9 x1.toNatClampNeg))
      else
        (ck (inb x1 30) <|
        if x2 = (mm 9 x1.toNatClampNeg) then
          (ck (inb x1 30) <|
          some (mm 9 x1.toNatClampNeg))
        else
          (some 0)))
    else
      (if x2 = 0 then
        (ck (inb x1 30) <|
        fX6_laneOf_J59 mm x1 (mm 9 x1.toNatClampNeg))
      else
        (fX6_laneOf_J59 mm x1 x2)))
def fX6_hasLane (mm : St) (x1 : Int32) (x2 : Int32) : Option (Int32) :=
  ck (inb x1 30) <|
  if (mm 7 x1.toNatClampNeg) = 0 then
    (ck (inb x1 30) <|
    if (mm 9 x1.toNatClampNeg) = x2 then
      (some 1)
    else
      (some 0))
  else
    (ck (inb x1 30) <|
    if (((mm 8 x1.toNatClampNeg) >>> ((x2 - 1) &&& 31)) &&& 1) = 1 then
      (some 1)
    else
      (some 0))
def fX6_queues (mm : St) (x1 : Int32) (x2 : Int32) (x3 : Int32) (x4 : Int32) : Option (St) :=
  ck (inb (mm 35 0) 2400) <|
  ck (inb (mm 35 0) 2400) <|
  ck (inb (mm 35 0) 2400) <|
  ck (inb (mm 35 0) 2400) <|
  some (iS (aS (aS (aS (aS mm 31 (mm 35 0) x1) 32 (mm 35 0) x2) 33 (mm 35 0) x3) 34 (mm 35 0) x4) 35 ((mm 35 0) + 1))
def fX6_goesOut_J163 (mm : St) (x8 : Int32) (y0 : Int32) (y1 : Int32) (y2 : Int32) : Option (Int32 × St) :=
  ck (inb y2 10) <|
  if x8 = 0 then
    (some (0, (aS mm 30 y2 (y1 + y0))))
  else
    (some (1, (aS mm 30 y2 (y1 + y0))))
def fX6_goesOut_J143 (mm : St) (x7 : Int32) (x8 : Int32) (y0 : Int32) (y1 : Int32) (y2 : Int32) : Option (Int32 × St) :=
  ck (inb y2 10) <|
  ck (inb x7 10) <|
  if x8 = 0 then
    (fX6_goesOut_J163 (aS mm 29 y2 (y1 + y0)) x8 1 (mm 30 x7.toNatClampNeg) x7)
  else
    (fX6_goesOut_J163 (aS mm 29 y2 (y1 + y0)) x8 0 (mm 30 x7.toNatClampNeg) x7)
def fX6_goesOut_J123 (mm : St) (x7 : Int32) (y0 : Int32) : Option (Int32 × St) :=
  ck (inb x7 10) <|
  if y0 = 0 then
    (fX6_goesOut_J143 mm x7 y0 0 (mm 29 x7.toNatClampNeg) x7)
  else
    (fX6_goesOut_J143 mm x7 y0 1 (mm 29 x7.toNatClampNeg) x7)
def fX6_goesOut_J95 (mm : St) (x4 : Int32) (y0 : Int32) (y1 : Int32) (y2 : Int32) : Option (Int32 × St) :=
  bd (fX6_queues mm y2 y1 y0 (x4 + 1)) <| fun q99 =>
  some (0, q99)
def fX6_goesOut_J85 (mm : St) (x3 : Int32) (x4 : Int32) (x6 : Int32) (y0 : Int32) (y1 : Int32) : Option (Int32 × St) :=
  if x6 = 0 then
    (fX6_goesOut_J95 mm x4 0 y0 y1)
  else
    (fX6_goesOut_J95 mm x4 x3 y0 y1)
def fX6_goesOut_J35 (mm : St) (x1 : Int32) (x2 : Int32) (x3 : Int32) (x4 : Int32) (x5 : Int32) (y0 : Int32) : Option (Int32 × St) :=
  ck (inb x1 30) <|
  if (mm 5 x1.toNatClampNeg) = (-1) then
    (if 12 ≤ x4 then
      (some (0, mm))
    else
      (ck (inb x1 30) <|
      if (mm 3 x1.toNatClampNeg) = (-1) then
        (some (0, mm))
      else
        (ck (inb x1 30) <|
        if y0 = 0 then
          (fX6_goesOut_J85 mm x3 x4 y0 x3 (mm 3 x1.toNatClampNeg))
        else
          (fX6_goesOut_J85 mm x3 x4 y0 x2 (mm 3 x1.toNatClampNeg)))))
  else
    (if x5 = 10 then
      (fX6_goesOut_J123 mm (mm 5 x1.toNatClampNeg) 1)
    else
      (if x5 = (mm 5 x1.toNatClampNeg) then
        (fX6_goesOut_J123 mm (mm 5 x1.toNatClampNeg) 1)
      else
        (fX6_goesOut_J123 mm (mm 5 x1.toNatClampNeg) 0)))
def fX6_goesOut_J34 (mm : St) (x1 : Int32) (x2 : Int32) (x3 : Int32) (x4 : Int32) (x5 : Int32) : Option (Int32 × St) :=
  fX6_goesOut_J35 mm x1 x2 x3 x4 x5 0
def fX6_goesOut (mm : St) (x1 : Int32) (x2 : Int32) (x3 : Int32) (x4 : Int32) (x5 : Int32) : Option (Int32 × St) :=
  bd (fX6_hasLane mm x1 x2) <| fun q3 =>
  if q3 = 0 then
    (some (0, mm))
  else
    (ck (inb x1 30) <|
    if (mm 7 x1.toNatClampNeg) = 0 then
      (fX6_goesOut_J34 mm x1 x2 x3 x4 x5)
    else
      (ck (inb x1 30) <|
      if x2 = (mm 9 x1.toNatClampNeg) then
        (fX6_goesOut_J34 mm x1 x2 x3 x4 x5)
      else
        (fX6_goesOut_J35 mm x1 x2 x3 x4 x5 1)))
def fX6_comes_S201 (k201 : (St × Int32 × Int32) → Option (Int32 × St)) (x1 : Int32) (x3 : Int32) (x4 : Int32) (x6 : Int32) (x7 : Int32) (x8 : Int32) (mm : St) (x11 : Int32) (x12 : Int32) : Option (Int32 × St) :=
  if ((5 * x8) + 5) ≤ x12 then
    (some (x11, mm))
  else
    (if x12 = x4 then
      (k201 (mm, x11 + 0, x12 + 1))
    else
      (ck (inb x12 30) <|
      if (mm 12 x12.toNatClampNeg) = 0 then
        (k201 (mm, x11 + 0, x12 + 1))
      else
        (ck (inb x1 2400) <|
        bd (fX6_goesOut mm x12 x6 x7 (mm 34 x1.toNatClampNeg) x3) <| fun q245 =>
        k201 ((q245.2), x11 + q245.1, x12 + 1))))
def fX6_comes_L201 (x1 : Int32) (x3 : Int32) (x4 : Int32) (x6 : Int32) (x7 : Int32) (x8 : Int32) (mm : St) (x11 : Int32) (x12 : Int32) : Option (Int32 × St) := loopN (fun k a => fX6_comes_S201 k x1 x3 x4 x6 x7 x8 (a.1) (a.2.1) (a.2.2)) 1000 (mm, x11, x12)
def fX6_comes_J146 (mm : St) (x1 : Int32) (x3 : Int32) (x4 : Int32) (x6 : Int32) (x7 : Int32) (x8 : Int32) : Option (Int32 × St) :=
  ck (inb x4 30) <|
  ck (inb x4 30) <|
  ck (inb x4 30) <|
  if ((aS mm 15 x4 ((mm 15 x4.toNatClampNeg) + 1)) 15 x4.toNatClampNeg) ≤ (mm 1 0) then
    (fX6_comes_L201 x1 x3 x4 x6 x7 x8 (aS mm 15 x4 ((mm 15 x4.toNatClampNeg) + 1)) 0 (5 * x8))
  else
    (bd (fX6_shuts (aS mm 15 x4 ((mm 15 x4.toNatClampNeg) + 1)) x4) <| fun q174 =>
    ck (inb x4 30) <|
    some (0, (aS q174 11 x4 ((q174 0 0) + 5))))
def fX6_comes_J99 (mm : St) (x1 : Int32) (x3 : Int32) (x4 : Int32) (x6 : Int32) (x7 : Int32) (x8 : Int32) (y0 : Int32) : Option (Int32 × St) :=
  if y0 = (-1) then
    (fX6_comes_J146 mm x1 x3 x4 x6 x7 x8)
  else
    (ck (inb y0 30) <|
    if (mm 12 y0.toNatClampNeg) = 0 then
      (fX6_comes_J146 mm x1 x3 x4 x6 x7 x8)
    else
      (if y0 = x4 then
        (some (0, mm))
      else
        (ck (inb x1 2400) <|
        bd (fX6_goesOut mm y0 x6 x7 (mm 34 x1.toNatClampNeg) x3) <| fun q142 =>
        some (q142.1, (q142.2)))))
def fX6_comes_J75 (mm : St) (x1 : Int32) (x3 : Int32) (x4 : Int32) (x6 : Int32) (x7 : Int32) (x8 : Int32) (y0 : Int32) : Option (Int32 × St) :=
  if y0 = (-1) then
    (fX6_comes_J99 mm x1 x3 x4 x6 x7 x8 (-1))
  else
    (ck (inb y0 48) <|
    fX6_comes_J99 mm x1 x3 x4 x6 x7 x8 ((5 * x8) + (mm 27 y0.toNatClampNeg)))
def fX6_comes (mm : St) (x1 : Int32) (x2 : Int32) (x3 : Int32) : Option (Int32 × St) :=
  ck (inb x1 2400) <|
  ck (inb x1 2400) <|
  bd (fX6_laneOf mm (mm 31 x1.toNatClampNeg) (mm 32 x1.toNatClampNeg)) <| fun q21 =>
  if q21 = 0 then
    (some (0, mm))
  else
    (ck (inb x1 2400) <|
    bd (fX6_hears mm (mm 31 x1.toNatClampNeg) q21 x2) <| fun q53 =>
    if x3 = 10 then
      (fX6_comes_J75 q53 x1 x3 (mm 31 x1.toNatClampNeg) q21 (mm 33 x1.toNatClampNeg) ((mm 31 x1.toNatClampNeg) / 5) (-1))
    else
      (bd (fX6_find q53 ((mm 31 x1.toNatClampNeg) / 5) q21 x3) <| fun q72 =>
      fX6_comes_J75 q53 x1 x3 (mm 31 x1.toNatClampNeg) q21 (mm 33 x1.toNatClampNeg) ((mm 31 x1.toNatClampNeg) / 5) q72))
def fX6_portOf_S4 (k4 : (Int32 × Int32) → Option (Int32)) (mm : St) (x1 : Int32) (x2 : Int32) (x3 : Int32) : Option (Int32) :=
  if 30 ≤ x3 then
    (some x2)
  else
    (ck (inb x3 30) <|
    if (mm 5 x3.toNatClampNeg) = x1 then
      (k4 (x3, x3 + 1))
    else
      (k4 (x2, x3 + 1)))
def fX6_portOf_L4 (mm : St) (x1 : Int32) (x2 : Int32) (x3 : Int32) : Option (Int32) := loopN (fun k a => fX6_portOf_S4 k mm x1 (a.1) (a.2)) 1000 (x2, x3)
def fX6_portOf (mm : St) (x1 : Int32) : Option (Int32) :=
  fX6_portOf_L4 mm x1 (-1) 0
def fX6_send_S138 (k138 : (St × Int32 × Int32) → Option (Int32 × St)) (x1 : Int32) (x2 : Int32) (mm : St) (x8 : Int32) (x9 : Int32) : Option (Int32 × St) :=
  if (mm 35 0) ≤ x9 then
    (some (x8, mm))
  else
    (if 400 ≤ x9 then
      (some (x8, mm))
    else
      (bd (fX6_comes mm x9 x1 x2) <| fun q162 =>
      k138 ((q162.2), x8 + q162.1, x9 + 1)))
def fX6_send_L138 (x1 : Int32) (x2 : Int32) (mm : St) (x8 : Int32) (x9 : Int32) : Option (Int32 × St) := loopN (fun k a => fX6_send_S138 k x1 x2 (a.1) (a.2.1) (a.2.2)) 1000 (mm, x8, x9)
def fX6_send_J109 (mm : St) (x1 : Int32) (x2 : Int32) (x3 : Int32) (x4 : Int32) (x7 : Int32) (y0 : Int32) : Option (Int32 × St) :=
  bd (fX6_fails mm y0) <| fun q109 =>
  if q109.1 = 0 then
    (bd (fX6_queues (iS (q109.2) 35 0) x7 x3 x4 0) <| fun q129 =>
    fX6_send_L138 x1 x2 q129 0 0)
  else
    (some (0, (q109.2)))
def fX6_send_J77 (mm : St) (x1 : Int32) (x2 : Int32) (x3 : Int32) (x4 : Int32) (x5 : Int32) (x6 : Int32) (y0 : Int32) : Option (Int32 × St) :=
  if x5 = 0 then
    (fX6_send_J109 mm x1 x2 x3 x4 y0 1)
  else
    (if x6 = 0 then
      (fX6_send_J109 mm x1 x2 x3 x4 y0 2)
    else
      (if y0 = (-1) then
        (fX6_send_J109 mm x1 x2 x3 x4 y0 3)
      else
        (fX6_send_J109 mm x1 x2 x3 x4 y0 0)))
def fX6_send_J61 (mm : St) (x1 : Int32) (x2 : Int32) (x3 : Int32) (x4 : Int32) (x5 : Int32) (y0 : Int32) : Option (Int32 × St) :=
  if x5 = 0 then
    (fX6_send_J77 mm x1 x2 x3 x4 x5 y0 (-1))
  else
    (bd (fX6_portOf mm x1) <| fun q70 =>
    fX6_send_J77 mm x1 x2 x3 x4 x5 y0 q70)
def fX6_send_J60 (mm : St) (x1 : Int32) (x2 : Int32) (x3 : Int32) (x4 : Int32) (x5 : Int32) : Option (Int32 × St) :=
  fX6_send_J61 mm x1 x2 x3 x4 x5 0
def fX6_send_J50 (mm : St) (x1 : Int32) (x2 : Int32) (x3 : Int32) (x4 : Int32) (x5 : Int32) (y0 : Int32) (y1 : Int32) (y2 : Int32) : Option (Int32 × St) :=
  bd (fX6_isIn y2 y1 y0) <| fun q50 =>
  if q50 = 0 then
    (fX6_send_J60 mm x1 x2 x3 x4 x5)
  else
    (fX6_send_J61 mm x1 x2 x3 x4 x5 1)
def fX6_send_J22 (mm : St) (x1 : Int32) (x2 : Int32) (x3 : Int32) (x4 : Int32) (y0 : Int32) : Option (Int32 × St) :=
  if x1 = x2 then
    (fX6_send_J60 mm x1 x2 x3 x4 y0)
  else
    (bd (fX6_isIn x3 0 3) <| fun q32 =>
    if q32 = 0 then
      (fX6_send_J60 mm x1 x2 x3 x4 y0)
    else
      (if x3 = 0 then
        (fX6_send_J50 mm x1 x2 x3 x4 y0 0 0 x4)
      else
        (fX6_send_J50 mm x1 x2 x3 x4 y0 3 0 x4)))
def fX6_send_J21 (mm : St) (x1 : Int32) (x2 : Int32) (x3 : Int32) (x4 : Int32) : Option (Int32 × St) :=
  fX6_send_J22 mm x1 x2 x3 x4 0
def fX6_send (mm : St) (x1 : Int32) (x2 : Int32) (x3 : Int32) (x4 : Int32) : Option (Int32 × St) :=
  bd (fX6_isHouse x1) <| fun q1 =>
  if q1 = 0 then
    (fX6_send_J21 mm x1 x2 x3 x4)
  else
    (bd (fX6_isIn x2 0 10) <| fun q11 =>
    if q11 = 0 then
      (fX6_send_J21 mm x1 x2 x3 x4)
    else
      (fX6_send_J22 mm x1 x2 x3 x4 1))
def fX6_holds__J26 (mm : St) (x1 : Int32) (x2 : Int32) (y0 : Int32) : Option (Int32 × St) :=
  bd (fX6_fails mm y0) <| fun q26 =>
  if q26.1 = 0 then
    (if x2 = 0 then
      (ck (inb x1 6) <|
      some ((q26.2) 16 x1.toNatClampNeg, (q26.2)))
    else
      (if x2 = 1 then
        (ck (inb x1 6) <|
        some ((q26.2) 17 x1.toNatClampNeg, (q26.2)))
      else
        (if x2 = 2 then
          (ck (inb x1 6) <|
          some ((q26.2) 18 x1.toNatClampNeg, (q26.2)))
        else
          (if x2 = 3 then
            (ck (inb x1 6) <|
            if ((q26.2) 19 x1.toNatClampNeg) = (-1) then
              (some ((-1), (q26.2)))
            else
              (ck (inb x1 6) <|
              some (((q26.2) 19 x1.toNatClampNeg) - ((q26.2) 19 x1.toNatClampNeg) / 5 * 5, (q26.2))))
          else
            (ck (inb x1 6) <|
            some ((q26.2) 24 x1.toNatClampNeg, (q26.2)))))))
  else
    (some (0, (q26.2)))
def fX6_holds_ (mm : St) (x1 : Int32) (x2 : Int32) : Option (Int32 × St) :=
  bd (fX6_isSwitch x1) <| fun q2 =>
  if q2 = 0 then
    (fX6_holds__J26 mm x1 x2 1)
  else
    (bd (fX6_isIn x2 0 4) <| fun q15 =>
    if q15 = 0 then
      (fX6_holds__J26 mm x1 x2 2)
    else
      (fX6_holds__J26 mm x1 x2 0))
def fX6_port_J27 (mm : St) (x1 : Int32) (x2 : Int32) (x3 : Int32) (y0 : Int32) : Option (Int32 × St) :=
  bd (fX6_fails mm y0) <| fun q27 =>
  if q27.1 = 0 then
    (if x3 = 0 then
      (ck (inb ((5 * x1) + x2) 30) <|
      if ((q27.2) 12 ((5 * x1) + x2).toNatClampNeg) = 0 then
        (some (0, (q27.2)))
      else
        (some (1, (q27.2))))
    else
      (if x3 = 1 then
        (ck (inb ((5 * x1) + x2) 30) <|
        some ((q27.2) 13 ((5 * x1) + x2).toNatClampNeg, (q27.2)))
      else
        (if x3 = 2 then
          (ck (inb ((5 * x1) + x2) 30) <|
          if ((q27.2) 10 ((5 * x1) + x2).toNatClampNeg) = 0 then
            (some (0, (q27.2)))
          else
            (some (1, (q27.2))))
        else
          (ck (inb ((5 * x1) + x2) 30) <|
          some ((q27.2) 15 ((5 * x1) + x2).toNatClampNeg, (q27.2))))))
  else
    (some (0, (q27.2)))
def fX6_port (mm : St) (x1 : Int32) (x2 : Int32) (x3 : Int32) : Option (Int32 × St) :=
  bd (fX6_isPort x1 x2) <| fun q3 =>
  if q3 = 0 then
    (fX6_port_J27 mm x1 x2 x3 1)
  else
    (bd (fX6_isIn x3 0 3) <| fun q16 =>
    if q16 = 0 then
      (fX6_port_J27 mm x1 x2 x3 2)
    else
      (fX6_port_J27 mm x1 x2 x3 0))
def fX6_table_J27 (mm : St) (x1 : Int32) (x2 : Int32) (x3 : Int32) (y0 : Int32) : Option (Int32 × St) :=
  bd (fX6_fails mm y0) <| fun q27 =>
  if q27.1 = 0 then
    (bd (fX6_find (q27.2) x1 x2 x3) <| fun q39 =>
    if q39 = (-1) then
      (some ((-1), (q27.2)))
    else
      (ck (inb q39 48) <|
      some ((q27.2) 27 q39.toNatClampNeg, (q27.2))))
  else
    (some (0, (q27.2)))
def fX6_table_J26 (mm : St) (x1 : Int32) (x2 : Int32) (x3 : Int32) : Option (Int32 × St) :=
  fX6_table_J27 mm x1 x2 x3 1
def fX6_table (mm : St) (x1 : Int32) (x2 : Int32) (x3 : Int32) : Option (Int32 × St) :=
  bd (fX6_isSwitch x1) <| fun q2 =>
  if q2 = 0 then
    (fX6_table_J26 mm x1 x2 x3)
  else
    (bd (fX6_isLane x2) <| fun q9 =>
    if q9 = 0 then
      (fX6_table_J26 mm x1 x2 x3)
    else
      (bd (fX6_isHouse x3) <| fun q16 =>
      if q16 = 0 then
        (fX6_table_J26 mm x1 x2 x3)
      else
        (fX6_table_J27 mm x1 x2 x3 0)))
def fX6_got_J13 (mm : St) (x1 : Int32) (x2 : Int32) (y0 : Int32) : Option (Int32 × St) :=
  bd (fX6_fails mm y0) <| fun q13 =>
  if q13.1 = 0 then
    (if x2 = 0 then
      (ck (inb x1 10) <|
      some ((q13.2) 29 x1.toNatClampNeg, (q13.2)))
    else
      (ck (inb x1 10) <|
      some ((q13.2) 30 x1.toNatClampNeg, (q13.2))))
  else
    (some (0, (q13.2)))
def fX6_got (mm : St) (x1 : Int32) (x2 : Int32) : Option (Int32 × St) :=
  bd (fX6_isHouse x1) <| fun q2 =>
  if q2 = 0 then
    (fX6_got_J13 mm x1 x2 1)
  else
    (fX6_got_J13 mm x1 x2 0)
def fX6_keeps_k27_S2 (k2 : (St × Int32) → Option (St)) (x1 : Int32) (mm : St) (x3 : Int32) : Option (St) :=
  if 48 ≤ x3 then
    (some mm)
  else
    (ck (inb x3 48) <|
    ck (inb (x1 + x3) 600) <|
    k2 ((aS mm 36 (x1 + x3) (mm 28 x3.toNatClampNeg)), x3 + 1))
def fX6_keeps_k27_L2 (x1 : Int32) (mm : St) (x3 : Int32) : Option (St) := loopN (fun k a => fX6_keeps_k27_S2 k x1 (a.1) (a.2)) 1000 (mm, x3)
def fX6_keeps_k27 (mm : St) (x1 : Int32) : Option (St) :=
  fX6_keeps_k27_L2 x1 mm 0
def fX6_back_k27_S2 (k2 : (St × Int32) → Option (St)) (x1 : Int32) (mm : St) (x3 : Int32) : Option (St) :=
  if 48 ≤ x3 then
    (some mm)
  else
    (ck (inb (x1 + x3) 600) <|
    ck (inb x3 48) <|
    k2 ((aS mm 28 x3 (mm 36 (x1 + x3).toNatClampNeg)), x3 + 1))
def fX6_back_k27_L2 (x1 : Int32) (mm : St) (x3 : Int32) : Option (St) := loopN (fun k a => fX6_back_k27_S2 k x1 (a.1) (a.2)) 1000 (mm, x3)
def fX6_back_k27 (mm : St) (x1 : Int32) : Option (St) :=
  fX6_back_k27_L2 x1 mm 0
def fX6_keeps_k26_S2 (k2 : (St × Int32) → Option (St)) (x1 : Int32) (mm : St) (x3 : Int32) : Option (St) :=
  if 48 ≤ x3 then
    (some mm)
  else
    (ck (inb x3 48) <|
    ck (inb (x1 + x3) 600) <|
    k2 ((aS mm 36 (x1 + x3) (mm 27 x3.toNatClampNeg)), x3 + 1))
def fX6_keeps_k26_L2 (x1 : Int32) (mm : St) (x3 : Int32) : Option (St) := loopN (fun k a => fX6_keeps_k26_S2 k x1 (a.1) (a.2)) 1000 (mm, x3)
def fX6_keeps_k26 (mm : St) (x1 : Int32) : Option (St) :=
  fX6_keeps_k26_L2 x1 mm 0
def fX6_back_k26_S2 (k2 : (St × Int32) → Option (St)) (x1 : Int32) (mm : St) (x3 : Int32) : Option (St) :=
  if 48 ≤ x3 then
    (some mm)
  else
    (ck (inb (x1 + x3) 600) <|
    ck (inb x3 48) <|
    k2 ((aS mm 27 x3 (mm 36 (x1 + x3).toNatClampNeg)), x3 + 1))
def fX6_back_k26_L2 (x1 : Int32) (mm : St) (x3 : Int32) : Option (St) := loopN (fun k a => fX6_back_k26_S2 k x1 (a.1) (a.2)) 1000 (mm, x3)
def fX6_back_k26 (mm : St) (x1 : Int32) : Option (St) :=
  fX6_back_k26_L2 x1 mm 0
def fX6_keeps_k25_S2 (k2 : (St × Int32) → Option (St)) (x1 : Int32) (mm : St) (x3 : Int32) : Option (St) :=
  if 48 ≤ x3 then
    (some mm)
  else
    (ck (inb x3 48) <|
    ck (inb (x1 + x3) 600) <|
    k2 ((aS mm 36 (x1 + x3) (mm 26 x3.toNatClampNeg)), x3 + 1))
def fX6_keeps_k25_L2 (x1 : Int32) (mm : St) (x3 : Int32) : Option (St) := loopN (fun k a => fX6_keeps_k25_S2 k x1 (a.1) (a.2)) 1000 (mm, x3)
def fX6_keeps_k25 (mm : St) (x1 : Int32) : Option (St) :=
  fX6_keeps_k25_L2 x1 mm 0
def fX6_back_k25_S2 (k2 : (St × Int32) → Option (St)) (x1 : Int32) (mm : St) (x3 : Int32) : Option (St) :=
  if 48 ≤ x3 then
    (some mm)
  else
    (ck (inb (x1 + x3) 600) <|
    ck (inb x3 48) <|
    k2 ((aS mm 26 x3 (mm 36 (x1 + x3).toNatClampNeg)), x3 + 1))
def fX6_back_k25_L2 (x1 : Int32) (mm : St) (x3 : Int32) : Option (St) := loopN (fun k a => fX6_back_k25_S2 k x1 (a.1) (a.2)) 1000 (mm, x3)
def fX6_back_k25 (mm : St) (x1 : Int32) : Option (St) :=
  fX6_back_k25_L2 x1 mm 0
def fX6_keeps_k24_S2 (k2 : (St × Int32) → Option (St)) (x1 : Int32) (mm : St) (x3 : Int32) : Option (St) :=
  if 48 ≤ x3 then
    (some mm)
  else
    (ck (inb x3 48) <|
    ck (inb (x1 + x3) 600) <|
    k2 ((aS mm 36 (x1 + x3) (mm 25 x3.toNatClampNeg)), x3 + 1))
def fX6_keeps_k24_L2 (x1 : Int32) (mm : St) (x3 : Int32) : Option (St) := loopN (fun k a => fX6_keeps_k24_S2 k x1 (a.1) (a.2)) 1000 (mm, x3)
def fX6_keeps_k24 (mm : St) (x1 : Int32) : Option (St) :=
  fX6_keeps_k24_L2 x1 mm 0
def fX6_back_k24_S2 (k2 : (St × Int32) → Option (St)) (x1 : Int32) (mm : St) (x3 : Int32) : Option (St) :=
  if 48 ≤ x3 then
    (some mm)
  else
    (ck (inb (x1 + x3) 600) <|
    ck (inb x3 48) <|
    k2 ((aS mm 25 x3 (mm 36 (x1 + x3).toNatClampNeg)), x3 + 1))
def fX6_back_k24_L2 (x1 : Int32) (mm : St) (x3 : Int32) : Option (St) := loopN (fun k a => fX6_back_k24_S2 k x1 (a.1) (a.2)) 1000 (mm, x3)
def fX6_back_k24 (mm : St) (x1 : Int32) : Option (St) :=
  fX6_back_k24_L2 x1 mm 0
def fX6_keeps_k23_S2 (k2 : (St × Int32) → Option (St)) (x1 : Int32) (mm : St) (x3 : Int32) : Option (St) :=
  if 6 ≤ x3 then
    (some mm)
  else
    (ck (inb x3 6) <|
    ck (inb (x1 + x3) 600) <|
    k2 ((aS mm 36 (x1 + x3) (mm 24 x3.toNatClampNeg)), x3 + 1))
def fX6_keeps_k23_L2 (x1 : Int32) (mm : St) (x3 : Int32) : Option (St) := loopN (fun k a => fX6_keeps_k23_S2 k x1 (a.1) (a.2)) 1000 (mm, x3)
def fX6_keeps_k23 (mm : St) (x1 : Int32) : Option (St) :=
  fX6_keeps_k23_L2 x1 mm 0
def fX6_back_k23_S2 (k2 : (St × Int32) → Option (St)) (x1 : Int32) (mm : St) (x3 : Int32) : Option (St) :=
  if 6 ≤ x3 then
    (some mm)
  else
    (ck (inb (x1 + x3) 600) <|
    ck (inb x3 6) <|
    k2 ((aS mm 24 x3 (mm 36 (x1 + x3).toNatClampNeg)), x3 + 1))
def fX6_back_k23_L2 (x1 : Int32) (mm : St) (x3 : Int32) : Option (St) := loopN (fun k a => fX6_back_k23_S2 k x1 (a.1) (a.2)) 1000 (mm, x3)
def fX6_back_k23 (mm : St) (x1 : Int32) : Option (St) :=
  fX6_back_k23_L2 x1 mm 0
def fX6_keeps_k14_S2 (k2 : (St × Int32) → Option (St)) (x1 : Int32) (mm : St) (x3 : Int32) : Option (St) :=
  if 30 ≤ x3 then
    (some mm)
  else
    (ck (inb x3 30) <|
    ck (inb (x1 + x3) 600) <|
    k2 ((aS mm 36 (x1 + x3) (mm 15 x3.toNatClampNeg)), x3 + 1))
def fX6_keeps_k14_L2 (x1 : Int32) (mm : St) (x3 : Int32) : Option (St) := loopN (fun k a => fX6_keeps_k14_S2 k x1 (a.1) (a.2)) 1000 (mm, x3)
def fX6_keeps_k14 (mm : St) (x1 : Int32) : Option (St) :=
  fX6_keeps_k14_L2 x1 mm 0
def fX6_back_k14_S2 (k2 : (St × Int32) → Option (St)) (x1 : Int32) (mm : St) (x3 : Int32) : Option (St) :=
  if 30 ≤ x3 then
    (some mm)
  else
    (ck (inb (x1 + x3) 600) <|
    ck (inb x3 30) <|
    k2 ((aS mm 15 x3 (mm 36 (x1 + x3).toNatClampNeg)), x3 + 1))
def fX6_back_k14_L2 (x1 : Int32) (mm : St) (x3 : Int32) : Option (St) := loopN (fun k a => fX6_back_k14_S2 k x1 (a.1) (a.2)) 1000 (mm, x3)
def fX6_back_k14 (mm : St) (x1 : Int32) : Option (St) :=
  fX6_back_k14_L2 x1 mm 0
def fX6_keeps_k10_S2 (k2 : (St × Int32) → Option (St)) (x1 : Int32) (mm : St) (x3 : Int32) : Option (St) :=
  if 30 ≤ x3 then
    (some mm)
  else
    (ck (inb x3 30) <|
    ck (inb (x1 + x3) 600) <|
    k2 ((aS mm 36 (x1 + x3) (mm 11 x3.toNatClampNeg)), x3 + 1))
def fX6_keeps_k10_L2 (x1 : Int32) (mm : St) (x3 : Int32) : Option (St) := loopN (fun k a => fX6_keeps_k10_S2 k x1 (a.1) (a.2)) 1000 (mm, x3)
def fX6_keeps_k10 (mm : St) (x1 : Int32) : Option (St) :=
  fX6_keeps_k10_L2 x1 mm 0
def fX6_back_k10_S2 (k2 : (St × Int32) → Option (St)) (x1 : Int32) (mm : St) (x3 : Int32) : Option (St) :=
  if 30 ≤ x3 then
    (some mm)
  else
    (ck (inb (x1 + x3) 600) <|
    ck (inb x3 30) <|
    k2 ((aS mm 11 x3 (mm 36 (x1 + x3).toNatClampNeg)), x3 + 1))
def fX6_back_k10_L2 (x1 : Int32) (mm : St) (x3 : Int32) : Option (St) := loopN (fun k a => fX6_back_k10_S2 k x1 (a.1) (a.2)) 1000 (mm, x3)
def fX6_back_k10 (mm : St) (x1 : Int32) : Option (St) :=
  fX6_back_k10_L2 x1 mm 0
def fX6_keeps_k13_S2 (k2 : (St × Int32) → Option (St)) (x1 : Int32) (mm : St) (x3 : Int32) : Option (St) :=
  if 30 ≤ x3 then
    (some mm)
  else
    (ck (inb x3 30) <|
    ck (inb (x1 + x3) 600) <|
    k2 ((aS mm 36 (x1 + x3) (mm 14 x3.toNatClampNeg)), x3 + 1))
def fX6_keeps_k13_L2 (x1 : Int32) (mm : St) (x3 : Int32) : Option (St) := loopN (fun k a => fX6_keeps_k13_S2 k x1 (a.1) (a.2)) 1000 (mm, x3)
def fX6_keeps_k13 (mm : St) (x1 : Int32) : Option (St) :=
  fX6_keeps_k13_L2 x1 mm 0
def fX6_back_k13_S2 (k2 : (St × Int32) → Option (St)) (x1 : Int32) (mm : St) (x3 : Int32) : Option (St) :=
  if 30 ≤ x3 then
    (some mm)
  else
    (ck (inb (x1 + x3) 600) <|
    ck (inb x3 30) <|
    k2 ((aS mm 14 x3 (mm 36 (x1 + x3).toNatClampNeg)), x3 + 1))
def fX6_back_k13_L2 (x1 : Int32) (mm : St) (x3 : Int32) : Option (St) := loopN (fun k a => fX6_back_k13_S2 k x1 (a.1) (a.2)) 1000 (mm, x3)
def fX6_back_k13 (mm : St) (x1 : Int32) : Option (St) :=
  fX6_back_k13_L2 x1 mm 0
def fX6_keeps_k12_S2 (k2 : (St × Int32) → Option (St)) (x1 : Int32) (mm : St) (x3 : Int32) : Option (St) :=
  if 30 ≤ x3 then
    (some mm)
  else
    (ck (inb x3 30) <|
    ck (inb (x1 + x3) 600) <|
    k2 ((aS mm 36 (x1 + x3) (mm 13 x3.toNatClampNeg)), x3 + 1))
def fX6_keeps_k12_L2 (x1 : Int32) (mm : St) (x3 : Int32) : Option (St) := loopN (fun k a => fX6_keeps_k12_S2 k x1 (a.1) (a.2)) 1000 (mm, x3)
def fX6_keeps_k12 (mm : St) (x1 : Int32) : Option (St) :=
  fX6_keeps_k12_L2 x1 mm 0
def fX6_back_k12_S2 (k2 : (St × Int32) → Option (St)) (x1 : Int32) (mm : St) (x3 : Int32) : Option (St) :=
  if 30 ≤ x3 then
    (some mm)
  else
    (ck (inb (x1 + x3) 600) <|
    ck (inb x3 30) <|
    k2 ((aS mm 13 x3 (mm 36 (x1 + x3).toNatClampNeg)), x3 + 1))
def fX6_back_k12_L2 (x1 : Int32) (mm : St) (x3 : Int32) : Option (St) := loopN (fun k a => fX6_back_k12_S2 k x1 (a.1) (a.2)) 1000 (mm, x3)
def fX6_back_k12 (mm : St) (x1 : Int32) : Option (St) :=
  fX6_back_k12_L2 x1 mm 0
def fX6_keeps_k18_S2 (k2 : (St × Int32) → Option (St)) (x1 : Int32) (mm : St) (x3 : Int32) : Option (St) :=
  if 6 ≤ x3 then
    (some mm)
  else
    (ck (inb x3 6) <|
    ck (inb (x1 + x3) 600) <|
    k2 ((aS mm 36 (x1 + x3) (mm 19 x3.toNatClampNeg)), x3 + 1))
def fX6_keeps_k18_L2 (x1 : Int32) (mm : St) (x3 : Int32) : Option (St) := loopN (fun k a => fX6_keeps_k18_S2 k x1 (a.1) (a.2)) 1000 (mm, x3)
def fX6_keeps_k18 (mm : St) (x1 : Int32) : Option (St) :=
  fX6_keeps_k18_L2 x1 mm 0
def fX6_back_k18_S2 (k2 : (St × Int32) → Option (St)) (x1 : Int32) (mm : St) (x3 : Int32) : Option (St) :=
  if 6 ≤ x3 then
    (some mm)
  else
    (ck (inb (x1 + x3) 600) <|
    ck (inb x3 6) <|
    k2 ((aS mm 19 x3 (mm 36 (x1 + x3).toNatClampNeg)), x3 + 1))
def fX6_back_k18_L2 (x1 : Int32) (mm : St) (x3 : Int32) : Option (St) := loopN (fun k a => fX6_back_k18_S2 k x1 (a.1) (a.2)) 1000 (mm, x3)
def fX6_back_k18 (mm : St) (x1 : Int32) : Option (St) :=
  fX6_back_k18_L2 x1 mm 0
def fX6_keeps_k17_S2 (k2 : (St × Int32) → Option (St)) (x1 : Int32) (mm : St) (x3 : Int32) : Option (St) :=
  if 6 ≤ x3 then
    (some mm)
  else
    (ck (inb x3 6) <|
    ck (inb (x1 + x3) 600) <|
    k2 ((aS mm 36 (x1 + x3) (mm 18 x3.toNatClampNeg)), x3 + 1))
def fX6_keeps_k17_L2 (x1 : Int32) (mm : St) (x3 : Int32) : Option (St) := loopN (fun k a => fX6_keeps_k17_S2 k x1 (a.1) (a.2)) 1000 (mm, x3)
def fX6_keeps_k17 (mm : St) (x1 : Int32) : Option (St) :=
  fX6_keeps_k17_L2 x1 mm 0
def fX6_back_k17_S2 (k2 : (St × Int32) → Option (St)) (x1 : Int32) (mm : St) (x3 : Int32) : Option (St) :=
  if 6 ≤ x3 then
    (some mm)
  else
    (ck (inb (x1 + x3) 600) <|
    ck (inb x3 6) <|
    k2 ((aS mm 18 x3 (mm 36 (x1 + x3).toNatClampNeg)), x3 + 1))
def fX6_back_k17_L2 (x1 : Int32) (mm : St) (x3 : Int32) : Option (St) := loopN (fun k a => fX6_back_k17_S2 k x1 (a.1) (a.2)) 1000 (mm, x3)
def fX6_back_k17 (mm : St) (x1 : Int32) : Option (St) :=
  fX6_back_k17_L2 x1 mm 0
def fX6_keeps_k16_S2 (k2 : (St × Int32) → Option (St)) (x1 : Int32) (mm : St) (x3 : Int32) : Option (St) :=
  if 6 ≤ x3 then
    (some mm)
  else
    (ck (inb x3 6) <|
    ck (inb (x1 + x3) 600) <|
    k2 ((aS mm 36 (x1 + x3) (mm 17 x3.toNatClampNeg)), x3 + 1))
def fX6_keeps_k16_L2 (x1 : Int32) (mm : St) (x3 : Int32) : Option (St) := loopN (fun k a => fX6_keeps_k16_S2 k x1 (a.1) (a.2)) 1000 (mm, x3)
def fX6_keeps_k16 (mm : St) (x1 : Int32) : Option (St) :=
  fX6_keeps_k16_L2 x1 mm 0
def fX6_back_k16_S2 (k2 : (St × Int32) → Option (St)) (x1 : Int32) (mm : St) (x3 : Int32) : Option (St) :=
  if 6 ≤ x3 then
    (some mm)
  else
    (ck (inb (x1 + x3) 600) <|
    ck (inb x3 6) <|
    k2 ((aS mm 17 x3 (mm 36 (x1 + x3).toNatClampNeg)), x3 + 1))
def fX6_back_k16_L2 (x1 : Int32) (mm : St) (x3 : Int32) : Option (St) := loopN (fun k a => fX6_back_k16_S2 k x1 (a.1) (a.2)) 1000 (mm, x3)
def fX6_back_k16 (mm : St) (x1 : Int32) : Option (St) :=
  fX6_back_k16_L2 x1 mm 0
def fX6_keeps_k15_S2 (k2 : (St × Int32) → Option (St)) (x1 : Int32) (mm : St) (x3 : Int32) : Option (St) :=
  if 6 ≤ x3 then
    (some mm)
  else
    (ck (inb x3 6) <|
    ck (inb (x1 + x3) 600) <|
    k2 ((aS mm 36 (x1 + x3) (mm 16 x3.toNatClampNeg)), x3 + 1))
def fX6_keeps_k15_L2 (x1 : Int32) (mm : St) (x3 : Int32) : Option (St) := loopN (fun k a => fX6_keeps_k15_S2 k x1 (a.1) (a.2)) 1000 (mm, x3)
def fX6_keeps_k15 (mm : St) (x1 : Int32) : Option (St) :=
  fX6_keeps_k15_L2 x1 mm 0
def fX6_back_k15_S2 (k2 : (St × Int32) → Option (St)) (x1 : Int32) (mm : St) (x3 : Int32) : Option (St) :=
  if 6 ≤ x3 then
    (some mm)
  else
    (ck (inb (x1 + x3) 600) <|
    ck (inb x3 6) <|
    k2 ((aS mm 16 x3 (mm 36 (x1 + x3).toNatClampNeg)), x3 + 1))
def fX6_back_k15_L2 (x1 : Int32) (mm : St) (x3 : Int32) : Option (St) := loopN (fun k a => fX6_back_k15_S2 k x1 (a.1) (a.2)) 1000 (mm, x3)
def fX6_back_k15 (mm : St) (x1 : Int32) : Option (St) :=
  fX6_back_k15_L2 x1 mm 0
def fX6_rows_J258 (k216 : (St × Int32) → Option (St)) (mm : St) (x1 : Int32) (x4 : Int32) : Option (St) :=
  ck (inb x4 30) <|
  ck (inb x4 60) <|
  ck (inb x4 30) <|
  ck (inb (30 + x4) 60) <|
  k216 ((aS (aS mm 37 x4 (vp_nar .boolean (mm 12 x4.toNatClampNeg))) 37 (30 + x4) (vp_nar .boolean (mm 10 x4.toNatClampNeg))), x4 + 1)
def fX6_rows_S216 (k216 : (St × Int32) → Option (St)) (x1 : Int32) (mm : St) (x4 : Int32) : Option (St) :=
  if 30 ≤ x4 then
    (some mm)
  else
    (if x1 = 0 then
      (fX6_rows_J258 k216 mm x1 x4)
    else
      (ck (inb x4 60) <|
      ck (inb x4 30) <|
      ck (inb (30 + x4) 60) <|
      ck (inb x4 30) <|
      fX6_rows_J258 k216 (aS (aS mm 12 x4 (vp_nar .boolean (mm 37 x4.toNatClampNeg))) 10 x4 (vp_nar .boolean (mm 37 (30 + x4).toNatClampNeg))) x1 x4))
def fX6_rows_L216 (x1 : Int32) (mm : St) (x4 : Int32) : Option (St) := loopN (fun k a => fX6_rows_S216 k x1 (a.1) (a.2)) 1000 (mm, x4)
def fX6_rows_J213 (mm : St) (x1 : Int32) : Option (St) :=
  fX6_rows_L216 x1 mm 0
def fX6_rows_S10 (k10 : (St × Int32 × Int32) → Option (St)) (x1 : Int32) (mm : St) (x3 : Int32) (x4 : Int32) : Option (St) :=
  if 13 ≤ x4 then
    (fX6_rows_J213 mm x1)
  else
    (if x4 = 0 then
      (if x1 = 0 then
        (bd (fX6_keeps_k15 mm x3) <| fun q199 =>
        k10 (q199, x3 + 6, x4 + 1))
      else
        (bd (fX6_back_k15 mm x3) <| fun q190 =>
        k10 (q190, x3 + 6, x4 + 1)))
    else
      (if x4 = 1 then
        (if x1 = 0 then
          (bd (fX6_keeps_k16 mm x3) <| fun q199 =>
          k10 (q199, x3 + 6, x4 + 1))
        else
          (bd (fX6_back_k16 mm x3) <| fun q190 =>
          k10 (q190, x3 + 6, x4 + 1)))
      else
        (if x4 = 2 then
          (if x1 = 0 then
            (bd (fX6_keeps_k17 mm x3) <| fun q199 =>
            k10 (q199, x3 + 6, x4 + 1))
          else
            (bd (fX6_back_k17 mm x3) <| fun q190 =>
            k10 (q190, x3 + 6, x4 + 1)))
        else
          (if x4 = 3 then
            (if x1 = 0 then
              (bd (fX6_keeps_k18 mm x3) <| fun q199 =>
              k10 (q199, x3 + 6, x4 + 1))
            else
              (bd (fX6_back_k18 mm x3) <| fun q190 =>
              k10 (q190, x3 + 6, x4 + 1)))
          else
            (if x4 = 4 then
              (if x1 = 0 then
                (bd (fX6_keeps_k12 mm x3) <| fun q199 =>
                k10 (q199, x3 + 30, x4 + 1))
              else
                (bd (fX6_back_k12 mm x3) <| fun q190 =>
                k10 (q190, x3 + 30, x4 + 1)))
            else
              (if x4 = 5 then
                (if x1 = 0 then
                  (bd (fX6_keeps_k13 mm x3) <| fun q199 =>
                  k10 (q199, x3 + 30, x4 + 1))
                else
                  (bd (fX6_back_k13 mm x3) <| fun q190 =>
                  k10 (q190, x3 + 30, x4 + 1)))
              else
                (if x4 = 6 then
                  (if x1 = 0 then
                    (bd (fX6_keeps_k10 mm x3) <| fun q199 =>
                    k10 (q199, x3 + 30, x4 + 1))
                  else
                    (bd (fX6_back_k10 mm x3) <| fun q190 =>
                    k10 (q190, x3 + 30, x4 + 1)))
                else
                  (if x4 = 7 then
                    (if x1 = 0 then
                      (bd (fX6_keeps_k14 mm x3) <| fun q199 =>
                      k10 (q199, x3 + 30, x4 + 1))
                    else
                      (bd (fX6_back_k14 mm x3) <| fun q190 =>
                      k10 (q190, x3 + 30, x4 + 1)))
                  else
                    (if x4 = 8 then
                      (if x1 = 0 then
                        (bd (fX6_keeps_k23 mm x3) <| fun q199 =>
                        k10 (q199, x3 + 6, x4 + 1))
                      else
                        (bd (fX6_back_k23 mm x3) <| fun q190 =>
                        k10 (q190, x3 + 6, x4 + 1)))
                    else
                      (if x4 = 9 then
                        (if x1 = 0 then
                          (bd (fX6_keeps_k24 mm x3) <| fun q199 =>
                          k10 (q199, x3 + 48, x4 + 1))
                        else
                          (bd (fX6_back_k24 mm x3) <| fun q190 =>
                          k10 (q190, x3 + 48, x4 + 1)))
                      else
                        (if x4 = 10 then
                          (if x1 = 0 then
                            (bd (fX6_keeps_k25 mm x3) <| fun q199 =>
                            k10 (q199, x3 + 48, x4 + 1))
                          else
                            (bd (fX6_back_k25 mm x3) <| fun q190 =>
                            k10 (q190, x3 + 48, x4 + 1)))
                        else
                          (if x4 = 11 then
                            (if x1 = 0 then
                              (bd (fX6_keeps_k26 mm x3) <| fun q199 =>
                              k10 (q199, x3 + 48, x4 + 1))
                            else
                              (bd (fX6_back_k26 mm x3) <| fun q190 =>
                              k10 (q190, x3 + 48, x4 + 1)))
                          else
                            (if x1 = 0 then
                              (bd (fX6_keeps_k27 mm x3) <| fun q199 =>
                              k10 (q199, x3 + 48, x4 + 1))
                            else
                              (bd (fX6_back_k27 mm x3) <| fun q190 =>
                              k10 (q190, x3 + 48, x4 + 1)))))))))))))))
def fX6_rows_L10 (x1 : Int32) (mm : St) (x3 : Int32) (x4 : Int32) : Option (St) := loopN (fun k a => fX6_rows_S10 k x1 (a.1) (a.2.1) (a.2.2)) 1000 (mm, x3, x4)
def fX6_rows (mm : St) (x1 : Int32) : Option (St) :=
  fX6_rows_L10 x1 mm 0 0
def fX6_isLike_k15_S5 (k5 : (Int32 × Int32) → Option (Int32)) (mm : St) (x1 : Int32) (x3 : Int32) (x4 : Int32) : Option (Int32) :=
  if 6 ≤ x4 then
    (ck (isb x3) <|
    some x3)
  else
    (if x3 = 0 then
      (k5 (0, x4 + 1))
    else
      (ck (inb x4 6) <|
      ck (inb (x1 + x4) 600) <|
      if (mm 16 x4.toNatClampNeg) = (mm 36 (x1 + x4).toNatClampNeg) then
        (k5 (1, x4 + 1))
      else
        (k5 (0, x4 + 1))))
def fX6_isLike_k15_L5 (mm : St) (x1 : Int32) (x3 : Int32) (x4 : Int32) : Option (Int32) := loopN (fun k a => fX6_isLike_k15_S5 k mm x1 (a.1) (a.2)) 1000 (x3, x4)
def fX6_isLike_k15 (mm : St) (x1 : Int32) : Option (Int32) :=
  fX6_isLike_k15_L5 mm x1 1 0
def fX6_isLike_k16_S5 (k5 : (Int32 × Int32) → Option (Int32)) (mm : St) (x1 : Int32) (x3 : Int32) (x4 : Int32) : Option (Int32) :=
  if 6 ≤ x4 then
    (ck (isb x3) <|
    some x3)
  else
    (if x3 = 0 then
      (k5 (0, x4 + 1))
    else
      (ck (inb x4 6) <|
      ck (inb (x1 + x4) 600) <|
      if (mm 17 x4.toNatClampNeg) = (mm 36 (x1 + x4).toNatClampNeg) then
        (k5 (1, x4 + 1))
      else
        (k5 (0, x4 + 1))))
def fX6_isLike_k16_L5 (mm : St) (x1 : Int32) (x3 : Int32) (x4 : Int32) : Option (Int32) := loopN (fun k a => fX6_isLike_k16_S5 k mm x1 (a.1) (a.2)) 1000 (x3, x4)
def fX6_isLike_k16 (mm : St) (x1 : Int32) : Option (Int32) :=
  fX6_isLike_k16_L5 mm x1 1 0
def fX6_isLike_k17_S5 (k5 : (Int32 × Int32) → Option (Int32)) (mm : St) (x1 : Int32) (x3 : Int32) (x4 : Int32) : Option (Int32) :=
  if 6 ≤ x4 then
    (ck (isb x3) <|
    some x3)
  else
    (if x3 = 0 then
      (k5 (0, x4 + 1))
    else
      (ck (inb x4 6) <|
      ck (inb (x1 + x4) 600) <|
      if (mm 18 x4.toNatClampNeg) = (mm 36 (x1 + x4).toNatClampNeg) then
        (k5 (1, x4 + 1))
      else
        (k5 (0, x4 + 1))))
def fX6_isLike_k17_L5 (mm : St) (x1 : Int32) (x3 : Int32) (x4 : Int32) : Option (Int32) := loopN (fun k a => fX6_isLike_k17_S5 k mm x1 (a.1) (a.2)) 1000 (x3, x4)
def fX6_isLike_k17 (mm : St) (x1 : Int32) : Option (Int32) :=
  fX6_isLike_k17_L5 mm x1 1 0
def fX6_isLike_k18_S5 (k5 : (Int32 × Int32) → Option (Int32)) (mm : St) (x1 : Int32) (x3 : Int32) (x4 : Int32) : Option (Int32) :=
  if 6 ≤ x4 then
    (ck (isb x3) <|
    some x3)
  else
    (if x3 = 0 then
      (k5 (0, x4 + 1))
    else
      (ck (inb x4 6) <|
      ck (inb (x1 + x4) 600) <|
      if (mm 19 x4.toNatClampNeg) = (mm 36 (x1 + x4).toNatClampNeg) then
        (k5 (1, x4 + 1))
      else
        (k5 (0, x4 + 1))))
def fX6_isLike_k18_L5 (mm : St) (x1 : Int32) (x3 : Int32) (x4 : Int32) : Option (Int32) := loopN (fun k a => fX6_isLike_k18_S5 k mm x1 (a.1) (a.2)) 1000 (x3, x4)
def fX6_isLike_k18 (mm : St) (x1 : Int32) : Option (Int32) :=
  fX6_isLike_k18_L5 mm x1 1 0
def fX6_isLike_k12_S5 (k5 : (Int32 × Int32) → Option (Int32)) (mm : St) (x1 : Int32) (x3 : Int32) (x4 : Int32) : Option (Int32) :=
  if 30 ≤ x4 then
    (ck (isb x3) <|
    some x3)
  else
    (if x3 = 0 then
      (k5 (0, x4 + 1))
    else
      (ck (inb x4 30) <|
      ck (inb (x1 + x4) 600) <|
      if (mm 13 x4.toNatClampNeg) = (mm 36 (x1 + x4).toNatClampNeg) then
        (k5 (1, x4 + 1))
      else
        (k5 (0, x4 + 1))))
def fX6_isLike_k12_L5 (mm : St) (x1 : Int32) (x3 : Int32) (x4 : Int32) : Option (Int32) := loopN (fun k a => fX6_isLike_k12_S5 k mm x1 (a.1) (a.2)) 1000 (x3, x4)
def fX6_isLike_k12 (mm : St) (x1 : Int32) : Option (Int32) :=
  fX6_isLike_k12_L5 mm x1 1 0
def fX6_isAtRest_J178 (mm : St) (x1 : Int32) (x2 : Int32) : Option (Int32 × St) :=
  bd (fX6_rows (iS mm 0 x1) 1) <| fun q185 =>
  ck (isb x2) <|
  some (x2, q185)
def fX6_isAtRest_J140 (k91 : (Int32 × Int32) → Option (Int32 × St)) (mm : St) (x1 : Int32) (x2 : Int32) (x3 : Int32) (y0 : Int32) : Option (Int32 × St) :=
  if x2 = 0 then
    (k91 (0, x3 + 1))
  else
    (ck (inb x3 30) <|
    ck (inb x3 60) <|
    if (mm 12 x3.toNatClampNeg) = (mm 37 x3.toNatClampNeg) then
      (if y0 = 0 then
        (k91 (1, x3 + 1))
      else
        (k91 (0, x3 + 1)))
    else
      (k91 (0, x3 + 1)))
def fX6_isAtRest_J139 (k91 : (Int32 × Int32) → Option (Int32 × St)) (mm : St) (x1 : Int32) (x2 : Int32) (x3 : Int32) : Option (Int32 × St) :=
  fX6_isAtRest_J140 k91 mm x1 x2 x3 0
def fX6_isAtRest_S91 (k91 : (Int32 × Int32) → Option (Int32 × St)) (mm : St) (x1 : Int32) (x2 : Int32) (x3 : Int32) : Option (Int32 × St) :=
  if 30 ≤ x3 then
    (fX6_isAtRest_J178 mm x1 x2)
  else
    (ck (inb x3 30) <|
    if (mm 12 x3.toNatClampNeg) = 0 then
      (ck (inb x3 30) <|
      if (mm 10 x3.toNatClampNeg) = 0 then
        (ck (inb x3 30) <|
        if (mm 13 x3.toNatClampNeg) = 1 then
          (fX6_isAtRest_J140 k91 mm x1 x2 x3 1)
        else
          (ck (inb x3 30) <|
          if (mm 13 x3.toNatClampNeg) = 2 then
            (fX6_isAtRest_J140 k91 mm x1 x2 x3 1)
          else
            (fX6_isAtRest_J139 k91 mm x1 x2 x3)))
      else
        (fX6_isAtRest_J139 k91 mm x1 x2 x3))
    else
      (fX6_isAtRest_J139 k91 mm x1 x2 x3))
def fX6_isAtRest_L91 (mm : St) (x1 : Int32) (x2 : Int32) (x3 : Int32) : Option (Int32 × St) := loopN (fun k a => fX6_isAtRest_S91 k mm x1 (a.1) (a.2)) 1000 (x2, x3)
def fX6_isAtRest_J88 (mm : St) (x1 : Int32) (y0 : Int32) : Option (Int32 × St) :=
  fX6_isAtRest_L91 mm x1 y0 0
def fX6_isAtRest_J87 (mm : St) (x1 : Int32) : Option (Int32 × St) :=
  fX6_isAtRest_J88 mm x1 0
def fX6_isAtRest (mm : St) : Option (Int32 × St) :=
  bd (fX6_rows (iS mm 40 0) 0) <| fun q7 =>
  bd (fX6_beats q7) <| fun q16 =>
  bd (fX6_isLike_k15 q16 0) <| fun q25 =>
  if q25 = 0 then
    (fX6_isAtRest_J87 q16 (q7 0 0))
  else
    (bd (fX6_isLike_k16 q16 6) <| fun q38 =>
    if q38 = 0 then
      (fX6_isAtRest_J87 q16 (q7 0 0))
    else
      (bd (fX6_isLike_k17 q16 12) <| fun q51 =>
      if q51 = 0 then
        (fX6_isAtRest_J87 q16 (q7 0 0))
      else
        (bd (fX6_isLike_k18 q16 18) <| fun q64 =>
        if q64 = 0 then
          (fX6_isAtRest_J87 q16 (q7 0 0))
        else
          (bd (fX6_isLike_k12 q16 24) <| fun q77 =>
          if q77 = 0 then
            (fX6_isAtRest_J87 q16 (q7 0 0))
          else
            (fX6_isAtRest_J88 q16 (q7 0 0) 1)))))
def fX6_found_J191 (mm : St) (x2 : Int32) : Option (Int32 × St) :=
  ck (inb x2 6) <|
  some ((1000 * x2) + (mm 38 x2.toNatClampNeg), mm)
def fX6_found_S152 (k152 : (Int32 × Int32) → Option (Int32 × St)) (mm : St) (x2 : Int32) (x3 : Int32) : Option (Int32 × St) :=
  if 6 ≤ x3 then
    (fX6_found_J191 mm x2)
  else
    (ck (inb x3 6) <|
    if 1000000 ≤ (mm 38 x3.toNatClampNeg) then
      (k152 (x2, x3 + 1))
    else
      (bd (fX6_isBetter mm x3 x2) <| fun q173 =>
      if q173 = 0 then
        (k152 (x2, x3 + 1))
      else
        (k152 (x3, x3 + 1))))
def fX6_found_L152 (mm : St) (x2 : Int32) (x3 : Int32) : Option (Int32 × St) := loopN (fun k a => fX6_found_S152 k mm (a.1) (a.2)) 1000 (x2, x3)
def fX6_found_J148 (mm : St) (x1 : Int32) : Option (Int32 × St) :=
  fX6_found_L152 mm x1 0
def fX6_found_S63 (k55 : (St × Int32) → Option (Int32 × St)) (k63 : (St × Int32) → Option (Int32 × St)) (x1 : Int32) (x2 : Int32) (mm : St) (x3 : Int32) : Option (Int32 × St) :=
  if 30 ≤ x3 then
    (k55 (mm, x2 + 1))
  else
    (bd (fX6_isPassable mm x3) <| fun q71 =>
    if q71 = 0 then
      (k63 (mm, x3 + 1))
    else
      (ck (inb (x3 / 5) 6) <|
      ck (inb x3 30) <|
      ck (inb x3 30) <|
      ck (inb ((mm 3 x3.toNatClampNeg) / 5) 6) <|
      if (mm 38 ((mm 3 x3.toNatClampNeg) / 5).toNatClampNeg) ≤ ((mm 38 (x3 / 5).toNatClampNeg) + (mm 4 x3.toNatClampNeg)) then
        (k63 (mm, x3 + 1))
      else
        (ck (inb x3 30) <|
        ck (inb (x3 / 5) 6) <|
        ck (inb x3 30) <|
        ck (inb ((mm 3 x3.toNatClampNeg) / 5) 6) <|
        k63 ((aS mm 38 ((mm 3 x3.toNatClampNeg) / 5) ((mm 38 (x3 / 5).toNatClampNeg) + (mm 4 x3.toNatClampNeg))), x3 + 1))))
def fX6_found_L63 (k55 : (St × Int32) → Option (Int32 × St)) (x1 : Int32) (x2 : Int32) (mm : St) (x3 : Int32) : Option (Int32 × St) := loopN (fun k a => fX6_found_S63 k55 k x1 x2 (a.1) (a.2)) 1000 (mm, x3)
def fX6_found_S55 (k55 : (St × Int32) → Option (Int32 × St)) (x1 : Int32) (mm : St) (x2 : Int32) : Option (Int32 × St) :=
  if 6 ≤ x2 then
    (fX6_found_J148 mm x1)
  else
    (fX6_found_L63 k55 x1 x2 mm 0)
def fX6_found_L55 (x1 : Int32) (mm : St) (x2 : Int32) : Option (Int32 × St) := loopN (fun k a => fX6_found_S55 k x1 (a.1) (a.2)) 1000 (mm, x2)
def fX6_found_J53 (mm : St) (x1 : Int32) : Option (Int32 × St) :=
  fX6_found_L55 x1 mm 0
def fX6_found_J46 (k23 : (St × Int32) → Option (Int32 × St)) (mm : St) (x1 : Int32) (x2 : Int32) (y0 : Int32) (y1 : Int32) : Option (Int32 × St) :=
  ck (inb y1 6) <|
  k23 ((aS mm 38 y1 y0), x2 + 1)
def fX6_found_S23 (k23 : (St × Int32) → Option (Int32 × St)) (x1 : Int32) (mm : St) (x2 : Int32) : Option (Int32 × St) :=
  if 6 ≤ x2 then
    (fX6_found_J53 mm x1)
  else
    (if x2 = x1 then
      (fX6_found_J46 k23 mm x1 x2 0 x2)
    else
      (fX6_found_J46 k23 mm x1 x2 1000000 x2))
def fX6_found_L23 (x1 : Int32) (mm : St) (x2 : Int32) : Option (Int32 × St) := loopN (fun k a => fX6_found_S23 k x1 (a.1) (a.2)) 1000 (mm, x2)
def fX6_found_J13 (mm : St) (x1 : Int32) (y0 : Int32) : Option (Int32 × St) :=
  bd (fX6_fails mm y0) <| fun q13 =>
  if q13.1 = 0 then
    (fX6_found_L23 x1 (q13.2) 0)
  else
    (some (0, (q13.2)))
def fX6_found (mm : St) (x1 : Int32) : Option (Int32 × St) :=
  bd (fX6_isSwitch x1) <| fun q2 =>
  if q2 = 0 then
    (fX6_found_J13 mm x1 1)
  else
    (fX6_found_J13 mm x1 0)
def fX6_walk_J239 (k87 : (Int32 × Int32 × Int32) → Option (Int32 × St)) (mm : St) (x2 : Int32) (x6 : Int32) (x9 : Int32) (y0 : Int32) : Option (Int32 × St) :=
  ck (inb x9 30) <|
  k87 (mm 3 x9.toNatClampNeg, y0, x6 + 1)
def fX6_walk_J238 (k87 : (Int32 × Int32 × Int32) → Option (Int32 × St)) (mm : St) (x2 : Int32) (x6 : Int32) (x9 : Int32) : Option (Int32 × St) :=
  fX6_walk_J239 k87 mm x2 x6 x9 0
def fX6_walk_J193 (mm : St) (x2 : Int32) (x6 : Int32) (x9 : Int32) : Option (Int32 × St) :=
  ck (inb x9 30) <|
  if (mm 5 x9.toNatClampNeg) = x2 then
    (some (x6, mm))
  else
    (some ((-1), mm))
def fX6_walk_J151 (k87 : (Int32 × Int32 × Int32) → Option (Int32 × St)) (mm : St) (x2 : Int32) (x6 : Int32) (x7 : Int32) (y0 : Int32) : Option (Int32 × St) :=
  if y0 = (-1) then
    (some ((-1), mm))
  else
    (ck (inb y0 30) <|
    if (mm 12 y0.toNatClampNeg) = 0 then
      (some ((-1), mm))
    else
      (bd (fX6_hasLane mm y0 x7) <| fun q174 =>
      if q174 = 0 then
        (some ((-1), mm))
      else
        (ck (inb y0 30) <|
        if (mm 5 y0.toNatClampNeg) = (-1) then
          (ck (inb y0 30) <|
          if (mm 7 y0.toNatClampNeg) = 0 then
            (fX6_walk_J238 k87 mm x2 x6 y0)
          else
            (ck (inb y0 30) <|
            if x7 = (mm 9 y0.toNatClampNeg) then
              (fX6_walk_J238 k87 mm x2 x6 y0)
            else
              (fX6_walk_J239 k87 mm x2 x6 y0 x7)))
        else
          (fX6_walk_J193 mm x2 x6 y0))))
def fX6_walk_J124 (k87 : (Int32 × Int32 × Int32) → Option (Int32 × St)) (mm : St) (x2 : Int32) (x4 : Int32) (x6 : Int32) (x7 : Int32) (y0 : Int32) : Option (Int32 × St) :=
  if y0 = (-1) then
    (fX6_walk_J151 k87 mm x2 x6 x7 (-1))
  else
    (ck (inb y0 48) <|
    fX6_walk_J151 k87 mm x2 x6 x7 ((x4 - (x4 - x4 / 5 * 5)) + (mm 27 y0.toNatClampNeg)))
def fX6_walk_S87 (k87 : (Int32 × Int32 × Int32) → Option (Int32 × St)) (mm : St) (x2 : Int32) (x4 : Int32) (x5 : Int32) (x6 : Int32) : Option (Int32 × St) :=
  if 12 < x6 then
    (some ((-1), mm))
  else
    (bd (fX6_laneOf mm x4 x5) <| fun q99 =>
    if q99 = 0 then
      (fX6_walk_J124 k87 mm x2 x4 x6 q99 (-1))
    else
      (bd (fX6_find mm (x4 / 5) q99 x2) <| fun q121 =>
      fX6_walk_J124 k87 mm x2 x4 x6 q99 q121))
def fX6_walk_L87 (mm : St) (x2 : Int32) (x4 : Int32) (x5 : Int32) (x6 : Int32) : Option (Int32 × St) := loopN (fun k a => fX6_walk_S87 k mm x2 (a.1) (a.2.1) (a.2.2)) 1000 (x4, x5, x6)
def fX6_walk_J73 (mm : St) (x2 : Int32) (x4 : Int32) (y0 : Int32) : Option (Int32 × St) :=
  bd (fX6_fails mm y0) <| fun q73 =>
  if q73.1 = 0 then
    (fX6_walk_L87 (q73.2) x2 x4 0 1)
  else
    (some (0, (q73.2)))
def fX6_walk_J33 (mm : St) (x1 : Int32) (x2 : Int32) (x3 : Int32) (y0 : Int32) : Option (Int32 × St) :=
  if x3 = 0 then
    (fX6_walk_J73 mm x2 y0 1)
  else
    (if x1 = x2 then
      (fX6_walk_J73 mm x2 y0 2)
    else
      (if y0 = (-1) then
        (fX6_walk_J73 mm x2 y0 3)
      else
        (bd (fX6_portOf mm x2) <| fun q61 =>
        if q61 = (-1) then
          (fX6_walk_J73 mm x2 y0 3)
        else
          (fX6_walk_J73 mm x2 y0 0))))
def fX6_walk_J19 (mm : St) (x1 : Int32) (x2 : Int32) (y0 : Int32) : Option (Int32 × St) :=
  if y0 = 0 then
    (fX6_walk_J33 mm x1 x2 y0 (-1))
  else
    (bd (fX6_portOf mm x1) <| fun q26 =>
    fX6_walk_J33 mm x1 x2 y0 q26)
def fX6_walk_J18 (mm : St) (x1 : Int32) (x2 : Int32) : Option (Int32 × St) :=
  fX6_walk_J19 mm x1 x2 0
def fX6_walk (mm : St) (x1 : Int32) (x2 : Int32) : Option (Int32 × St) :=
  bd (fX6_isHouse x1) <| fun q1 =>
  if q1 = 0 then
    (fX6_walk_J18 mm x1 x2)
  else
    (bd (fX6_isHouse x2) <| fun q8 =>
    if q8 = 0 then
      (fX6_walk_J18 mm x1 x2)
    else
      (fX6_walk_J19 mm x1 x2 1))
def fX6_init_S349 (k349 : (St × Int32) → Option (St)) (mm : St) (x1 : Int32) : Option (St) :=
  if 30 ≤ x1 then
    (some mm)
  else
    (ck (inb x1 30) <|
    ck (inb x1 30) <|
    ck (inb x1 30) <|
    ck (inb x1 30) <|
    k349 ((aS (aS (aS (aS mm 3 x1 (-1)) 5 x1 (-1)) 8 x1 7) 9 x1 1), x1 + 1))
def fX6_init_L349 (mm : St) (x1 : Int32) : Option (St) := loopN (fun k a => fX6_init_S349 k (a.1) (a.2)) 1000 (mm, x1)
def fX6_init_J347 (mm : St) : Option (St) :=
  fX6_init_L349 mm 0
def fX6_init_S313 (k313 : (St × Int32) → Option (St)) (mm : St) (x1 : Int32) : Option (St) :=
  if 6 ≤ x1 then
    (fX6_init_J347 mm)
  else
    (ck (inb x1 6) <|
    ck (inb x1 6) <|
    ck (inb x1 6) <|
    k313 ((aS (aS (aS mm 2 x1 8) 16 x1 x1) 19 x1 (-1)), x1 + 1))
def fX6_init_L313 (mm : St) (x1 : Int32) : Option (St) := loopN (fun k a => fX6_init_S313 k (a.1) (a.2)) 1000 (mm, x1)
def fX6_init : Option (St) :=
  fX6_init_L313 (iS st0 1 20) 0
def fX0_init_S22 (k22 : (St × Int32) → Option (St)) (cl : St) (x1 : Int32) : Option (St) :=
  if 30 ≤ x1 then
    (some cl)
  else
    (ck (inb x1 30) <|
    ck (inb x1 30) <|
    k22 ((aS (aS cl 0 x1 1) 1 x1 1), x1 + 1))
def fX0_init_L22 (cl : St) (x1 : Int32) : Option (St) := loopN (fun k a => fX0_init_S22 k (a.1) (a.2)) 1000 (cl, x1)
def fX0_init : Option (St) :=
  fX0_init_L22 st0 0
def fX1_init : Option (St) :=
  some st0
def fX2_init_S32 (k32 : (St × Int32) → Option (St)) (cb : St) (x1 : Int32) : Option (St) :=
  if 180 ≤ x1 then
    (some cb)
  else
    (ck (inb x1 180) <|
    k32 ((aS cb 0 x1 (-1)), x1 + 1))
def fX2_init_L32 (cb : St) (x1 : Int32) : Option (St) := loopN (fun k a => fX2_init_S32 k (a.1) (a.2)) 1000 (cb, x1)
def fX2_init : Option (St) :=
  fX2_init_L32 st0 0
def fX3_init_S123 (k123 : (St × Int32) → Option (St)) (ct : St) (x2 : Int32) : Option (St) :=
  if 6 ≤ x2 then
    (some ct)
  else
    (ck (inb x2 6) <|
    ck (inb x2 6) <|
    k123 ((aS (aS ct 1 x2 x2) 4 x2 (-1)), x2 + 1))
def fX3_init_L123 (ct : St) (x2 : Int32) : Option (St) := loopN (fun k a => fX3_init_S123 k (a.1) (a.2)) 1000 (ct, x2)
def fX3_init : Option (St) :=
  fX3_init_L123 st0 0
def fX4_init_S103 (k103 : (St × Int32) → Option (St)) (cw : St) (x1 : Int32) : Option (St) :=
  if 6 ≤ x1 then
    (some cw)
  else
    (ck (inb x1 6) <|
    k103 ((aS cw 5 x1 8), x1 + 1))
def fX4_init_L103 (cw : St) (x1 : Int32) : Option (St) := loopN (fun k a => fX4_init_S103 k (a.1) (a.2)) 1000 (cw, x1)
def fX4_init_J101 (cw : St) : Option (St) :=
  fX4_init_L103 cw 0
def fX4_init_S82 (k82 : (St × Int32) → Option (St)) (cw : St) (x1 : Int32) : Option (St) :=
  if 10 ≤ x1 then
    (fX4_init_J101 cw)
  else
    (ck (inb x1 10) <|
    k82 ((aS cw 4 x1 (-1)), x1 + 1))
def fX4_init_L82 (cw : St) (x1 : Int32) : Option (St) := loopN (fun k a => fX4_init_S82 k (a.1) (a.2)) 1000 (cw, x1)
def fX4_init_J80 (cw : St) : Option (St) :=
  fX4_init_L82 cw 0
def fX4_init_S54 (k54 : (St × Int32) → Option (St)) (cw : St) (x1 : Int32) : Option (St) :=
  if 30 ≤ x1 then
    (fX4_init_J80 cw)
  else
    (ck (inb x1 30) <|
    ck (inb x1 30) <|
    k54 ((aS (aS cw 0 x1 (-1)) 2 x1 (-1)), x1 + 1))
def fX4_init_L54 (cw : St) (x1 : Int32) : Option (St) := loopN (fun k a => fX4_init_S54 k (a.1) (a.2)) 1000 (cw, x1)
def fX4_init : Option (St) :=
  fX4_init_L54 st0 0
def fX5_init : Option (St × St × St × St × St × St × St) :=
  bd (fX4_init) <| fun r1 =>
  bd (fX3_init) <| fun r2 =>
  bd (fX3_init) <| fun r3 =>
  bd (fX0_init) <| fun r4 =>
  bd (fX2_init) <| fun r5 =>
  bd (fX1_init) <| fun r6 =>
  some ((iS st0 9 20), r1, r2, r3, r4, r5, r6)
def fL_wire (cw : St) (co : Nat → Int64) (x1 : Int32) (x2 : Int32) (x3 : Int32) (x4 : Int32) (x5 : Int32) : Option (Int32 × St × (Nat → Int64)) :=
  hxb (fX5_wire cw x1 x2 x3 x4 x5) (fun q11 =>
    some (0, (q11.2), (vp_updL co ((0 : Int32).toNatClampNeg) (Int32.toInt64 q11.1)))) (fun kx => if kx = 1 then some (1, cw, co) else if kx = 2 then some (2, cw, co) else if kx = 3 then some (3, cw, co) else none)
def fL_free (cw : St) (ct : St) (cb : St) (co : Nat → Int64) (x1 : Int32) (x2 : Int32) : Option (Int32 × St × St × St × (Nat → Int64)) :=
  hxb (fX5_free cw ct cb x1 x2) (fun q5 =>
    some (0, (q5.2.1), (q5.2.2.1), (q5.2.2.2), (vp_updL co ((0 : Int32).toNatClampNeg) (Int32.toInt64 q5.1)))) (fun kx => if kx = 1 then some (1, cw, ct, cb, co) else if kx = 3 then some (2, cw, ct, cb, co) else none)
def fL_house (cw : St) (ct : St) (co : Nat → Int64) (x1 : Int32) (x2 : Int32) (x3 : Int32) : Option (Int32 × St × St × (Nat → Int64)) :=
  hxb (fX5_house cw ct x1 x2 x3) (fun q7 =>
    some (0, (q7.2.1), (q7.2.2), (vp_updL co ((0 : Int32).toNatClampNeg) (Int32.toInt64 q7.1)))) (fun kx => if kx = 1 then some (1, cw, ct, co) else if kx = 3 then some (2, cw, ct, co) else none)
def fL_rank (cw : St) (co : Nat → Int64) (x1 : Int32) (x2 : Int32) : Option (Int32 × St × (Nat → Int64)) :=
  hxb (fX5_rank cw x1 x2) (fun q5 =>
    some (0, (q5.2), (vp_updL co ((0 : Int32).toNatClampNeg) (Int32.toInt64 q5.1)))) (fun kx => if kx = 1 then some (1, cw, co) else if kx = 2 then some (2, cw, co) else none)
def fL_shut (cw : St) (ct : St) (cb : St) (co : Nat → Int64) (x1 : Int32) (x2 : Int32) : Option (Int32 × St × St × (Nat → Int64)) :=
  hxb (fX5_shut cw ct cb x1 x2) (fun q5 =>
    if q5.1 = 0 then
      (some (0, (q5.2.1), (q5.2.2), (vp_updL co ((0 : Int32).toNatClampNeg) 0)))
    else
      (some (0, (q5.2.1), (q5.2.2), (vp_updL co ((0 : Int32).toNatClampNeg) 1)))) (fun kx => if kx = 1 then some (1, ct, cb, co) else none)
def fL_guard (cw : St) (co : Nat → Int64) (x1 : Int32) (x2 : Int32) (x3 : Int32) : Option (Int32 × St × (Nat → Int64)) :=
  hxb (fX5_guard cw x1 x2 x3) (fun q7 =>
    some (0, (q7.2), (vp_updL co ((0 : Int32).toNatClampNeg) (Int32.toInt64 q7.1)))) (fun kx => if kx = 1 then some (1, cw, co) else if kx = 2 then some (2, cw, co) else none)
def fL_plain (cl : St) (x1 : Int32) (x2 : Int32) (x3 : Int32) : Option (Int32 × St) :=
  hxb (fX5_plain cl x1 x2 x3) (fun q4 =>
    some (0, q4)) (fun kx => if kx = 1 then some (1, cl) else none)
def fL_trunk (cl : St) (x1 : Int32) (x2 : Int32) (x3 : Int32) (x4 : Int32) : Option (Int32 × St) :=
  hxb (fX5_trunk cl x1 x2 x3 x4) (fun q6 =>
    some (0, q6)) (fun kx => if kx = 1 then some (1, cl) else if kx = 2 then some (2, cl) else none)
def fL_limit (cs : St) (co : Nat → Int64) (x1 : Int32) : Option (Int32 × St × (Nat → Int64)) :=
  hxb (fX5_limit cs x1) (fun q4 =>
    some (0, (q4.2), (vp_updL co ((0 : Int32).toNatClampNeg) (Int32.toInt64 q4.1)))) (fun kx => if kx = 2 then some (1, cs, co) else none)
def fL_beat (cs : St) (cw : St) (ct : St) (cb : St) (co : Nat → Int64) (x1 : Int32) : Option (Int32 × St × St × St × (Nat → Int64)) :=
  hxb (fX5_beat cs cw ct cb x1) (fun q4 =>
    some (0, (q4.2.1), (q4.2.2.1), (q4.2.2.2), (vp_updL co ((0 : Int32).toNatClampNeg) (Int32.toInt64 q4.1)))) (fun kx => if kx = 2 then some (1, cs, ct, cb, co) else none)
def fL_send (cs : St) (cw : St) (ct : St) (cl : St) (cb : St) (cp : St) (co : Nat → Int64) (x1 : Int32) (x2 : Int32) (x3 : Int32) (x4 : Int32) : Option (Int32 × St × St × St × St × (Nat → Int64)) :=
  hxb (fX5_send cs cw ct cl cb cp x1 x2 x3 x4) (fun q9 =>
    some (0, (q9.2.1), (q9.2.2.1), (q9.2.2.2.1), (q9.2.2.2.2), (vp_updL co ((0 : Int32).toNatClampNeg) (Int32.toInt64 q9.1)))) (fun kx => if kx = 1 then some (1, cs, ct, cb, cp, co) else if kx = 2 then some (2, cs, ct, cb, cp, co) else if kx = 3 then some (3, cs, ct, cb, cp, co) else none)
def fL_holds (ct : St) (cb : St) (co : Nat → Int64) (x1 : Int32) (x2 : Int32) : Option (Int32 × (Nat → Int64)) :=
  hxb (fX5_holds ct cb x1 x2) (fun q5 =>
    some (0, (vp_updL co ((0 : Int32).toNatClampNeg) (Int32.toInt64 q5)))) (fun kx => if kx = 1 then some (1, co) else if kx = 2 then some (2, co) else none)
def fL_port (cs : St) (ct : St) (co : Nat → Int64) (x1 : Int32) (x2 : Int32) (x3 : Int32) : Option (Int32 × (Nat → Int64)) :=
  hxb (fX5_port cs ct x1 x2 x3) (fun q7 =>
    some (0, (vp_updL co ((0 : Int32).toNatClampNeg) (Int32.toInt64 q7)))) (fun kx => if kx = 1 then some (1, co) else if kx = 2 then some (2, co) else none)
def fL_table (cb : St) (co : Nat → Int64) (x1 : Int32) (x2 : Int32) (x3 : Int32) : Option (Int32 × (Nat → Int64)) :=
  hxb (fX5_table cb x1 x2 x3) (fun q7 =>
    some (0, (vp_updL co ((0 : Int32).toNatClampNeg) (Int32.toInt64 q7)))) (fun kx => if kx = 1 then some (1, co) else none)
def fL_got (cs : St) (co : Nat → Int64) (x1 : Int32) (x2 : Int32) : Option (Int32 × (Nat → Int64)) :=
  hxb (fX5_got cs x1 x2) (fun q5 =>
    some (0, (vp_updL co ((0 : Int32).toNatClampNeg) (Int32.toInt64 q5)))) (fun kx => if kx = 1 then some (1, co) else none)
def fL_found (cw : St) (ct : St) (co : Nat → Int64) (x1 : Int32) : Option (Int32 × St × (Nat → Int64)) :=
  hxb (fX5_found cw ct x1) (fun q4 =>
    some (0, (q4.2), (vp_updL co ((0 : Int32).toNatClampNeg) (Int32.toInt64 q4.1)))) (fun kx => if kx = 1 then some (1, ct, co) else none)
def fL_walk (cw : St) (ct : St) (cl : St) (cb : St) (co : Nat → Int64) (x1 : Int32) (x2 : Int32) : Option (Int32 × (Nat → Int64)) :=
  hxb (fX5_walk cw ct cl cb x1 x2) (fun q5 =>
    some (0, (vp_updL co ((0 : Int32).toNatClampNeg) (Int32.toInt64 q5)))) (fun kx => if kx = 1 then some (1, co) else if kx = 2 then some (2, co) else if kx = 3 then some (3, co) else none)
def fL_law_S23 (k23 : (St × St × St × St × St × St × St × St × (Nat → Int64) × Int32) → Option (Int32)) (L : Nat) (xs : Nat → Int32) (cs : St) (cw : St) (ct : St) (cu : St) (cl : St) (cb : St) (cp : St) (mm : St) (co : Nat → Int64) (x4 : Int32) : Option (Int32) :=
  if ((Int32.ofNat L) - 6) < x4 then
    (some 1)
  else
    (ck (inb x4 L) <|
    if ((xs x4.toNatClampNeg) &&& 31) = 0 then
      (ck (inb (x4 + 1) L) <|
      ck (inb (x4 + 2) L) <|
      ck (inb (x4 + 3) L) <|
      ck (inb (x4 + 4) L) <|
      ck (inb (x4 + 5) L) <|
      bd (fL_wire cw co (xs (x4 + 1).toNatClampNeg) (xs (x4 + 2).toNatClampNeg) (xs (x4 + 3).toNatClampNeg) (xs (x4 + 4).toNatClampNeg) (xs (x4 + 5).toNatClampNeg)) <| fun q160 =>
      ck (inb (x4 + 1) L) <|
      ck (inb (x4 + 2) L) <|
      ck (inb (x4 + 3) L) <|
      ck (inb (x4 + 4) L) <|
      ck (inb (x4 + 5) L) <|
      bd (fX6_wire mm (xs (x4 + 1).toNatClampNeg) (xs (x4 + 2).toNatClampNeg) (xs (x4 + 3).toNatClampNeg) (xs (x4 + 4).toNatClampNeg) (xs (x4 + 5).toNatClampNeg)) <| fun q196 =>
      bd (fX6_thrown (q196.2)) <| fun q202 =>
      if q202 = q160.1 then
        (if q160.1 = 0 then
          (if (lg_cmp ((q160.2.2) ((0 : Int32).toNatClampNeg)) (Int32.toInt64 q196.1)) = 0 then
            (k23 (cs, (q160.2.1), ct, cu, cl, cb, cp, (q196.2), (q160.2.2), x4 + 6))
          else
            (some 0))
        else
          (k23 (cs, (q160.2.1), ct, cu, cl, cb, cp, (q196.2), (q160.2.2), x4 + 6)))
      else
        (some 0))
    else
      if ((xs x4.toNatClampNeg) &&& 31) = 1 then
        (ck (inb (x4 + 1) L) <|
        ck (inb (x4 + 2) L) <|
        bd (fL_free cw ct cb co (xs (x4 + 1).toNatClampNeg) (xs (x4 + 2).toNatClampNeg)) <| fun q246 =>
        ck (inb (x4 + 1) L) <|
        ck (inb (x4 + 2) L) <|
        bd (fX6_free mm (xs (x4 + 1).toNatClampNeg) (xs (x4 + 2).toNatClampNeg)) <| fun q264 =>
        bd (fX6_thrown (q264.2)) <| fun q270 =>
        if q270 = q246.1 then
          (if q246.1 = 0 then
            (if (lg_cmp ((q246.2.2.2.2) ((0 : Int32).toNatClampNeg)) (Int32.toInt64 q264.1)) = 0 then
              (k23 (cs, (q246.2.1), (q246.2.2.1), cu, cl, (q246.2.2.2.1), cp, (q264.2), (q246.2.2.2.2), x4 + 6))
            else
              (some 0))
          else
            (k23 (cs, (q246.2.1), (q246.2.2.1), cu, cl, (q246.2.2.2.1), cp, (q264.2), (q246.2.2.2.2), x4 + 6)))
        else
          (some 0))
      else
        if ((xs x4.toNatClampNeg) &&& 31) = 2 then
          (ck (inb (x4 + 1) L) <|
          ck (inb (x4 + 2) L) <|
          ck (inb (x4 + 3) L) <|
          bd (fL_house cw ct co (xs (x4 + 1).toNatClampNeg) (xs (x4 + 2).toNatClampNeg) (xs (x4 + 3).toNatClampNeg)) <| fun q320 =>
          ck (inb (x4 + 1) L) <|
          ck (inb (x4 + 2) L) <|
          ck (inb (x4 + 3) L) <|
          bd (fX6_house mm (xs (x4 + 1).toNatClampNeg) (xs (x4 + 2).toNatClampNeg) (xs (x4 + 3).toNatClampNeg)) <| fun q344 =>
          bd (fX6_thrown (q344.2)) <| fun q350 =>
          if q350 = q320.1 then
            (if q320.1 = 0 then
              (if (lg_cmp ((q320.2.2.2) ((0 : Int32).toNatClampNeg)) (Int32.toInt64 q344.1)) = 0 then
                (k23 (cs, (q320.2.1), (q320.2.2.1), cu, cl, cb, cp, (q344.2), (q320.2.2.2), x4 + 6))
              else
                (some 0))
            else
              (k23 (cs, (q320.2.1), (q320.2.2.1), cu, cl, cb, cp, (q344.2), (q320.2.2.2), x4 + 6)))
          else
            (some 0))
        else
          if ((xs x4.toNatClampNeg) &&& 31) = 3 then
            (ck (inb (x4 + 1) L) <|
            ck (inb (x4 + 2) L) <|
            bd (fL_rank cw co (xs (x4 + 1).toNatClampNeg) (xs (x4 + 2).toNatClampNeg)) <| fun q394 =>
            ck (inb (x4 + 1) L) <|
            ck (inb (x4 + 2) L) <|
            bd (fX6_rank mm (xs (x4 + 1).toNatClampNeg) (xs (x4 + 2).toNatClampNeg)) <| fun q412 =>
            bd (fX6_thrown (q412.2)) <| fun q418 =>
            if q418 = q394.1 then
              (if q394.1 = 0 then
                (if (lg_cmp ((q394.2.2) ((0 : Int32).toNatClampNeg)) (Int32.toInt64 q412.1)) = 0 then
                  (k23 (cs, (q394.2.1), ct, cu, cl, cb, cp, (q412.2), (q394.2.2), x4 + 6))
                else
                  (some 0))
              else
                (k23 (cs, (q394.2.1), ct, cu, cl, cb, cp, (q412.2), (q394.2.2), x4 + 6)))
            else
              (some 0))
          else
            if ((xs x4.toNatClampNeg) &&& 31) = 4 then
              (ck (inb (x4 + 1) L) <|
              ck (inb (x4 + 2) L) <|
              bd (fL_shut cw ct cb co (xs (x4 + 1).toNatClampNeg) (xs (x4 + 2).toNatClampNeg)) <| fun q462 =>
              ck (inb (x4 + 1) L) <|
              ck (inb (x4 + 2) L) <|
              bd (fX6_shut mm (xs (x4 + 1).toNatClampNeg) (xs (x4 + 2).toNatClampNeg)) <| fun q480 =>
              bd (fX6_thrown (q480.2)) <| fun q486 =>
              if q486 = q462.1 then
                (if q462.1 = 0 then
                  (if q480.1 = 0 then
                    (if (lg_cmp ((q462.2.2.2) ((0 : Int32).toNatClampNeg)) 0) = 0 then
                      (k23 (cs, cw, (q462.2.1), cu, cl, (q462.2.2.1), cp, (q480.2), (q462.2.2.2), x4 + 6))
                    else
                      (some 0))
                  else
                    (if (lg_cmp ((q462.2.2.2) ((0 : Int32).toNatClampNeg)) 1) = 0 then
                      (k23 (cs, cw, (q462.2.1), cu, cl, (q462.2.2.1), cp, (q480.2), (q462.2.2.2), x4 + 6))
                    else
                      (some 0)))
                else
                  (k23 (cs, cw, (q462.2.1), cu, cl, (q462.2.2.1), cp, (q480.2), (q462.2.2.2), x4 + 6)))
              else
                (some 0))
            else
              if ((xs x4.toNatClampNeg) &&& 31) = 5 then
                (ck (inb (x4 + 1) L) <|
                ck (inb (x4 + 2) L) <|
                ck (inb (x4 + 3) L) <|
                bd (fL_guard cw co (xs (x4 + 1).toNatClampNeg) (xs (x4 + 2).toNatClampNeg) (xs (x4 + 3).toNatClampNeg)) <| fun q543 =>
                ck (inb (x4 + 1) L) <|
                ck (inb (x4 + 2) L) <|
                ck (inb (x4 + 3) L) <|
                bd (fX6_guard mm (xs (x4 + 1).toNatClampNeg) (xs (x4 + 2).toNatClampNeg) (xs (x4 + 3).toNatClampNeg)) <| fun q567 =>
                bd (fX6_thrown (q567.2)) <| fun q573 =>
                if q573 = q543.1 then
                  (if q543.1 = 0 then
                    (if (lg_cmp ((q543.2.2) ((0 : Int32).toNatClampNeg)) (Int32.toInt64 q567.1)) = 0 then
                      (k23 (cs, (q543.2.1), ct, cu, cl, cb, cp, (q567.2), (q543.2.2), x4 + 6))
                    else
                      (some 0))
                  else
                    (k23 (cs, (q543.2.1), ct, cu, cl, cb, cp, (q567.2), (q543.2.2), x4 + 6)))
                else
                  (some 0))
              else
                if ((xs x4.toNatClampNeg) &&& 31) = 6 then
                  (ck (inb (x4 + 1) L) <|
                  ck (inb (x4 + 2) L) <|
                  ck (inb (x4 + 3) L) <|
                  bd (fL_plain cl (xs (x4 + 1).toNatClampNeg) (xs (x4 + 2).toNatClampNeg) (xs (x4 + 3).toNatClampNeg)) <| fun q622 =>
                  ck (inb (x4 + 1) L) <|
                  ck (inb (x4 + 2) L) <|
                  ck (inb (x4 + 3) L) <|
                  bd (fX6_plain mm (xs (x4 + 1).toNatClampNeg) (xs (x4 + 2).toNatClampNeg) (xs (x4 + 3).toNatClampNeg)) <| fun q646 =>
                  bd (fX6_thrown q646) <| fun q650 =>
                  if q650 = q622.1 then
                    (k23 (cs, cw, ct, cu, (q622.2), cb, cp, q646, co, x4 + 6))
                  else
                    (some 0))
                else
                  if ((xs x4.toNatClampNeg) &&& 31) = 7 then
                    (ck (inb (x4 + 1) L) <|
                    ck (inb (x4 + 2) L) <|
                    ck (inb (x4 + 3) L) <|
                    ck (inb (x4 + 4) L) <|
                    bd (fL_trunk cl (xs (x4 + 1).toNatClampNeg) (xs (x4 + 2).toNatClampNeg) (xs (x4 + 3).toNatClampNeg) (xs (x4 + 4).toNatClampNeg)) <| fun q688 =>
                    ck (inb (x4 + 1) L) <|
                    ck (inb (x4 + 2) L) <|
                    ck (inb (x4 + 3) L) <|
                    ck (inb (x4 + 4) L) <|
                    bd (fX6_trunk mm (xs (x4 + 1).toNatClampNeg) (xs (x4 + 2).toNatClampNeg) (xs (x4 + 3).toNatClampNeg) (xs (x4 + 4).toNatClampNeg)) <| fun q718 =>
                    bd (fX6_thrown q718) <| fun q722 =>
                    if q722 = q688.1 then
                      (k23 (cs, cw, ct, cu, (q688.2), cb, cp, q718, co, x4 + 6))
                    else
                      (some 0))
                  else
                    if ((xs x4.toNatClampNeg) &&& 31) = 8 then
                      (ck (inb (x4 + 1) L) <|
                      bd (fL_limit cs co (xs (x4 + 1).toNatClampNeg)) <| fun q743 =>
                      ck (inb (x4 + 1) L) <|
                      bd (fX6_limit mm (xs (x4 + 1).toNatClampNeg)) <| fun q755 =>
                      bd (fX6_thrown (q755.2)) <| fun q761 =>
                      if q761 = q743.1 then
                        (if q743.1 = 0 then
                          (if (lg_cmp ((q743.2.2) ((0 : Int32).toNatClampNeg)) (Int32.toInt64 q755.1)) = 0 then
                            (k23 ((q743.2.1), cw, ct, cu, cl, cb, cp, (q755.2), (q743.2.2), x4 + 6))
                          else
                            (some 0))
                        else
                          (k23 ((q743.2.1), cw, ct, cu, cl, cb, cp, (q755.2), (q743.2.2), x4 + 6)))
                      else
                        (some 0))
                    else
                      if ((xs x4.toNatClampNeg) &&& 31) = 9 then
                        (ck (inb (x4 + 1) L) <|
                        bd (fL_beat cs cw ct cb co (xs (x4 + 1).toNatClampNeg)) <| fun q799 =>
                        ck (inb (x4 + 1) L) <|
                        bd (fX6_beat mm (xs (x4 + 1).toNatClampNeg)) <| fun q811 =>
                        bd (fX6_thrown (q811.2)) <| fun q817 =>
                        if q817 = q799.1 then
                          (if q799.1 = 0 then
                            (if (lg_cmp ((q799.2.2.2.2) ((0 : Int32).toNatClampNeg)) (Int32.toInt64 q811.1)) = 0 then
                              (k23 ((q799.2.1), cw, (q799.2.2.1), cu, cl, (q799.2.2.2.1), cp, (q811.2), (q799.2.2.2.2), x4 + 6))
                            else
                              (some 0))
                          else
                            (k23 ((q799.2.1), cw, (q799.2.2.1), cu, cl, (q799.2.2.2.1), cp, (q811.2), (q799.2.2.2.2), x4 + 6)))
                        else
                          (some 0))
                      else
                        if ((xs x4.toNatClampNeg) &&& 31) = 10 then
                          (ck (inb (x4 + 1) L) <|
                          ck (inb (x4 + 2) L) <|
                          ck (inb (x4 + 3) L) <|
                          ck (inb (x4 + 4) L) <|
                          bd (fL_send cs cw ct cl cb cp co (xs (x4 + 1).toNatClampNeg) (xs (x4 + 2).toNatClampNeg) (xs (x4 + 3).toNatClampNeg) (xs (x4 + 4).toNatClampNeg)) <| fun q873 =>
                          ck (inb (x4 + 1) L) <|
                          ck (inb (x4 + 2) L) <|
                          ck (inb (x4 + 3) L) <|
                          ck (inb (x4 + 4) L) <|
                          bd (fX6_send mm (xs (x4 + 1).toNatClampNeg) (xs (x4 + 2).toNatClampNeg) (xs (x4 + 3).toNatClampNeg) (xs (x4 + 4).toNatClampNeg)) <| fun q903 =>
                          bd (fX6_thrown (q903.2)) <| fun q909 =>
                          if q909 = q873.1 then
                            (if q873.1 = 0 then
                              (if (lg_cmp ((q873.2.2.2.2.2) ((0 : Int32).toNatClampNeg)) (Int32.toInt64 q903.1)) = 0 then
                                (k23 ((q873.2.1), cw, (q873.2.2.1), cu, cl, (q873.2.2.2.1), (q873.2.2.2.2.1), (q903.2), (q873.2.2.2.2.2), x4 + 6))
                              else
                                (some 0))
                            else
                              (k23 ((q873.2.1), cw, (q873.2.2.1), cu, cl, (q873.2.2.2.1), (q873.2.2.2.2.1), (q903.2), (q873.2.2.2.2.2), x4 + 6)))
                          else
                            (some 0))
                        else
                          if ((xs x4.toNatClampNeg) &&& 31) = 11 then
                            (ck (inb (x4 + 1) L) <|
                            ck (inb (x4 + 2) L) <|
                            bd (fL_holds ct cb co (xs (x4 + 1).toNatClampNeg) (xs (x4 + 2).toNatClampNeg)) <| fun q953 =>
                            ck (inb (x4 + 1) L) <|
                            ck (inb (x4 + 2) L) <|
                            bd (fX6_holds_ mm (xs (x4 + 1).toNatClampNeg) (xs (x4 + 2).toNatClampNeg)) <| fun q971 =>
                            bd (fX6_thrown (q971.2)) <| fun q977 =>
                            if q977 = q953.1 then
                              (if q953.1 = 0 then
                                (if (lg_cmp ((q953.2) ((0 : Int32).toNatClampNeg)) (Int32.toInt64 q971.1)) = 0 then
                                  (k23 (cs, cw, ct, cu, cl, cb, cp, (q971.2), (q953.2), x4 + 6))
                                else
                                  (some 0))
                              else
                                (k23 (cs, cw, ct, cu, cl, cb, cp, (q971.2), (q953.2), x4 + 6)))
                            else
                              (some 0))
                          else
                            if ((xs x4.toNatClampNeg) &&& 31) = 12 then
                              (ck (inb (x4 + 1) L) <|
                              ck (inb (x4 + 2) L) <|
                              ck (inb (x4 + 3) L) <|
                              bd (fL_port cs ct co (xs (x4 + 1).toNatClampNeg) (xs (x4 + 2).toNatClampNeg) (xs (x4 + 3).toNatClampNeg)) <| fun q1027 =>
                              ck (inb (x4 + 1) L) <|
                              ck (inb (x4 + 2) L) <|
                              ck (inb (x4 + 3) L) <|
                              bd (fX6_port mm (xs (x4 + 1).toNatClampNeg) (xs (x4 + 2).toNatClampNeg) (xs (x4 + 3).toNatClampNeg)) <| fun q1051 =>
                              bd (fX6_thrown (q1051.2)) <| fun q1057 =>
                              if q1057 = q1027.1 then
                                (if q1027.1 = 0 then
                                  (if (lg_cmp ((q1027.2) ((0 : Int32).toNatClampNeg)) (Int32.toInt64 q1051.1)) = 0 then
                                    (k23 (cs, cw, ct, cu, cl, cb, cp, (q1051.2), (q1027.2), x4 + 6))
                                  else
                                    (some 0))
                                else
                                  (k23 (cs, cw, ct, cu, cl, cb, cp, (q1051.2), (q1027.2), x4 + 6)))
                              else
                                (some 0))
                            else
                              if ((xs x4.toNatClampNeg) &&& 31) = 13 then
                                (ck (inb (x4 + 1) L) <|
                                ck (inb (x4 + 2) L) <|
                                ck (inb (x4 + 3) L) <|
                                bd (fL_table cb co (xs (x4 + 1).toNatClampNeg) (xs (x4 + 2).toNatClampNeg) (xs (x4 + 3).toNatClampNeg)) <| fun q1107 =>
                                ck (inb (x4 + 1) L) <|
                                ck (inb (x4 + 2) L) <|
                                ck (inb (x4 + 3) L) <|
                                bd (fX6_table mm (xs (x4 + 1).toNatClampNeg) (xs (x4 + 2).toNatClampNeg) (xs (x4 + 3).toNatClampNeg)) <| fun q1131 =>
                                bd (fX6_thrown (q1131.2)) <| fun q1137 =>
                                if q1137 = q1107.1 then
                                  (if q1107.1 = 0 then
                                    (if (lg_cmp ((q1107.2) ((0 : Int32).toNatClampNeg)) (Int32.toInt64 q1131.1)) = 0 then
                                      (k23 (cs, cw, ct, cu, cl, cb, cp, (q1131.2), (q1107.2), x4 + 6))
                                    else
                                      (some 0))
                                  else
                                    (k23 (cs, cw, ct, cu, cl, cb, cp, (q1131.2), (q1107.2), x4 + 6)))
                                else
                                  (some 0))
                              else
                                if ((xs x4.toNatClampNeg) &&& 31) = 14 then
                                  (ck (inb (x4 + 1) L) <|
                                  ck (inb (x4 + 2) L) <|
                                  if (xs (x4 + 2).toNatClampNeg) = 0 then
                                    (bd (fL_got cs co (xs (x4 + 1).toNatClampNeg) 0) <| fun q1189 =>
                                    ck (inb (x4 + 1) L) <|
                                    ck (inb (x4 + 2) L) <|
                                    if (xs (x4 + 2).toNatClampNeg) = 0 then
                                      (bd (fX6_got mm (xs (x4 + 1).toNatClampNeg) 0) <| fun q1215 =>
                                      bd (fX6_thrown (q1215.2)) <| fun q1221 =>
                                      if q1221 = q1189.1 then
                                        (if q1189.1 = 0 then
                                          (if (lg_cmp ((q1189.2) ((0 : Int32).toNatClampNeg)) (Int32.toInt64 q1215.1)) = 0 then
                                            (k23 (cs, cw, ct, cu, cl, cb, cp, (q1215.2), (q1189.2), x4 + 6))
                                          else
                                            (some 0))
                                        else
                                          (k23 (cs, cw, ct, cu, cl, cb, cp, (q1215.2), (q1189.2), x4 + 6)))
                                      else
                                        (some 0))
                                    else
                                      (bd (fX6_got mm (xs (x4 + 1).toNatClampNeg) 1) <| fun q1215 =>
                                      bd (fX6_thrown (q1215.2)) <| fun q1221 =>
                                      if q1221 = q1189.1 then
                                        (if q1189.1 = 0 then
                                          (if (lg_cmp ((q1189.2) ((0 : Int32).toNatClampNeg)) (Int32.toInt64 q1215.1)) = 0 then
                                            (k23 (cs, cw, ct, cu, cl, cb, cp, (q1215.2), (q1189.2), x4 + 6))
                                          else
                                            (some 0))
                                        else
                                          (k23 (cs, cw, ct, cu, cl, cb, cp, (q1215.2), (q1189.2), x4 + 6)))
                                      else
                                        (some 0)))
                                  else
                                    (bd (fL_got cs co (xs (x4 + 1).toNatClampNeg) 1) <| fun q1189 =>
                                    ck (inb (x4 + 1) L) <|
                                    ck (inb (x4 + 2) L) <|
                                    if (xs (x4 + 2).toNatClampNeg) = 0 then
                                      (bd (fX6_got mm (xs (x4 + 1).toNatClampNeg) 0) <| fun q1215 =>
                                      bd (fX6_thrown (q1215.2)) <| fun q1221 =>
                                      if q1221 = q1189.1 then
                                        (if q1189.1 = 0 then
                                          (if (lg_cmp ((q1189.2) ((0 : Int32).toNatClampNeg)) (Int32.toInt64 q1215.1)) = 0 then
                                            (k23 (cs, cw, ct, cu, cl, cb, cp, (q1215.2), (q1189.2), x4 + 6))
                                          else
                                            (some 0))
                                        else
                                          (k23 (cs, cw, ct, cu, cl, cb, cp, (q1215.2), (q1189.2), x4 + 6)))
                                      else
                                        (some 0))
                                    else
                                      (bd (fX6_got mm (xs (x4 + 1).toNatClampNeg) 1) <| fun q1215 =>
                                      bd (fX6_thrown (q1215.2)) <| fun q1221 =>
                                      if q1221 = q1189.1 then
                                        (if q1189.1 = 0 then
                                          (if (lg_cmp ((q1189.2) ((0 : Int32).toNatClampNeg)) (Int32.toInt64 q1215.1)) = 0 then
                                            (k23 (cs, cw, ct, cu, cl, cb, cp, (q1215.2), (q1189.2), x4 + 6))
                                          else
                                            (some 0))
                                        else
                                          (k23 (cs, cw, ct, cu, cl, cb, cp, (q1215.2), (q1189.2), x4 + 6)))
                                      else
                                        (some 0))))
                                else
                                  if ((xs x4.toNatClampNeg) &&& 31) = 15 then
                                    (bd (fX5_isAtRest cw ct cu) <| fun q1252 =>
                                    bd (fX6_isAtRest mm) <| fun q1256 =>
                                    if q1252.1 = q1256.1 then
                                      (k23 (cs, cw, ct, (q1252.2), cl, cb, cp, (q1256.2), co, x4 + 6))
                                    else
                                      (some 0))
                                  else
                                    if ((xs x4.toNatClampNeg) &&& 31) = 16 then
                                      (ck (inb (x4 + 1) L) <|
                                      bd (fL_found cw ct co (xs (x4 + 1).toNatClampNeg)) <| fun q1272 =>
                                      ck (inb (x4 + 1) L) <|
                                      bd (fX6_found mm (xs (x4 + 1).toNatClampNeg)) <| fun q1284 =>
                                      bd (fX6_thrown (q1284.2)) <| fun q1290 =>
                                      if q1290 = q1272.1 then
                                        (if q1272.1 = 0 then
                                          (if (lg_cmp ((q1272.2.2) ((0 : Int32).toNatClampNeg)) (Int32.toInt64 q1284.1)) = 0 then
                                            (k23 (cs, cw, (q1272.2.1), cu, cl, cb, cp, (q1284.2), (q1272.2.2), x4 + 6))
                                          else
                                            (some 0))
                                        else
                                          (k23 (cs, cw, (q1272.2.1), cu, cl, cb, cp, (q1284.2), (q1272.2.2), x4 + 6)))
                                      else
                                        (some 0))
                                    else
                                      if ((xs x4.toNatClampNeg) &&& 31) = 17 then
                                        (ck (inb (x4 + 1) L) <|
                                        ck (inb (x4 + 2) L) <|
                                        bd (fL_walk cw ct cl cb co (xs (x4 + 1).toNatClampNeg) (xs (x4 + 2).toNatClampNeg)) <| fun q1334 =>
                                        ck (inb (x4 + 1) L) <|
                                        ck (inb (x4 + 2) L) <|
                                        bd (fX6_walk mm (xs (x4 + 1).toNatClampNeg) (xs (x4 + 2).toNatClampNeg)) <| fun q1352 =>
                                        bd (fX6_thrown (q1352.2)) <| fun q1358 =>
                                        if q1358 = q1334.1 then
                                          (if q1334.1 = 0 then
                                            (if (lg_cmp ((q1334.2) ((0 : Int32).toNatClampNeg)) (Int32.toInt64 q1352.1)) = 0 then
                                              (k23 (cs, cw, ct, cu, cl, cb, cp, (q1352.2), (q1334.2), x4 + 6))
                                            else
                                              (some 0))
                                          else
                                            (k23 (cs, cw, ct, cu, cl, cb, cp, (q1352.2), (q1334.2), x4 + 6)))
                                        else
                                          (some 0))
                                      else
                                        (k23 (cs, cw, ct, cu, cl, cb, cp, mm, co, x4 + 6)))
def fL_law_L23 (L : Nat) (xs : Nat → Int32) (cs : St) (cw : St) (ct : St) (cu : St) (cl : St) (cb : St) (cp : St) (mm : St) (co : Nat → Int64) (x4 : Int32) : Option (Int32) := loopN (fun k a => fL_law_S23 k L xs (a.1) (a.2.1) (a.2.2.1) (a.2.2.2.1) (a.2.2.2.2.1) (a.2.2.2.2.2.1) (a.2.2.2.2.2.2.1) (a.2.2.2.2.2.2.2.1) (a.2.2.2.2.2.2.2.2.1) (a.2.2.2.2.2.2.2.2.2)) 1000 (cs, cw, ct, cu, cl, cb, cp, mm, co, x4)
