def fX6_thrown (mm : St) : Option (Int32) :=
  some (mm 40 0)
def fX6_fails (mm : St) (x1 : Int32) : Option (Int32 × St) :=
  if x1 ≤ 0 then
    (some (0, (iS mm 40 x1)))
  else
    (some (1, (iS mm 40 x1)))
def fX6_isIn (x0 : Int32) (x1 : Int32) (x2 : Int32) : Option (Int32) :=
  if x0 < x1 then
    (some 0)
  else
    (if x2 < x0 then
      (some 0)
    else
      (some 1))
def fX6_isSwitch (x0 : Int32) : Option (Int32) :=
  bd (fX6_isIn x0 0 5) <| fun q3 =>
  ck (isb q3) <|
  some q3
def fX6_isPort (x0 : Int32) (x1 : Int32) : Option (Int32) :=
  bd (fX6_isSwitch x0) <| fun q1 =>
  if q1 = 0 then
    (some 0)
  else
    (bd (fX6_isIn x1 0 4) <| fun q10 =>
    if q10 = 0 then
      (some 0)
    else
      (some 1))
def fX6_isHouse (x0 : Int32) : Option (Int32) :=
  bd (fX6_isIn x0 0 9) <| fun q4 =>
  ck (isb q4) <|
  some q4
def fX6_isLane (x0 : Int32) : Option (Int32) :=
  bd (fX6_isIn x0 1 3) <| fun q3 =>
  ck (isb q3) <|
  some q3
def fX6_isBetter (mm : St) (x1 : Int32) (x2 : Int32) : Option (Int32) :=
  ck (inb x1 6) <|
  ck (inb x2 6) <|
  if (mm 2 x1.toNatClampNeg) < (mm 2 x2.toNatClampNeg) then
    (some 1)
  else
    (ck (inb x1 6) <|
    ck (inb x2 6) <|
    if (mm 2 x1.toNatClampNeg) = (mm 2 x2.toNatClampNeg) then
      (if x2 ≤ x1 then
        (some 0)
      else
        (some 1))
    else
      (some 0))
def fX6_isUsed (mm : St) (x1 : Int32) : Option (Int32) :=
  ck (inb x1 30) <|
  if (mm 3 x1.toNatClampNeg) = (-1) then
    (ck (inb x1 30) <|
    if (mm 5 x1.toNatClampNeg) = (-1) then
      (some 0)
    else
      (some 1))
  else
    (some 1)
def fX6_begins (mm : St) (x1 : Int32) : Option (St) :=
  ck (inb x1 30) <|
  ck (inb x1 30) <|
  ck (inb x1 30) <|
  some (aS (aS (aS mm 12 x1 (vp_nar .boolean 0)) 13 x1 0) 14 x1 0)
def fX6_wire_S166 (k166 : (Int32 × Int32) → Option (Int32 × St)) (mm : St) (x10 : Int32) (x11 : Int32) : Option (Int32 × St) :=
  if 30 ≤ x11 then
    (some (x10 / 2, mm))
  else
    (ck (inb x11 30) <|
    if (mm 3 x11.toNatClampNeg) = (-1) then
      (k166 (x10 + 0, x11 + 1))
    else
      (k166 (x10 + 1, x11 + 1)))
def fX6_wire_L166 (mm : St) (x10 : Int32) (x11 : Int32) : Option (Int32 × St) := loopN (fun k a => fX6_wire_S166 k mm (a.1) (a.2)) 1000 (x10, x11)
def fX6_wire_J104 (mm : St) (x5 : Int32) (x8 : Int32) (x9 : Int32) (y0 : Int32) : Option (Int32 × St) :=
  bd (fX6_fails mm y0) <| fun q104 =>
  if q104.1 = 0 then
    (ck (inb x8 30) <|
    ck (inb x9 30) <|
    ck (inb x8 30) <|
    ck (inb x9 30) <|
    bd (fX6_begins (aS (aS (aS (aS (q104.2) 3 x8 x9) 3 x9 x8) 4 x8 x5) 4 x9 x5) x8) <| fun q151 =>
    bd (fX6_begins q151 x9) <| fun q157 =>
    fX6_wire_L166 q157 0 0)
  else
    (some (0, (q104.2)))
def fX6_wire_J45 (mm : St) (x1 : Int32) (x2 : Int32) (x3 : Int32) (x4 : Int32) (x5 : Int32) (x6 : Int32) (y0 : Int32) : Option (Int32 × St) :=
  if x6 = 0 then
    (fX6_wire_J104 mm x5 ((5 * x1) + x2) ((5 * x3) + x4) 1)
  else
    (if y0 = 0 then
      (fX6_wire_J104 mm x5 ((5 * x1) + x2) ((5 * x3) + x4) 2)
    else
      (bd (fX6_isUsed mm ((5 * x1) + x2)) <| fun q84 =>
      if q84 = 0 then
        (bd (fX6_isUsed mm ((5 * x3) + x4)) <| fun q93 =>
        if q93 = 0 then
          (fX6_wire_J104 mm x5 ((5 * x1) + x2) ((5 * x3) + x4) 0)
        else
          (fX6_wire_J104 mm x5 ((5 * x1) + x2) ((5 * x3) + x4) 3))
      else
        (fX6_wire_J104 mm x5 ((5 * x1) + x2) ((5 * x3) + x4) 3)))
def fX6_wire_J44 (mm : St) (x1 : Int32) (x2 : Int32) (x3 : Int32) (x4 : Int32) (x5 : Int32) (x6 : Int32) : Option (Int32 × St) :=
  fX6_wire_J45 mm x1 x2 x3 x4 x5 x6 0
def fX6_wire_J22 (mm : St) (x1 : Int32) (x2 : Int32) (x3 : Int32) (x4 : Int32) (x5 : Int32) (y0 : Int32) : Option (Int32 × St) :=
  if x1 = x3 then
    (fX6_wire_J44 mm x1 x2 x3 x4 x5 y0)
  else
    (bd (fX6_isIn x5 1 100) <| fun q34 =>
    if q34 = 0 then
      (fX6_wire_J44 mm x1 x2 x3 x4 x5 y0)
    else
      (fX6_wire_J45 mm x1 x2 x3 x4 x5 y0 1))
def fX6_wire_J21 (mm : St) (x1 : Int32) (x2 : Int32) (x3 : Int32) (x4 : Int32) (x5 : Int32) : Option (Int32 × St) :=
  fX6_wire_J22 mm x1 x2 x3 x4 x5 0
def fX6_wire (mm : St) (x1 : Int32) (x2 : Int32) (x3 : Int32) (x4 : Int32) (x5 : Int32) : Option (Int32 × St) :=
  bd (fX6_isPort x1 x2) <| fun q2 =>
  if q2 = 0 then
    (fX6_wire_J21 mm x1 x2 x3 x4 x5)
  else
    (bd (fX6_isPort x3 x4) <| fun q11 =>
    if q11 = 0 then
      (fX6_wire_J21 mm x1 x2 x3 x4 x5)
    else
      (fX6_wire_J22 mm x1 x2 x3 x4 x5 1))
def fX6_drops_S12 (k12 : (St × Int32) → Option (St)) (x1 : Int32) (mm : St) (x3 : Int32) : Option (St) :=
  ck (inb x1 6) <|
  if ((8 * x1) + (mm 24 x1.toNatClampNeg)) ≤ x3 then
    (some mm)
  else
    (ck (inb (x3 + 1) 48) <|
    ck (inb x3 48) <|
    ck (inb (x3 + 1) 48) <|
    ck (inb x3 48) <|
    ck (inb (x3 + 1) 48) <|
    ck (inb x3 48) <|
    ck (inb (x3 + 1) 48) <|
    ck (inb x3 48) <|
    k12 ((aS (aS (aS (aS mm 25 x3 (mm 25 (x3 + 1).toNatClampNeg)) 26 x3 (mm 26 (x3 + 1).toNatClampNeg)) 27 x3 (mm 27 (x3 + 1).toNatClampNeg)) 28 x3 (mm 28 (x3 + 1).toNatClampNeg)), x3 + 1))
def fX6_drops_L12 (x1 : Int32) (mm : St) (x3 : Int32) : Option (St) := loopN (fun k a => fX6_drops_S12 k x1 (a.1) (a.2)) 1000 (mm, x3)
def fX6_drops (mm : St) (x1 : Int32) (x2 : Int32) : Option (St) :=
  ck (inb x1 6) <|
  ck (inb x1 6) <|
  fX6_drops_L12 x1 (aS mm 24 x1 ((mm 24 x1.toNatClampNeg) - 1)) x2
def fX6_forgets_S18 (k18 : (St × Int32) → Option (St)) (x1 : Int32) (x2 : Int32) (mm : St) (x3 : Int32) : Option (St) :=
  if x3 < (8 * x2) then
    (some mm)
  else
    (ck (inb x3 48) <|
    if (mm 27 x3.toNatClampNeg) = (x1 - x1 / 5 * 5) then
      (bd (fX6_drops mm x2 x3) <| fun q41 =>
      k18 (q41, x3 + (-1)))
    else
      (k18 (mm, x3 + (-1))))
def fX6_forgets_L18 (x1 : Int32) (x2 : Int32) (mm : St) (x3 : Int32) : Option (St) := loopN (fun k a => fX6_forgets_S18 k x1 x2 (a.1) (a.2)) 1000 (mm, x3)
def fX6_forgets (mm : St) (x1 : Int32) : Option (St) :=
  ck (inb (x1 / 5) 6) <|
  fX6_forgets_L18 x1 (x1 / 5) mm (((8 * (x1 / 5)) + (mm 24 (x1 / 5).toNatClampNeg)) - 1)
def fX6_shuts (mm : St) (x1 : Int32) : Option (St) :=
  ck (inb x1 30) <|
  bd (fX6_begins (aS mm 10 x1 (vp_nar .boolean 1)) x1) <| fun q9 =>
  bd (fX6_forgets q9 x1) <| fun q14 =>
  some q14
def fX6_frees_J34 (mm : St) (y0 : Int32) (y1 : Int32) : Option (St) :=
  ck (inb y1 30) <|
  some (aS mm 12 y1 (vp_nar .boolean y0))
def fX6_frees (mm : St) (x1 : Int32) : Option (St) :=
  ck (inb x1 30) <|
  ck (inb x1 30) <|
  ck (inb x1 30) <|
  if (mm 5 x1.toNatClampNeg) = (-1) then
    (fX6_frees_J34 (aS (aS mm 10 x1 (vp_nar .boolean 0)) 11 x1 0) 0 x1)
  else
    (fX6_frees_J34 (aS (aS mm 10 x1 (vp_nar .boolean 0)) 11 x1 0) 1 x1)
def fX6_free_J36 (mm : St) (x4 : Int32) (y0 : Int32) : Option (Int32 × St) :=
  bd (fX6_fails mm y0) <| fun q36 =>
  if q36.1 = 0 then
    (ck (inb x4 30) <|
    ck (inb x4 30) <|
    ck (inb x4 30) <|
    ck (inb x4 30) <|
    bd (fX6_begins (aS (aS (q36.2) 5 x4 (-1)) 3 x4 (-1)) x4) <| fun q81 =>
    bd (fX6_forgets q81 x4) <| fun q87 =>
    if ((q36.2) 3 x4.toNatClampNeg) = (-1) then
      (some ((q36.2) 5 x4.toNatClampNeg, q87))
    else
      (ck (inb ((q36.2) 3 x4.toNatClampNeg) 30) <|
      bd (fX6_begins (aS q87 3 ((q36.2) 3 x4.toNatClampNeg) (-1)) ((q36.2) 3 x4.toNatClampNeg)) <| fun q107 =>
      bd (fX6_forgets q107 ((q36.2) 3 x4.toNatClampNeg)) <| fun q113 =>
      some ((q36.2) 5 x4.toNatClampNeg, q113)))
  else
    (some (0, (q36.2)))
def fX6_free (mm : St) (x1 : Int32) (x2 : Int32) : Option (Int32 × St) :=
  bd (fX6_isPort x1 x2) <| fun q2 =>
  if q2 = 0 then
    (fX6_free_J36 mm ((5 * x1) + x2) 1)
  else
    (bd (fX6_isUsed mm ((5 * x1) + x2)) <| fun q25 =>
    if q25 = 0 then
      (fX6_free_J36 mm ((5 * x1) + x2) 2)
    else
      (fX6_free_J36 mm ((5 * x1) + x2) 0))
def fX6_house_J167 (mm : St) (x7 : Int32) (y0 : Int32) (y1 : Int32) : Option (Int32 × St) :=
  ck (inb y1 30) <|
  some (x7, (aS mm 12 y1 (vp_nar .boolean y0)))
def fX6_house_J124 (mm : St) (x3 : Int32) (x5 : Int32) (x7 : Int32) (y0 : Int32) : Option (Int32 × St) :=
  bd (fX6_fails mm y0) <| fun q124 =>
  if q124.1 = 0 then
    (ck (inb x5 30) <|
    bd (fX6_begins (aS (q124.2) 5 x5 x3) x5) <| fun q143 =>
    ck (inb x5 30) <|
    if (q143 10 x5.toNatClampNeg) = 0 then
      (fX6_house_J167 q143 x7 1 x5)
    else
      (fX6_house_J167 q143 x7 0 x5))
  else
    (some (0, (q124.2)))
def fX6_house_J95 (mm : St) (x3 : Int32) (x4 : Int32) (x5 : Int32) (x6 : Int32) (x7 : Int32) : Option (Int32 × St) :=
  if x4 = 0 then
    (fX6_house_J124 mm x3 x5 x7 1)
  else
    (bd (fX6_isUsed mm x5) <| fun q108 =>
    if q108 = 0 then
      (if x6 = 0 then
        (fX6_house_J124 mm x3 x5 x7 0)
      else
        (fX6_house_J124 mm x3 x5 x7 2))
    else
      (fX6_house_J124 mm x3 x5 x7 2))
def fX6_house_J66 (k38 : (Int32 × Int32 × Int32) → Option (Int32 × St)) (mm : St) (x3 : Int32) (x4 : Int32) (x5 : Int32) (x7 : Int32) (x8 : Int32) (y0 : Int32) : Option (Int32 × St) :=
  ck (inb x8 30) <|
  if (mm 5 x8.toNatClampNeg) = (-1) then
    (k38 (y0, x7 + 0, x8 + 1))
  else
    (k38 (y0, x7 + 1, x8 + 1))
def fX6_house_S38 (k38 : (Int32 × Int32 × Int32) → Option (Int32 × St)) (mm : St) (x3 : Int32) (x4 : Int32) (x5 : Int32) (x6 : Int32) (x7 : Int32) (x8 : Int32) : Option (Int32 × St) :=
  if 30 ≤ x8 then
    (fX6_house_J95 mm x3 x4 x5 x6 x7)
  else
    (if x6 = 0 then
      (ck (inb x8 30) <|
      if (mm 5 x8.toNatClampNeg) = x3 then
        (fX6_house_J66 k38 mm x3 x4 x5 x7 x8 1)
      else
        (fX6_house_J66 k38 mm x3 x4 x5 x7 x8 0))
    else
      (fX6_house_J66 k38 mm x3 x4 x5 x7 x8 1))
def fX6_house_L38 (mm : St) (x3 : Int32) (x4 : Int32) (x5 : Int32) (x6 : Int32) (x7 : Int32) (x8 : Int32) : Option (Int32 × St) := loopN (fun k a => fX6_house_S38 k mm x3 x4 x5 (a.1) (a.2.1) (a.2.2)) 1000 (x6, x7, x8)
def fX6_house_J20 (mm : St) (x1 : Int32) (x2 : Int32) (x3 : Int32) (y0 : Int32) : Option (Int32 × St) :=
  fX6_house_L38 mm x3 y0 ((5 * x1) + x2) 0 1 0
def fX6_house_J19 (mm : St) (x1 : Int32) (x2 : Int32) (x3 : Int32) : Option (Int32 × St) :=
  fX6_house_J20 mm x1 x2 x3 0
def fX6_house (mm : St) (x1 : Int32) (x2 : Int32) (x3 : Int32) : Option (Int32 × St) :=
  bd (fX6_isPort x1 x2) <| fun q2 =>
  if q2 = 0 then
    (fX6_house_J19 mm x1 x2 x3)
  else
    (bd (fX6_isHouse x3) <| fun q9 =>
    if q9 = 0 then
      (fX6_house_J19 mm x1 x2 x3)
    else
      (fX6_house_J20 mm x1 x2 x3 1))
def fX6_rank_J27 (mm : St) (x1 : Int32) (x2 : Int32) (y0 : Int32) : Option (Int32 × St) :=
  bd (fX6_fails mm y0) <| fun q27 =>
  if q27.1 = 0 then
    (ck (inb x1 6) <|
    ck (inb x1 6) <|
    some ((q27.2) 2 x1.toNatClampNeg, (aS (q27.2) 2 x1 x2)))
  else
    (some (0, (q27.2)))
def fX6_rank (mm : St) (x1 : Int32) (x2 : Int32) : Option (Int32 × St) :=
  bd (fX6_isSwitch x1) <| fun q2 =>
  if q2 = 0 then
    (fX6_rank_J27 mm x1 x2 1)
  else
    (bd (fX6_isIn x2 0 15) <| fun q16 =>
    if q16 = 0 then
      (fX6_rank_J27 mm x1 x2 2)
    else
      (fX6_rank_J27 mm x1 x2 0))
def fX6_shut_J14 (mm : St) (x1 : Int32) (x2 : Int32) (y0 : Int32) : Option (Int32 × St) :=
  bd (fX6_fails mm y0) <| fun q14 =>
  if q14.1 = 0 then
    (ck (inb ((5 * x1) + x2) 30) <|
    if ((q14.2) 10 ((5 * x1) + x2).toNatClampNeg) = 0 then
      (bd (fX6_shuts (q14.2) ((5 * x1) + x2)) <| fun q47 =>
      ck (inb ((5 * x1) + x2) 30) <|
      ck (isb (q47 10 ((5 * x1) + x2).toNatClampNeg)) <|
      some (q47 10 ((5 * x1) + x2).toNatClampNeg, q47))
    else
      (bd (fX6_frees (q14.2) ((5 * x1) + x2)) <| fun q39 =>
      ck (inb ((5 * x1) + x2) 30) <|
      ck (isb (q39 10 ((5 * x1) + x2).toNatClampNeg)) <|
      some (q39 10 ((5 * x1) + x2).toNatClampNeg, q39)))
  else
    (some (0, (q14.2)))
def fX6_shut (mm : St) (x1 : Int32) (x2 : Int32) : Option (Int32 × St) :=
  bd (fX6_isPort x1 x2) <| fun q3 =>
  if q3 = 0 then
    (fX6_shut_J14 mm x1 x2 1)
  else
    (fX6_shut_J14 mm x1 x2 0)
def fX6_guard_J27 (mm : St) (x1 : Int32) (x2 : Int32) (x3 : Int32) (y0 : Int32) : Option (Int32 × St) :=
  bd (fX6_fails mm y0) <| fun q27 =>
  if q27.1 = 0 then
    (ck (inb ((5 * x1) + x2) 30) <|
    ck (inb ((5 * x1) + x2) 30) <|
    some ((q27.2) 6 ((5 * x1) + x2).toNatClampNeg, (aS (q27.2) 6 ((5 * x1) + x2) x3)))
  else
    (some (0, (q27.2)))
def fX6_guard (mm : St) (x1 : Int32) (x2 : Int32) (x3 : Int32) : Option (Int32 × St) :=
  bd (fX6_isPort x1 x2) <| fun q3 =>
  if q3 = 0 then
    (fX6_guard_J27 mm x1 x2 x3 1)
  else
    (bd (fX6_isIn x3 0 2) <| fun q16 =>
    if q16 = 0 then
      (fX6_guard_J27 mm x1 x2 x3 2)
    else
      (fX6_guard_J27 mm x1 x2 x3 0))
def fX6_plain_J21 (mm : St) (x1 : Int32) (x2 : Int32) (x3 : Int32) (y0 : Int32) : Option (St) :=
  bd (fX6_fails mm y0) <| fun q21 =>
  if q21.1 = 0 then
    (ck (inb ((5 * x1) + x2) 30) <|
    ck (inb ((5 * x1) + x2) 30) <|
    some (aS (aS (q21.2) 7 ((5 * x1) + x2) (vp_nar .boolean 0)) 9 ((5 * x1) + x2) x3))
  else
    (some (q21.2))
def fX6_plain_J20 (mm : St) (x1 : Int32) (x2 : Int32) (x3 : Int32) : Option (St) :=
  fX6_plain_J21 mm x1 x2 x3 1
def fX6_plain (mm : St) (x1 : Int32) (x2 : Int32) (x3 : Int32) : Option (St) :=
  bd (fX6_isPort x1 x2) <| fun q3 =>
  if q3 = 0 then
    (fX6_plain_J20 mm x1 x2 x3)
  else
    (bd (fX6_isLane x3) <| fun q10 =>
    if q10 = 0 then
      (fX6_plain_J20 mm x1 x2 x3)
    else
      (fX6_plain_J21 mm x1 x2 x3 0))
def fX6_trunk_J36 (mm : St) (x1 : Int32) (x2 : Int32) (x3 : Int32) (x4 : Int32) (y0 : Int32) : Option (St) :=
  bd (fX6_fails mm y0) <| fun q36 =>
  if q36.1 = 0 then
    (ck (inb ((5 * x1) + x2) 30) <|
    ck (inb ((5 * x1) + x2) 30) <|
    ck (inb ((5 * x1) + x2) 30) <|
    some (aS (aS (aS (q36.2) 7 ((5 * x1) + x2) (vp_nar .boolean 1)) 8 ((5 * x1) + x2) x3) 9 ((5 * x1) + x2) x4))
  else
    (some (q36.2))
def fX6_trunk (mm : St) (x1 : Int32) (x2 : Int32) (x3 : Int32) (x4 : Int32) : Option (St) :=
  bd (fX6_isPort x1 x2) <| fun q3 =>
  if q3 = 0 then
    (fX6_trunk_J36 mm x1 x2 x3 x4 1)
  else
    (bd (fX6_isLane x4) <| fun q11 =>
    if q11 = 0 then
      (fX6_trunk_J36 mm x1 x2 x3 x4 1)
    else
      (bd (fX6_isIn x3 1 7) <| fun q25 =>
      if q25 = 0 then
        (fX6_trunk_J36 mm x1 x2 x3 x4 2)
      else
        (fX6_trunk_J36 mm x1 x2 x3 x4 0)))
def fX6_limit_J16 (mm : St) (x1 : Int32) (y0 : Int32) : Option (Int32 × St) :=
  bd (fX6_fails mm y0) <| fun q16 =>
  if q16.1 = 0 then
    (some ((q16.2) 1 0, (iS (q16.2) 1 x1)))
  else
    (some (0, (q16.2)))
def fX6_limit (mm : St) (x1 : Int32) : Option (Int32 × St) :=
  bd (fX6_isIn x1 1 100) <| fun q5 =>
  if q5 = 0 then
    (fX6_limit_J16 mm x1 1)
  else
    (fX6_limit_J16 mm x1 0)
def fX6_tells_J109 (k2 : (St × Int32) → Option (St)) (mm : St) (x1 : Int32) (y0 : Int32) (y1 : Int32) : Option (St) :=
  ck (inb y1 30) <|
  k2 ((aS mm 22 y1 y0), x1 + 1)
def fX6_tells_J87 (k2 : (St × Int32) → Option (St)) (mm : St) (x1 : Int32) (x2 : Int32) (x3 : Int32) (y0 : Int32) (y1 : Int32) : Option (St) :=
  ck (inb y1 30) <|
  if x3 = 0 then
    (fX6_tells_J109 k2 (aS mm 21 y1 y0) x1 0 x1)
  else
    (ck (inb (x2 / 5) 6) <|
    fX6_tells_J109 k2 (aS mm 21 y1 y0) x1 (mm 18 (x2 / 5).toNatClampNeg) x1)
def fX6_tells_J65 (k2 : (St × Int32) → Option (St)) (mm : St) (x1 : Int32) (x2 : Int32) (x3 : Int32) (y0 : Int32) (y1 : Int32) : Option (St) :=
  ck (inb y1 30) <|
  if x3 = 0 then
    (fX6_tells_J87 k2 (aS mm 20 y1 y0) x1 x2 x3 0 x1)
  else
    (ck (inb (x2 / 5) 6) <|
    fX6_tells_J87 k2 (aS mm 20 y1 y0) x1 x2 x3 (mm 17 (x2 / 5).toNatClampNeg) x1)
def fX6_tells_J43 (k2 : (St × Int32) → Option (St)) (mm : St) (x1 : Int32) (x2 : Int32) (y0 : Int32) : Option (St) :=
  if y0 = 0 then
    (fX6_tells_J65 k2 mm x1 x2 y0 (-1) x1)
  else
    (ck (inb (x2 / 5) 6) <|
    fX6_tells_J65 k2 mm x1 x2 y0 (mm 16 (x2 / 5).toNatClampNeg) x1)
def fX6_tells_J42 (k2 : (St × Int32) → Option (St)) (mm : St) (x1 : Int32) (x2 : Int32) : Option (St) :=
  fX6_tells_J43 k2 mm x1 x2 0
def fX6_tells_S2 (k2 : (St × Int32) → Option (St)) (mm : St) (x1 : Int32) : Option (St) :=
  if 30 ≤ x1 then
    (some mm)
  else
    (ck (inb x1 30) <|
    if (mm 3 x1.toNatClampNeg) = (-1) then
      (fX6_tells_J42 k2 mm x1 (mm 3 x1.toNatClampNeg))
    else
      (ck (inb x1 30) <|
      if (mm 10 x1.toNatClampNeg) = 0 then
        (ck (inb (mm 3 x1.toNatClampNeg) 30) <|
        if (mm 10 (mm 3 x1.toNatClampNeg).toNatClampNeg) = 0 then
          (fX6_tells_J43 k2 mm x1 (mm 3 x1.toNatClampNeg) 1)
        else
          (fX6_tells_J42 k2 mm x1 (mm 3 x1.toNatClampNeg)))
      else
        (fX6_tells_J42 k2 mm x1 (mm 3 x1.toNatClampNeg))))
def fX6_tells_L2 (mm : St) (x1 : Int32) : Option (St) := loopN (fun k a => fX6_tells_S2 k (a.1) (a.2)) 1000 (mm, x1)
def fX6_tells (mm : St) : Option (St) :=
  fX6_tells_L2 mm 0
def fX6_guardsHouses_S2 (k2 : (St × Int32) → Option (St)) (mm : St) (x1 : Int32) : Option (St) :=
  if 30 ≤ x1 then
    (some mm)
  else
    (ck (inb x1 30) <|
    if (mm 6 x1.toNatClampNeg) = 2 then
      (ck (inb x1 30) <|
      if (mm 20 x1.toNatClampNeg) = (-1) then
        (k2 (mm, x1 + 1))
      else
        (ck (inb x1 30) <|
        bd (fX6_shuts (aS mm 20 x1 (-1)) x1) <| fun q37 =>
        k2 (q37, x1 + 1)))
    else
      (k2 (mm, x1 + 1)))
def fX6_guardsHouses_L2 (mm : St) (x1 : Int32) : Option (St) := loopN (fun k a => fX6_guardsHouses_S2 k (a.1) (a.2)) 1000 (mm, x1)
def fX6_guardsHouses (mm : St) : Option (St) :=
  fX6_guardsHouses_L2 mm 0
def fX6_isBetterBy_J92 (mm : St) (x6 : Int32) (x7 : Int32) : Option (Int32) :=
  if x7 ≤ x6 then
    (some 0)
  else
    (some 1)
def fX6_isBetterBy_J78 (mm : St) (x2 : Int32) (x3 : Int32) (x6 : Int32) (y0 : Int32) : Option (Int32) :=
  if x6 = y0 then
    (if x3 = (-1) then
      (fX6_isBetterBy_J92 mm x6 y0)
    else
      (ck (inb x2 30) <|
      ck (inb x3 30) <|
      if ((mm 3 x2.toNatClampNeg) / 5) = ((mm 3 x3.toNatClampNeg) / 5) then
        (if (mm 3 x3.toNatClampNeg) ≤ (mm 3 x2.toNatClampNeg) then
          (some 0)
        else
          (some 1))
      else
        (bd (fX6_isBetter mm ((mm 3 x2.toNatClampNeg) / 5) ((mm 3 x3.toNatClampNeg) / 5)) <| fun q141 =>
        ck (isb q141) <|
        some q141)))
  else
    (fX6_isBetterBy_J92 mm x6 y0)
def fX6_isBetterBy_J23 (mm : St) (x2 : Int32) (x3 : Int32) (x4 : Int32) (y0 : Int32) : Option (Int32) :=
  if x4 = y0 then
    (ck (inb x2 30) <|
    ck (inb x2 30) <|
    if x3 = (-1) then
      (fX6_isBetterBy_J78 mm x2 x3 ((mm 21 x2.toNatClampNeg) + (mm 4 x2.toNatClampNeg)) 0)
    else
      (ck (inb x3 30) <|
      ck (inb x3 30) <|
      fX6_isBetterBy_J78 mm x2 x3 ((mm 21 x2.toNatClampNeg) + (mm 4 x2.toNatClampNeg)) ((mm 21 x3.toNatClampNeg) + (mm 4 x3.toNatClampNeg))))
  else
    (bd (fX6_isBetter mm x4 y0) <| fun q37 =>
    ck (isb q37) <|
    some q37)
def fX6_isBetterBy (mm : St) (x1 : Int32) (x2 : Int32) (x3 : Int32) : Option (Int32) :=
  ck (inb x2 30) <|
  if x3 = (-1) then
    (fX6_isBetterBy_J23 mm x2 x3 (mm 20 x2.toNatClampNeg) x1)
  else
    (ck (inb x3 30) <|
    fX6_isBetterBy_J23 mm x2 x3 (mm 20 x2.toNatClampNeg) (mm 20 x3.toNatClampNeg))
def fX6_best_J73 (k7 : (Int32 × Int32) → Option (Int32)) (mm : St) (x1 : Int32) (x2 : Int32) (x3 : Int32) (x4 : Int32) (y0 : Int32) : Option (Int32) :=
  if y0 = 0 then
    (k7 (x3, x4 + 1))
  else
    (bd (fX6_isBetterBy mm x1 x4 x3) <| fun q85 =>
    if q85 = 0 then
      (k7 (x3, x4 + 1))
    else
      (k7 (x4, x4 + 1)))
def fX6_best_J72 (k7 : (Int32 × Int32) → Option (Int32)) (mm : St) (x1 : Int32) (x2 : Int32) (x3 : Int32) (x4 : Int32) : Option (Int32) :=
  fX6_best_J73 k7 mm x1 x2 x3 x4 0
def fX6_best_S7 (k7 : (Int32 × Int32) → Option (Int32)) (mm : St) (x1 : Int32) (x2 : Int32) (x3 : Int32) (x4 : Int32) : Option (Int32) :=
  if ((5 * x1) + 5) ≤ x4 then
    (some x3)
  else
    (ck (inb x4 30) <|
    if (mm 20 x4.toNatClampNeg) = (-1) then
      (fX6_best_J72 k7 mm x1 x2 x3 x4)
    else
      (ck (inb x4 30) <|
      if 7 ≤ (mm 22 x4.toNatClampNeg) then
        (fX6_best_J72 k7 mm x1 x2 x3 x4)
      else
        (if x2 = 0 then
          (ck (inb x4 30) <|
          if (mm 6 x4.toNatClampNeg) = 1 then
            (fX6_best_J72 k7 mm x1 x2 x3 x4)
          else
            (fX6_best_J73 k7 mm x1 x2 x3 x4 1))
        else
          (ck (inb x4 30) <|
          if (mm 23 x4.toNatClampNeg) = 0 then
            (fX6_best_J72 k7 mm x1 x2 x3 x4)
          else
            (fX6_best_J73 k7 mm x1 x2 x3 x4 1)))))
def fX6_best_L7 (mm : St) (x1 : Int32) (x2 : Int32) (x3 : Int32) (x4 : Int32) : Option (Int32) := loopN (fun k a => fX6_best_S7 k mm x1 x2 (a.1) (a.2)) 1000 (x3, x4)
def fX6_best (mm : St) (x1 : Int32) (x2 : Int32) : Option (Int32) :=
  fX6_best_L7 mm x1 x2 (-1) (5 * x1)
def fX6_holds_J187 (mm : St) (y0 : Int32) (y1 : Int32) : Option (St) :=
  ck (inb y1 6) <|
  some (aS mm 18 y1 y0)
def fX6_holds_J162 (mm : St) (x1 : Int32) (x4 : Int32) (y0 : Int32) (y1 : Int32) : Option (St) :=
  ck (inb y1 6) <|
  if x4 = (-1) then
    (fX6_holds_J187 (aS mm 17 y1 y0) 0 x1)
  else
    (ck (inb x4 30) <|
    fX6_holds_J187 (aS mm 17 y1 y0) ((mm 22 x4.toNatClampNeg) + 1) x1)
def fX6_holds_J131 (mm : St) (x1 : Int32) (x4 : Int32) (y0 : Int32) (y1 : Int32) : Option (St) :=
  ck (inb y1 6) <|
  if x4 = (-1) then
    (fX6_holds_J162 (aS mm 16 y1 y0) x1 x4 0 x1)
  else
    (ck (inb x4 30) <|
    ck (inb x4 30) <|
    fX6_holds_J162 (aS mm 16 y1 y0) x1 x4 ((mm 21 x4.toNatClampNeg) + (mm 4 x4.toNatClampNeg)) x1)
def fX6_holds_J93 (mm : St) (x1 : Int32) : Option (St) :=
  bd (fX6_best mm x1 1) <| fun q96 =>
  ck (inb x1 6) <|
  if q96 = (-1) then
    (fX6_holds_J131 (aS mm 19 x1 q96) x1 q96 x1 x1)
  else
    (ck (inb q96 30) <|
    fX6_holds_J131 (aS mm 19 x1 q96) x1 q96 (mm 20 q96.toNatClampNeg) x1)
def fX6_holds_J86 (k28 : (St × Int32) → Option (St)) (mm : St) (x1 : Int32) (x3 : Int32) (x4 : Int32) (y0 : Int32) (y1 : Int32) : Option (St) :=
  ck (inb y1 30) <|
  k28 ((aS mm 23 y1 (vp_nar .boolean y0)), x4 + 1)
def fX6_holds_J85 (k28 : (St × Int32) → Option (St)) (mm : St) (x1 : Int32) (x3 : Int32) (x4 : Int32) (y0 : Int32) : Option (St) :=
  fX6_holds_J86 k28 mm x1 x3 x4 0 y0
def fX6_holds_S28 (k28 : (St × Int32) → Option (St)) (x1 : Int32) (x3 : Int32) (mm : St) (x4 : Int32) : Option (St) :=
  if ((5 * x1) + 5) ≤ x4 then
    (fX6_holds_J93 mm x1)
  else
    (ck (inb x4 30) <|
    if (mm 20 x4.toNatClampNeg) = (-1) then
      (fX6_holds_J85 k28 mm x1 x3 x4 x4)
    else
      (ck (inb x4 30) <|
      if (mm 6 x4.toNatClampNeg) = 1 then
        (ck (inb x4 30) <|
        bd (fX6_isBetter mm (mm 20 x4.toNatClampNeg) x3) <| fun q75 =>
        if q75 = 0 then
          (fX6_holds_J86 k28 mm x1 x3 x4 1 x4)
        else
          (fX6_holds_J85 k28 mm x1 x3 x4 x4))
      else
        (fX6_holds_J86 k28 mm x1 x3 x4 1 x4)))
def fX6_holds_L28 (x1 : Int32) (x3 : Int32) (mm : St) (x4 : Int32) : Option (St) := loopN (fun k a => fX6_holds_S28 k x1 x3 (a.1) (a.2)) 1000 (mm, x4)
def fX6_holds_J22 (mm : St) (x1 : Int32) (y0 : Int32) : Option (St) :=
  fX6_holds_L28 x1 y0 mm (5 * x1)
def fX6_holds (mm : St) (x1 : Int32) : Option (St) :=
  bd (fX6_best mm x1 0) <| fun q3 =>
  if q3 = (-1) then
    (fX6_holds_J22 mm x1 x1)
  else
    (ck (inb q3 30) <|
    fX6_holds_J22 mm x1 (mm 20 q3.toNatClampNeg))
def fX6_isAhead (mm : St) (x1 : Int32) (x2 : Int32) : Option (Int32) :=
  ck (inb x1 6) <|
  ck (inb x2 30) <|
  if (mm 16 x1.toNatClampNeg) = (mm 20 x2.toNatClampNeg) then
    (ck (inb x1 6) <|
    ck (inb x2 30) <|
    if (mm 17 x1.toNatClampNeg) = (mm 21 x2.toNatClampNeg) then
      (ck (inb x2 30) <|
      bd (fX6_isBetter mm x1 ((mm 3 x2.toNatClampNeg) / 5)) <| fun q80 =>
      ck (isb q80) <|
      some q80)
    else
      (ck (inb x1 6) <|
      ck (inb x2 30) <|
      if (mm 21 x2.toNatClampNeg) ≤ (mm 17 x1.toNatClampNeg) then
        (some 0)
      else
        (some 1)))
  else
    (ck (inb x1 6) <|
    ck (inb x2 30) <|
    bd (fX6_isBetter mm (mm 16 x1.toNatClampNeg) (mm 20 x2.toNatClampNeg)) <| fun q28 =>
    ck (isb q28) <|
    some q28)
def fX6_roleOf_J46 (mm : St) (x1 : Int32) (x2 : Int32) : Option (Int32) :=
  ck (inb x2 6) <|
  if (mm 19 x2.toNatClampNeg) = x1 then
    (some 1)
  else
    (ck (inb x1 30) <|
    if (mm 20 x1.toNatClampNeg) = (-1) then
      (some 2)
    else
      (bd (fX6_isAhead mm x2 x1) <| fun q73 =>
      if q73 = 0 then
        (some 3)
      else
        (some 2)))
def fX6_roleOf (mm : St) (x1 : Int32) : Option (Int32) :=
  ck (inb x1 30) <|
  if (mm 3 x1.toNatClampNeg) = (-1) then
    (some 0)
  else
    (ck (inb x1 30) <|
    if (mm 10 x1.toNatClampNeg) = 0 then
      (ck (inb x1 30) <|
      if (mm 20 x1.toNatClampNeg) = (-1) then
        (fX6_roleOf_J46 mm x1 (x1 / 5))
      else
        (ck (inb x1 30) <|
        if (mm 23 x1.toNatClampNeg) = 0 then
          (some 3)
        else
          (fX6_roleOf_J46 mm x1 (x1 / 5))))
    else
      (some 0))
def fX6_isPassable (mm : St) (x1 : Int32) : Option (Int32) :=
  ck (inb x1 30) <|
  if (mm 3 x1.toNatClampNeg) = (-1) then
    (some 0)
  else
    (ck (inb x1 30) <|
    if (mm 10 x1.toNatClampNeg) = 0 then
      (ck (inb x1 30) <|
      ck (inb (mm 3 x1.toNatClampNeg) 30) <|
      if (mm 10 (mm 3 x1.toNatClampNeg).toNatClampNeg) = 0 then
        (some 1)
      else
        (some 0))
    else
      (some 0))
def fX6_spreads_S10 (k2 : (St × Int32) → Option (St)) (k10 : (St × Int32) → Option (St)) (x1 : Int32) (mm : St) (x2 : Int32) : Option (St) :=
  if 30 ≤ x2 then
    (k2 (mm, x1 + 1))
  else
    (bd (fX6_isPassable mm x2) <| fun q18 =>
    if q18 = 0 then
      (k10 (mm, x2 + 1))
    else
      (ck (inb (x2 / 5) 6) <|
      if (mm 39 (x2 / 5).toNatClampNeg) = 0 then
        (k10 (mm, x2 + 1))
      else
        (ck (inb x2 30) <|
        ck (inb ((mm 3 x2.toNatClampNeg) / 5) 6) <|
        k10 ((aS mm 39 ((mm 3 x2.toNatClampNeg) / 5) (vp_nar .boolean 1)), x2 + 1))))
def fX6_spreads_L10 (k2 : (St × Int32) → Option (St)) (x1 : Int32) (mm : St) (x2 : Int32) : Option (St) := loopN (fun k a => fX6_spreads_S10 k2 k x1 (a.1) (a.2)) 1000 (mm, x2)
def fX6_spreads_S2 (k2 : (St × Int32) → Option (St)) (mm : St) (x1 : Int32) : Option (St) :=
  if 6 ≤ x1 then
    (some mm)
  else
    (fX6_spreads_L10 k2 x1 mm 0)
def fX6_spreads_L2 (mm : St) (x1 : Int32) : Option (St) := loopN (fun k a => fX6_spreads_S2 k (a.1) (a.2)) 1000 (mm, x1)
def fX6_spreads (mm : St) : Option (St) :=
  fX6_spreads_L2 mm 0
def fX6_opens_J219 (k189 : (St × Int32) → Option (St)) (mm : St) (x1 : Int32) (y0 : Int32) (y1 : Int32) : Option (St) :=
  ck (inb y1 6) <|
  k189 ((aS mm 24 y1 y0), x1 + 1)
def fX6_opens_S189 (k189 : (St × Int32) → Option (St)) (mm : St) (x1 : Int32) : Option (St) :=
  if 6 ≤ x1 then
    (some mm)
  else
    (ck (inb x1 6) <|
    if (mm 39 x1.toNatClampNeg) = 0 then
      (ck (inb x1 6) <|
      fX6_opens_J219 k189 mm x1 (mm 24 x1.toNatClampNeg) x1)
    else
      (fX6_opens_J219 k189 mm x1 0 x1))
def fX6_opens_L189 (mm : St) (x1 : Int32) : Option (St) := loopN (fun k a => fX6_opens_S189 k (a.1) (a.2)) 1000 (mm, x1)
def fX6_opens_J183 (mm : St) : Option (St) :=
  bd (fX6_spreads mm) <| fun q184 =>
  fX6_opens_L189 q184 0
def fX6_opens_J176 (k23 : (St × Int32) → Option (St)) (mm : St) (x1 : Int32) (y0 : Int32) (y1 : Int32) : Option (St) :=
  ck (inb y1 6) <|
  k23 ((aS mm 39 y1 (vp_nar .boolean y0)), x1 + 1)
def fX6_opens_J142 (k23 : (St × Int32) → Option (St)) (mm : St) (x1 : Int32) (x3 : Int32) (y0 : Int32) (y1 : Int32) : Option (St) :=
  ck (inb y1 30) <|
  ck (inb (x1 / 5) 6) <|
  if (mm 39 (x1 / 5).toNatClampNeg) = 0 then
    (ck (inb x1 30) <|
    if x3 = ((aS mm 12 y1 (vp_nar .boolean y0)) 12 x1.toNatClampNeg) then
      (fX6_opens_J176 k23 (aS mm 12 y1 (vp_nar .boolean y0)) x1 0 (x1 / 5))
    else
      (fX6_opens_J176 k23 (aS mm 12 y1 (vp_nar .boolean y0)) x1 1 (x1 / 5)))
  else
    (fX6_opens_J176 k23 (aS mm 12 y1 (vp_nar .boolean y0)) x1 1 (x1 / 5))
def fX6_opens_J141 (k23 : (St × Int32) → Option (St)) (mm : St) (x1 : Int32) (x3 : Int32) (y0 : Int32) : Option (St) :=
  fX6_opens_J142 k23 mm x1 x3 0 y0
def fX6_opens_J106 (k23 : (St × Int32) → Option (St)) (mm : St) (x1 : Int32) (x2 : Int32) (y0 : Int32) (y1 : Int32) : Option (St) :=
  ck (inb y1 30) <|
  ck (inb x1 30) <|
  if x2 = 0 then
    (fX6_opens_J141 k23 (aS mm 14 y1 y0) x1 (mm 12 x1.toNatClampNeg) x1)
  else
    (if (mm 12 x1.toNatClampNeg) = 0 then
      (ck (inb x1 30) <|
      if ((aS mm 14 y1 y0) 14 x1.toNatClampNeg) ≤ 2 then
        (fX6_opens_J141 k23 (aS mm 14 y1 y0) x1 (mm 12 x1.toNatClampNeg) x1)
      else
        (fX6_opens_J142 k23 (aS mm 14 y1 y0) x1 (mm 12 x1.toNatClampNeg) 1 x1))
    else
      (fX6_opens_J142 k23 (aS mm 14 y1 y0) x1 (mm 12 x1.toNatClampNeg) 1 x1))
def fX6_opens_J84 (k23 : (St × Int32) → Option (St)) (mm : St) (x1 : Int32) (y0 : Int32) : Option (St) :=
  if y0 = 0 then
    (fX6_opens_J106 k23 mm x1 y0 0 x1)
  else
    (ck (inb x1 30) <|
    fX6_opens_J106 k23 mm x1 y0 ((mm 14 x1.toNatClampNeg) + 1) x1)
def fX6_opens_S23 (k23 : (St × Int32) → Option (St)) (mm : St) (x1 : Int32) : Option (St) :=
  if 30 ≤ x1 then
    (fX6_opens_J183 mm)
  else
    (bd (fX6_roleOf mm x1) <| fun q36 =>
    ck (inb x1 30) <|
    ck (inb x1 30) <|
    if (mm 3 x1.toNatClampNeg) = (-1) then
      (k23 ((aS mm 13 x1 q36), x1 + 1))
    else
      (ck (inb x1 30) <|
      if (mm 10 x1.toNatClampNeg) = 0 then
        (ck (inb x1 30) <|
        if ((aS mm 13 x1 q36) 13 x1.toNatClampNeg) = 1 then
          (fX6_opens_J84 k23 (aS mm 13 x1 q36) x1 1)
        else
          (ck (inb x1 30) <|
          if ((aS mm 13 x1 q36) 13 x1.toNatClampNeg) = 2 then
            (fX6_opens_J84 k23 (aS mm 13 x1 q36) x1 1)
          else
            (fX6_opens_J84 k23 (aS mm 13 x1 q36) x1 0)))
      else
        (k23 ((aS mm 13 x1 q36), x1 + 1))))
def fX6_opens_L23 (mm : St) (x1 : Int32) : Option (St) := loopN (fun k a => fX6_opens_S23 k (a.1) (a.2)) 1000 (mm, x1)
def fX6_opens_J21 (mm : St) : Option (St) :=
  fX6_opens_L23 mm 0
def fX6_opens_S2 (k2 : (St × Int32) → Option (St)) (mm : St) (x1 : Int32) : Option (St) :=
  if 6 ≤ x1 then
    (fX6_opens_J21 mm)
  else
    (ck (inb x1 6) <|
    k2 ((aS mm 39 x1 (vp_nar .boolean 0)), x1 + 1))
def fX6_opens_L2 (mm : St) (x1 : Int32) : Option (St) := loopN (fun k a => fX6_opens_S2 k (a.1) (a.2)) 1000 (mm, x1)
def fX6_opens (mm : St) : Option (St) :=
  fX6_opens_L2 mm 0
def fX6_beats_S107 (k107 : (St × Int32) → Option (St)) (mm : St) (x1 : Int32) : Option (St) :=
  if 30 ≤ x1 then
    (some mm)
  else
    (ck (inb x1 30) <|
    ck (inb x1 30) <|
    if (mm 10 x1.toNatClampNeg) = 0 then
      (k107 ((aS mm 15 x1 0), x1 + 1))
    else
      (ck (inb x1 30) <|
      if (mm 11 x1.toNatClampNeg) ≤ 0 then
        (k107 ((aS mm 15 x1 0), x1 + 1))
      else
        (ck (inb x1 30) <|
        if (mm 0 0) < (mm 11 x1.toNatClampNeg) then
          (k107 ((aS mm 15 x1 0), x1 + 1))
        else
          (bd (fX6_frees (aS mm 15 x1 0) x1) <| fun q153 =>
          k107 (q153, x1 + 1)))))
def fX6_beats_L107 (mm : St) (x1 : Int32) : Option (St) := loopN (fun k a => fX6_beats_S107 k (a.1) (a.2)) 1000 (mm, x1)
def fX6_beats_J105 (mm : St) : Option (St) :=
  fX6_beats_L107 mm 0
def fX6_beats_S63 (k43 : (St × Int32) → Option (St)) (k63 : (St × Int32) → Option (St)) (x1 : Int32) (mm : St) (x2 : Int32) : Option (St) :=
  if x2 < (8 * x1) then
    (k43 (mm, x1 + 1))
  else
    (ck (inb x2 48) <|
    if ((mm 0 0) - (mm 28 x2.toNatClampNeg)) < 10 then
      (k63 (mm, x2 + (-1)))
    else
      (bd (fX6_drops mm x1 x2) <| fun q90 =>
      k63 (q90, x2 + (-1))))
def fX6_beats_L63 (k43 : (St × Int32) → Option (St)) (x1 : Int32) (mm : St) (x2 : Int32) : Option (St) := loopN (fun k a => fX6_beats_S63 k43 k x1 (a.1) (a.2)) 1000 (mm, x2)
def fX6_beats_S43 (k43 : (St × Int32) → Option (St)) (mm : St) (x1 : Int32) : Option (St) :=
  if 6 ≤ x1 then
    (fX6_beats_J105 mm)
  else
    (ck (inb x1 6) <|
    fX6_beats_L63 k43 x1 mm (((8 * x1) + (mm 24 x1.toNatClampNeg)) - 1))
def fX6_beats_L43 (mm : St) (x1 : Int32) : Option (St) := loopN (fun k a => fX6_beats_S43 k (a.1) (a.2)) 1000 (mm, x1)
def fX6_beats_J37 (mm : St) : Option (St) :=
  bd (fX6_opens mm) <| fun q38 =>
  fX6_beats_L43 q38 0
def fX6_beats_S20 (k20 : (St × Int32) → Option (St)) (mm : St) (x1 : Int32) : Option (St) :=
  if 6 ≤ x1 then
    (fX6_beats_J37 mm)
  else
    (bd (fX6_holds mm x1) <| fun q28 =>
    k20 (q28, x1 + 1))
def fX6_beats_L20 (mm : St) (x1 : Int32) : Option (St) := loopN (fun k a => fX6_beats_S20 k (a.1) (a.2)) 1000 (mm, x1)
def fX6_beats (mm : St) : Option (St) :=
  bd (fX6_tells (iS mm 0 ((mm 0 0) + 1))) <| fun q11 =>
  bd (fX6_guardsHouses q11) <| fun q15 =>
  fX6_beats_L20 q15 0
def fX6_beat_S26 (k26 : (St × Int32) → Option (Int32 × St)) (x1 : Int32) (mm : St) (x2 : Int32) : Option (Int32 × St) :=
  if x1 ≤ x2 then
    (some (mm 0 0, mm))
  else
    (bd (fX6_beats mm) <| fun q32 =>
    k26 (q32, x2 + 1))
def fX6_beat_L26 (x1 : Int32) (mm : St) (x2 : Int32) : Option (Int32 × St) := loopN (fun k a => fX6_beat_S26 k x1 (a.1) (a.2)) 1000 (mm, x2)
def fX6_beat_J16 (mm : St) (x1 : Int32) (y0 : Int32) : Option (Int32 × St) :=
  bd (fX6_fails mm y0) <| fun q16 =>
  if q16.1 = 0 then
    (fX6_beat_L26 x1 (q16.2) 0)
  else
    (some (0, (q16.2)))
def fX6_beat (mm : St) (x1 : Int32) : Option (Int32 × St) :=
  bd (fX6_isIn x1 1 30) <| fun q5 =>
  if q5 = 0 then
    (fX6_beat_J16 mm x1 1)
  else
    (fX6_beat_J16 mm x1 0)
def fX6_find_S9 (k9 : (Int32 × Int32) → Option (Int32)) (mm : St) (x1 : Int32) (x2 : Int32) (x3 : Int32) (x4 : Int32) (x5 : Int32) : Option (Int32) :=
  ck (inb x1 6) <|
  if ((8 * x1) + (mm 24 x1.toNatClampNeg)) ≤ x5 then
    (some x4)
  else
    (ck (inb x5 48) <|
    if (mm 25 x5.toNatClampNeg) = x2 then
      (ck (inb x5 48) <|
      if (mm 26 x5.toNatClampNeg) = x3 then
        (k9 (x5, x5 + 1))
      else
        (k9 (x4, x5 + 1)))
    else
      (k9 (x4, x5 + 1)))
def fX6_find_L9 (mm : St) (x1 : Int32) (x2 : Int32) (x3 : Int32) (x4 : Int32) (x5 : Int32) : Option (Int32) := loopN (fun k a => fX6_find_S9 k mm x1 x2 x3 (a.1) (a.2)) 1000 (x4, x5)
def fX6_find (mm : St) (x1 : Int32) (x2 : Int32) (x3 : Int32) : Option (Int32) :=
  fX6_find_L9 mm x1 x2 x3 (-1) (8 * x1)
def fX6_hears_J59 (mm : St) (x1 : Int32) (x2 : Int32) (x3 : Int32) (x5 : Int32) : Option (St) :=
  if x5 = (-1) then
    (some mm)
  else
    (ck (inb x5 48) <|
    ck (inb x5 48) <|
    ck (inb x5 48) <|
    ck (inb x5 48) <|
    some (aS (aS (aS (aS mm 25 x5 x2) 26 x5 x3) 27 x5 (x1 - x1 / 5 * 5)) 28 x5 (mm 0 0)))
def fX6_hears (mm : St) (x1 : Int32) (x2 : Int32) (x3 : Int32) : Option (St) :=
  bd (fX6_find mm (x1 / 5) x2 x3) <| fun q10 =>
  if q10 = (-1) then
    (ck (inb (x1 / 5) 6) <|
    if 8 ≤ (mm 24 (x1 / 5).toNatClampNeg) then
      (fX6_hears_J59 mm x1 x2 x3 q10)
    else
      (ck (inb (x1 / 5) 6) <|
      ck (inb (x1 / 5) 6) <|
      ck (inb (x1 / 5) 6) <|
      fX6_hears_J59 (aS mm 24 (x1 / 5) ((mm 24 (x1 / 5).toNatClampNeg) + 1)) x1 x2 x3 ((8 * (x1 / 5)) + (mm 24 (x1 / 5).toNatClampNeg))))
  else
    (fX6_hears_J59 mm x1 x2 x3 q10)
def fX6_laneOf_J59 (mm : St) (x1 : Int32) (y0 : Int32) : Option (Int32) :=
  ck (inb x1 30) <|
  if (((mm 8 x1.toNatClampNeg) >>> ((y0 - 1) &&& 31)) &&& 1) = 1 then
    (some y0)
  else
    (some 0)
def fX6_laneOf (mm : St) (x1 : Int32) (x2 : Int32) : Option (Int32) :=
  ck (inb x1 30) <|
  if (mm 12 x1.toNatClampNeg) = 0 then
    (some 0)
  else
    (ck (inb x1 30) <|
    if (mm 7 x1.toNatClampNeg) = 0 then
      (if x2 = 0 then
        (ck (inb x1 30) <|
        some (mm 9 x1.toNatClampNeg))
      else
        (ck (inb x1 30) <|
        if x2 = (mm 9 x1.toNatClampNeg) then
          (ck (inb x1 30) <|
          some (mm 9 x1.toNatClampNeg))
        else
          (some 0)))
    else
      (if x2 = 0 then
        (ck (inb x1 30) <|
        fX6_laneOf_J59 mm x1 (mm 9 x1.toNatClampNeg))
      else
        (fX6_laneOf_J59 mm x1 x2)))
def fX6_hasLane (mm : St) (x1 : Int32) (x2 : Int32) : Option (Int32) :=
  ck (inb x1 30) <|
  if (mm 7 x1.toNatClampNeg) = 0 then
    (ck (inb x1 30) <|
    if (mm 9 x1.toNatClampNeg) = x2 then
      (some 1)
    else
      (some 0))
  else
    (ck (inb x1 30) <|
    if (((mm 8 x1.toNatClampNeg) >>> ((x2 - 1) &&& 31)) &&& 1) = 1 then
      (some 1)
    else
      (some 0))
def fX6_queues (mm : St) (x1 : Int32) (x2 : Int32) (x3 : Int32) (x4 : Int32) : Option (St) :=
  ck (inb (mm 35 0) 2400) <|
  ck (inb (mm 35 0) 2400) <|
  ck (inb (mm 35 0) 2400) <|
  ck (inb (mm 35 0) 2400) <|
  some (iS (aS (aS (aS (aS mm 31 (mm 35 0) x1) 32 (mm 35 0) x2) 33 (mm 35 0) x3) 34 (mm 35 0) x4) 35 ((mm 35 0) + 1))
def fX6_goesOut_J163 (mm : St) (x8 : Int32) (y0 : Int32) (y1 : Int32) (y2 : Int32) : Option (Int32 × St) :=
  ck (inb y2 10) <|
  if x8 = 0 then
    (some (0, (aS mm 30 y2 (y1 + y0))))
  else
    (some (1, (aS mm 30 y2 (y1 + y0))))
def fX6_goesOut_J143 (mm : St) (x7 : Int32) (x8 : Int32) (y0 : Int32) (y1 : Int32) (y2 : Int32) : Option (Int32 × St) :=
  ck (inb y2 10) <|
  ck (inb x7 10) <|
  if x8 = 0 then
    (fX6_goesOut_J163 (aS mm 29 y2 (y1 + y0)) x8 1 (mm 30 x7.toNatClampNeg) x7)
  else
    (fX6_goesOut_J163 (aS mm 29 y2 (y1 + y0)) x8 0 (mm 30 x7.toNatClampNeg) x7)
def fX6_goesOut_J123 (mm : St) (x7 : Int32) (y0 : Int32) : Option (Int32 × St) :=
  ck (inb x7 10) <|
  if y0 = 0 then
    (fX6_goesOut_J143 mm x7 y0 0 (mm 29 x7.toNatClampNeg) x7)
  else
    (fX6_goesOut_J143 mm x7 y0 1 (mm 29 x7.toNatClampNeg) x7)
def fX6_goesOut_J95 (mm : St) (x4 : Int32) (y0 : Int32) (y1 : Int32) (y2 : Int32) : Option (Int32 × St) :=
  bd (fX6_queues mm y2 y1 y0 (x4 + 1)) <| fun q99 =>
  some (0, q99)
def fX6_goesOut_J85 (mm : St) (x3 : Int32) (x4 : Int32) (x6 : Int32) (y0 : Int32) (y1 : Int32) : Option (Int32 × St) :=
  if x6 = 0 then
    (fX6_goesOut_J95 mm x4 0 y0 y1)
  else
    (fX6_goesOut_J95 mm x4 x3 y0 y1)
def fX6_goesOut_J35 (mm : St) (x1 : Int32) (x2 : Int32) (x3 : Int32) (x4 : Int32) (x5 : Int32) (y0 : Int32) : Option (Int32 × St) :=
  ck (inb x1 30) <|
  if (mm 5 x1.toNatClampNeg) = (-1) then
    (if 12 ≤ x4 then
      (some (0, mm))
    else
      (ck (inb x1 30) <|
      if (mm 3 x1.toNatClampNeg) = (-1) then
        (some (0, mm))
      else
        (ck (inb x1 30) <|
        if y0 = 0 then
          (fX6_goesOut_J85 mm x3 x4 y0 x3 (mm 3 x1.toNatClampNeg))
        else
          (fX6_goesOut_J85 mm x3 x4 y0 x2 (mm 3 x1.toNatClampNeg)))))
  else
    (if x5 = 10 then
      (fX6_goesOut_J123 mm (mm 5 x1.toNatClampNeg) 1)
    else
      (if x5 = (mm 5 x1.toNatClampNeg) then
        (fX6_goesOut_J123 mm (mm 5 x1.toNatClampNeg) 1)
      else
        (fX6_goesOut_J123 mm (mm 5 x1.toNatClampNeg) 0)))
def fX6_goesOut_J34 (mm : St) (x1 : Int32) (x2 : Int32) (x3 : Int32) (x4 : Int32) (x5 : Int32) : Option (Int32 × St) :=
  fX6_goesOut_J35 mm x1 x2 x3 x4 x5 0
def fX6_goesOut (mm : St) (x1 : Int32) (x2 : Int32) (x3 : Int32) (x4 : Int32) (x5 : Int32) : Option (Int32 × St) :=
  bd (fX6_hasLane mm x1 x2) <| fun q3 =>
  if q3 = 0 then
    (some (0, mm))
  else
    (ck (inb x1 30) <|
    if (mm 7 x1.toNatClampNeg) = 0 then
      (fX6_goesOut_J34 mm x1 x2 x3 x4 x5)
    else
      (ck (inb x1 30) <|
      if x2 = (mm 9 x1.toNatClampNeg) then
        (fX6_goesOut_J34 mm x1 x2 x3 x4 x5)
      else
        (fX6_goesOut_J35 mm x1 x2 x3 x4 x5 1)))
def fX6_comes_S201 (k201 : (St × Int32 × Int32) → Option (Int32 × St)) (x1 : Int32) (x3 : Int32) (x4 : Int32) (x6 : Int32) (x7 : Int32) (x8 : Int32) (mm : St) (x11 : Int32) (x12 : Int32) : Option (Int32 × St) :=
  if ((5 * x8) + 5) ≤ x12 then
    (some (x11, mm))
  else
    (if x12 = x4 then
      (k201 (mm, x11 + 0, x12 + 1))
    else
      (ck (inb x12 30) <|
      if (mm 12 x12.toNatClampNeg) = 0 then
        (k201 (mm, x11 + 0, x12 + 1))
      else
        (ck (inb x1 2400) <|
        bd (fX6_goesOut mm x12 x6 x7 (mm 34 x1.toNatClampNeg) x3) <| fun q245 =>
        k201 ((q245.2), x11 + q245.1, x12 + 1))))
def fX6_comes_L201 (x1 : Int32) (x3 : Int32) (x4 : Int32) (x6 : Int32) (x7 : Int32) (x8 : Int32) (mm : St) (x11 : Int32) (x12 : Int32) : Option (Int32 × St) := loopN (fun k a => fX6_comes_S201 k x1 x3 x4 x6 x7 x8 (a.1) (a.2.1) (a.2.2)) 1000 (mm, x11, x12)
def fX6_comes_J146 (mm : St) (x1 : Int32) (x3 : Int32) (x4 : Int32) (x6 : Int32) (x7 : Int32) (x8 : Int32) : Option (Int32 × St) :=
  ck (inb x4 30) <|
  ck (inb x4 30) <|
  ck (inb x4 30) <|
  if ((aS mm 15 x4 ((mm 15 x4.toNatClampNeg) + 1)) 15 x4.toNatClampNeg) ≤ (mm 1 0) then
    (fX6_comes_L201 x1 x3 x4 x6 x7 x8 (aS mm 15 x4 ((mm 15 x4.toNatClampNeg) + 1)) 0 (5 * x8))
  else
    (bd (fX6_shuts (aS mm 15 x4 ((mm 15 x4.toNatClampNeg) + 1)) x4) <| fun q174 =>
    ck (inb x4 30) <|
    some (0, (aS q174 11 x4 ((q174 0 0) + 5))))
def fX6_comes_J99 (mm : St) (x1 : Int32) (x3 : Int32) (x4 : Int32) (x6 : Int32) (x7 : Int32) (x8 : Int32) (y0 : Int32) : Option (Int32 × St) :=
  if y0 = (-1) then
    (fX6_comes_J146 mm x1 x3 x4 x6 x7 x8)
  else
    (ck (inb y0 30) <|
    if (mm 12 y0.toNatClampNeg) = 0 then
      (fX6_comes_J146 mm x1 x3 x4 x6 x7 x8)
    else
      (if y0 = x4 then
        (some (0, mm))
      else
        (ck (inb x1 2400) <|
        bd (fX6_goesOut mm y0 x6 x7 (mm 34 x1.toNatClampNeg) x3) <| fun q142 =>
        some (q142.1, (q142.2)))))
def fX6_comes_J75 (mm : St) (x1 : Int32) (x3 : Int32) (x4 : Int32) (x6 : Int32) (x7 : Int32) (x8 : Int32) (y0 : Int32) : Option (Int32 × St) :=
  if y0 = (-1) then
    (fX6_comes_J99 mm x1 x3 x4 x6 x7 x8 (-1))
  else
    (ck (inb y0 48) <|
    fX6_comes_J99 mm x1 x3 x4 x6 x7 x8 ((5 * x8) + (mm 27 y0.toNatClampNeg)))
def fX6_comes (mm : St) (x1 : Int32) (x2 : Int32) (x3 : Int32) : Option (Int32 × St) :=
  ck (inb x1 2400) <|
  ck (inb x1 2400) <|
  bd (fX6_laneOf mm (mm 31 x1.toNatClampNeg) (mm 32 x1.toNatClampNeg)) <| fun q21 =>
  if q21 = 0 then
    (some (0, mm))
  else
    (ck (inb x1 2400) <|
    bd (fX6_hears mm (mm 31 x1.toNatClampNeg) q21 x2) <| fun q53 =>
    if x3 = 10 then
      (fX6_comes_J75 q53 x1 x3 (mm 31 x1.toNatClampNeg) q21 (mm 33 x1.toNatClampNeg) ((mm 31 x1.toNatClampNeg) / 5) (-1))
    else
      (bd (fX6_find q53 ((mm 31 x1.toNatClampNeg) / 5) q21 x3) <| fun q72 =>
      fX6_comes_J75 q53 x1 x3 (mm 31 x1.toNatClampNeg) q21 (mm 33 x1.toNatClampNeg) ((mm 31 x1.toNatClampNeg) / 5) q72))
def fX6_portOf_S4 (k4 : (Int32 × Int32) → Option (Int32)) (mm : St) (x1 : Int32) (x2 : Int32) (x3 : Int32) : Option (Int32) :=
  if 30 ≤ x3 then
    (some x2)
  else
    (ck (inb x3 30) <|
    if (mm 5 x3.toNatClampNeg) = x1 then
      (k4 (x3, x3 + 1))
    else
      (k4 (x2, x3 + 1)))
def fX6_portOf_L4 (mm : St) (x1 : Int32) (x2 : Int32) (x3 : Int32) : Option (Int32) := loopN (fun k a => fX6_portOf_S4 k mm x1 (a.1) (a.2)) 1000 (x2, x3)
def fX6_portOf (mm : St) (x1 : Int32) : Option (Int32) :=
  fX6_portOf_L4 mm x1 (-1) 0
def fX6_send_S138 (k138 : (St × Int32 × Int32) → Option (Int32 × St)) (x1 : Int32) (x2 : Int32) (mm : St) (x8 : Int32) (x9 : Int32) : Option (Int32 × St) :=
  if (mm 35 0) ≤ x9 then
    (some (x8, mm))
  else
    (if 400 ≤ x9 then
      (some (x8, mm))
    else
      (bd (fX6_comes mm x9 x1 x2) <| fun q162 =>
      k138 ((q162.2), x8 + q162.1, x9 + 1)))
def fX6_send_L138 (x1 : Int32) (x2 : Int32) (mm : St) (x8 : Int32) (x9 : Int32) : Option (Int32 × St) := loopN (fun k a => fX6_send_S138 k x1 x2 (a.1) (a.2.1) (a.2.2)) 1000 (mm, x8, x9)
def fX6_send_J109 (mm : St) (x1 : Int32) (x2 : Int32) (x3 : Int32) (x4 : Int32) (x7 : Int32) (y0 : Int32) : Option (Int32 × St) :=
  bd (fX6_fails mm y0) <| fun q109 =>
  if q109.1 = 0 then
    (bd (fX6_queues (iS (q109.2) 35 0) x7 x3 x4 0) <| fun q129 =>
    fX6_send_L138 x1 x2 q129 0 0)
  else
    (some (0, (q109.2)))
def fX6_send_J77 (mm : St) (x1 : Int32) (x2 : Int32) (x3 : Int32) (x4 : Int32) (x5 : Int32) (x6 : Int32) (y0 : Int32) : Option (Int32 × St) :=
  if x5 = 0 then
    (fX6_send_J109 mm x1 x2 x3 x4 y0 1)
  else
    (if x6 = 0 then
      (fX6_send_J109 mm x1 x2 x3 x4 y0 2)
    else
      (if y0 = (-1) then
        (fX6_send_J109 mm x1 x2 x3 x4 y0 3)
      else
        (fX6_send_J109 mm x1 x2 x3 x4 y0 0)))
def fX6_send_J61 (mm : St) (x1 : Int32) (x2 : Int32) (x3 : Int32) (x4 : Int32) (x5 : Int32) (y0 : Int32) : Option (Int32 × St) :=
  if x5 = 0 then
    (fX6_send_J77 mm x1 x2 x3 x4 x5 y0 (-1))
  else
    (bd (fX6_portOf mm x1) <| fun q70 =>
    fX6_send_J77 mm x1 x2 x3 x4 x5 y0 q70)
def fX6_send_J60 (mm : St) (x1 : Int32) (x2 : Int32) (x3 : Int32) (x4 : Int32) (x5 : Int32) : Option (Int32 × St) :=
  fX6_send_J61 mm x1 x2 x3 x4 x5 0
def fX6_send_J50 (mm : St) (x1 : Int32) (x2 : Int32) (x3 : Int32) (x4 : Int32) (x5 : Int32) (y0 : Int32) (y1 : Int32) (y2 : Int32) : Option (Int32 × St) :=
  bd (fX6_isIn y2 y1 y0) <| fun q50 =>
  if q50 = 0 then
    (fX6_send_J60 mm x1 x2 x3 x4 x5)
  else
    (fX6_send_J61 mm x1 x2 x3 x4 x5 1)
def fX6_send_J22 (mm : St) (x1 : Int32) (x2 : Int32) (x3 : Int32) (x4 : Int32) (y0 : Int32) : Option (Int32 × St) :=
  if x1 = x2 then
    (fX6_send_J60 mm x1 x2 x3 x4 y0)
  else
    (bd (fX6_isIn x3 0 3) <| fun q32 =>
    if q32 = 0 then
      (fX6_send_J60 mm x1 x2 x3 x4 y0)
    else
      (if x3 = 0 then
        (fX6_send_J50 mm x1 x2 x3 x4 y0 0 0 x4)
      else
        (fX6_send_J50 mm x1 x2 x3 x4 y0 3 0 x4)))
def fX6_send_J21 (mm : St) (x1 : Int32) (x2 : Int32) (x3 : Int32) (x4 : Int32) : Option (Int32 × St) :=
  fX6_send_J22 mm x1 x2 x3 x4 0
def fX6_send (mm : St) (x1 : Int32) (x2 : Int32) (x3 : Int32) (x4 : Int32) : Option (Int32 × St) :=
  bd (fX6_isHouse x1) <| fun q1 =>
  if q1 = 0 then
    (fX6_send_J21 mm x1 x2 x3 x4)
  else
    (bd (fX6_isIn x2 0 10) <| fun q11 =>
    if q11 = 0 then
      (fX6_send_J21 mm x1 x2 x3 x4)
    else
      (fX6_send_J22 mm x1 x2 x3 x4 1))
def fX6_holds__J26 (mm : St) (x1 : Int32) (x2 : Int32) (y0 : Int32) : Option (Int32 × St) :=
  bd (fX6_fails mm y0) <| fun q26 =>
  if q26.1 = 0 then
    (if x2 = 0 then
      (ck (inb x1 6) <|
      some ((q26.2) 16 x1.toNatClampNeg, (q26.2)))
    else
      (if x2 = 1 then
        (ck (inb x1 6) <|
        some ((q26.2) 17 x1.toNatClampNeg, (q26.2)))
      else
        (if x2 = 2 then
          (ck (inb x1 6) <|
          some ((q26.2) 18 x1.toNatClampNeg, (q26.2)))
        else
          (if x2 = 3 then
            (ck (inb x1 6) <|
            if ((q26.2) 19 x1.toNatClampNeg) = (-1) then
              (some ((-1), (q26.2)))
            else
              (ck (inb x1 6) <|
              some (((q26.2) 19 x1.toNatClampNeg) - ((q26.2) 19 x1.toNatClampNeg) / 5 * 5, (q26.2))))
          else
            (ck (inb x1 6) <|
            some ((q26.2) 24 x1.toNatClampNeg, (q26.2)))))))
  else
    (some (0, (q26.2)))
def fX6_holds_ (mm : St) (x1 : Int32) (x2 : Int32) : Option (Int32 × St) :=
  bd (fX6_isSwitch x1) <| fun q2 =>
  if q2 = 0 then
    (fX6_holds__J26 mm x1 x2 1)
  else
    (bd (fX6_isIn x2 0 4) <| fun q15 =>
    if q15 = 0 then
      (fX6_holds__J26 mm x1 x2 2)
    else
      (fX6_holds__J26 mm x1 x2 0))
def fX6_port_J27 (mm : St) (x1 : Int32) (x2 : Int32) (x3 : Int32) (y0 : Int32) : Option (Int32 × St) :=
  bd (fX6_fails mm y0) <| fun q27 =>
  if q27.1 = 0 then
    (if x3 = 0 then
      (ck (inb ((5 * x1) + x2) 30) <|
      if ((q27.2) 12 ((5 * x1) + x2).toNatClampNeg) = 0 then
        (some (0, (q27.2)))
      else
        (some (1, (q27.2))))
    else
      (if x3 = 1 then
        (ck (inb ((5 * x1) + x2) 30) <|
        some ((q27.2) 13 ((5 * x1) + x2).toNatClampNeg, (q27.2)))
      else
        (if x3 = 2 then
          (ck (inb ((5 * x1) + x2) 30) <|
          if ((q27.2) 10 ((5 * x1) + x2).toNatClampNeg) = 0 then
            (some (0, (q27.2)))
          else
            (some (1, (q27.2))))
        else
          (ck (inb ((5 * x1) + x2) 30) <|
          some ((q27.2) 15 ((5 * x1) + x2).toNatClampNeg, (q27.2))))))
  else
    (some (0, (q27.2)))
def fX6_port (mm : St) (x1 : Int32) (x2 : Int32) (x3 : Int32) : Option (Int32 × St) :=
  bd (fX6_isPort x1 x2) <| fun q3 =>
  if q3 = 0 then
    (fX6_port_J27 mm x1 x2 x3 1)
  else
    (bd (fX6_isIn x3 0 3) <| fun q16 =>
    if q16 = 0 then
      (fX6_port_J27 mm x1 x2 x3 2)
    else
      (fX6_port_J27 mm x1 x2 x3 0))
def fX6_table_J27 (mm : St) (x1 : Int32) (x2 : Int32) (x3 : Int32) (y0 : Int32) : Option (Int32 × St) :=
  bd (fX6_fails mm y0) <| fun q27 =>
  if q27.1 = 0 then
    (bd (fX6_find (q27.2) x1 x2 x3) <| fun q39 =>
    if q39 = (-1) then
      (some ((-1), (q27.2)))
    else
      (ck (inb q39 48) <|
      some ((q27.2) 27 q39.toNatClampNeg, (q27.2))))
  else
    (some (0, (q27.2)))
def fX6_table_J26 (mm : St) (x1 : Int32) (x2 : Int32) (x3 : Int32) : Option (Int32 × St) :=
  fX6_table_J27 mm x1 x2 x3 1
def fX6_table (mm : St) (x1 : Int32) (x2 : Int32) (x3 : Int32) : Option (Int32 × St) :=
  bd (fX6_isSwitch x1) <| fun q2 =>
  if q2 = 0 then
    (fX6_table_J26 mm x1 x2 x3)
  else
    (bd (fX6_isLane x2) <| fun q9 =>
    if q9 = 0 then
      (fX6_table_J26 mm x1 x2 x3)
    else
      (bd (fX6_isHouse x3) <| fun q16 =>
      if q16 = 0 then
        (fX6_table_J26 mm x1 x2 x3)
      else
        (fX6_table_J27 mm x1 x2 x3 0)))
def fX6_got_J13 (mm : St) (x1 : Int32) (x2 : Int32) (y0 : Int32) : Option (Int32 × St) :=
  bd (fX6_fails mm y0) <| fun q13 =>
  if q13.1 = 0 then
    (if x2 = 0 then
      (ck (inb x1 10) <|
      some ((q13.2) 29 x1.toNatClampNeg, (q13.2)))
    else
      (ck (inb x1 10) <|
      some ((q13.2) 30 x1.toNatClampNeg, (q13.2))))
  else
    (some (0, (q13.2)))
def fX6_got (mm : St) (x1 : Int32) (x2 : Int32) : Option (Int32 × St) :=
  bd (fX6_isHouse x1) <| fun q2 =>
  if q2 = 0 then
    (fX6_got_J13 mm x1 x2 1)
  else
    (fX6_got_J13 mm x1 x2 0)
def fX6_keeps_k27_S2 (k2 : (St × Int32) → Option (St)) (x1 : Int32) (mm : St) (x3 : Int32) : Option (St) :=
  if 48 ≤ x3 then
    (some mm)
  else
    (ck (inb x3 48) <|
    ck (inb (x1 + x3) 600) <|
    k2 ((aS mm 36 (x1 + x3) (mm 28 x3.toNatClampNeg)), x3 + 1))
def fX6_keeps_k27_L2 (x1 : Int32) (mm : St) (x3 : Int32) : Option (St) := loopN (fun k a => fX6_keeps_k27_S2 k x1 (a.1) (a.2)) 1000 (mm, x3)
def fX6_keeps_k27 (mm : St) (x1 : Int32) : Option (St) :=
  fX6_keeps_k27_L2 x1 mm 0
def fX6_back_k27_S2 (k2 : (St × Int32) → Option (St)) (x1 : Int32) (mm : St) (x3 : Int32) : Option (St) :=
  if 48 ≤ x3 then
    (some mm)
  else
    (ck (inb (x1 + x3) 600) <|
    ck (inb x3 48) <|
    k2 ((aS mm 28 x3 (mm 36 (x1 + x3).toNatClampNeg)), x3 + 1))
def fX6_back_k27_L2 (x1 : Int32) (mm : St) (x3 : Int32) : Option (St) := loopN (fun k a => fX6_back_k27_S2 k x1 (a.1) (a.2)) 1000 (mm, x3)
def fX6_back_k27 (mm : St) (x1 : Int32) : Option (St) :=
  fX6_back_k27_L2 x1 mm 0
def fX6_keeps_k26_S2 (k2 : (St × Int32) → Option (St)) (x1 : Int32) (mm : St) (x3 : Int32) : Option (St) :=
  if 48 ≤ x3 then
    (some mm)
  else
    (ck (inb x3 48) <|
    ck (inb (x1 + x3) 600) <|
    k2 ((aS mm 36 (x1 + x3) (mm 27 x3.toNatClampNeg)), x3 + 1))
def fX6_keeps_k26_L2 (x1 : Int32) (mm : St) (x3 : Int32) : Option (St) := loopN (fun k a => fX6_keeps_k26_S2 k x1 (a.1) (a.2)) 1000 (mm, x3)
def fX6_keeps_k26 (mm : St) (x1 : Int32) : Option (St) :=
  fX6_keeps_k26_L2 x1 mm 0
def fX6_back_k26_S2 (k2 : (St × Int32) → Option (St)) (x1 : Int32) (mm : St) (x3 : Int32) : Option (St) :=
  if 48 ≤ x3 then
    (some mm)
  else
    (ck (inb (x1 + x3) 600) <|
    ck (inb x3 48) <|
    k2 ((aS mm 27 x3 (mm 36 (x1 + x3).toNatClampNeg)), x3 + 1))
def fX6_back_k26_L2 (x1 : Int32) (mm : St) (x3 : Int32) : Option (St) := loopN (fun k a => fX6_back_k26_S2 k x1 (a.1) (a.2)) 1000 (mm, x3)
def fX6_back_k26 (mm : St) (x1 : Int32) : Option (St) :=
  fX6_back_k26_L2 x1 mm 0
def fX6_keeps_k25_S2 (k2 : (St × Int32) → Option (St)) (x1 : Int32) (mm : St) (x3 : Int32) : Option (St) :=
  if 48 ≤ x3 then
    (some mm)
  else
    (ck (inb x3 48) <|
    ck (inb (x1 + x3) 600) <|
    k2 ((aS mm 36 (x1 + x3) (mm 26 x3.toNatClampNeg)), x3 + 1))
def fX6_keeps_k25_L2 (x1 : Int32) (mm : St) (x3 : Int32) : Option (St) := loopN (fun k a => fX6_keeps_k25_S2 k x1 (a.1) (a.2)) 1000 (mm, x3)
def fX6_keeps_k25 (mm : St) (x1 : Int32) : Option (St) :=
  fX6_keeps_k25_L2 x1 mm 0
def fX6_back_k25_S2 (k2 : (St × Int32) → Option (St)) (x1 : Int32) (mm : St) (x3 : Int32) : Option (St) :=
  if 48 ≤ x3 then
    (some mm)
  else
    (ck (inb (x1 + x3) 600) <|
    ck (inb x3 48) <|
    k2 ((aS mm 26 x3 (mm 36 (x1 + x3).toNatClampNeg)), x3 + 1))
def fX6_back_k25_L2 (x1 : Int32) (mm : St) (x3 : Int32) : Option (St) := loopN (fun k a => fX6_back_k25_S2 k x1 (a.1) (a.2)) 1000 (mm, x3)
def fX6_back_k25 (mm : St) (x1 : Int32) : Option (St) :=
  fX6_back_k25_L2 x1 mm 0
def fX6_keeps_k24_S2 (k2 : (St × Int32) → Option (St)) (x1 : Int32) (mm : St) (x3 : Int32) : Option (St) :=
  if 48 ≤ x3 then
    (some mm)
  else
    (ck (inb x3 48) <|
    ck (inb (x1 + x3) 600) <|
    k2 ((aS mm 36 (x1 + x3) (mm 25 x3.toNatClampNeg)), x3 + 1))
def fX6_keeps_k24_L2 (x1 : Int32) (mm : St) (x3 : Int32) : Option (St) := loopN (fun k a => fX6_keeps_k24_S2 k x1 (a.1) (a.2)) 1000 (mm, x3)
def fX6_keeps_k24 (mm : St) (x1 : Int32) : Option (St) :=
  fX6_keeps_k24_L2 x1 mm 0
def fX6_back_k24_S2 (k2 : (St × Int32) → Option (St)) (x1 : Int32) (mm : St) (x3 : Int32) : Option (St) :=
  if 48 ≤ x3 then
    (some mm)
  else
    (ck (inb (x1 + x3) 600) <|
    ck (inb x3 48) <|
    k2 ((aS mm 25 x3 (mm 36 (x1 + x3).toNatClampNeg)), x3 + 1))
def fX6_back_k24_L2 (x1 : Int32) (mm : St) (x3 : Int32) : Option (St) := loopN (fun k a => fX6_back_k24_S2 k x1 (a.1) (a.2)) 1000 (mm, x3)
def fX6_back_k24 (mm : St) (x1 : Int32) : Option (St) :=
  fX6_back_k24_L2 x1 mm 0
def fX6_keeps_k23_S2 (k2 : (St × Int32) → Option (St)) (x1 : Int32) (mm : St) (x3 : Int32) : Option (St) :=
  if 6 ≤ x3 then
    (some mm)
  else
    (ck (inb x3 6) <|
    ck (inb (x1 + x3) 600) <|
    k2 ((aS mm 36 (x1 + x3) (mm 24 x3.toNatClampNeg)), x3 + 1))
def fX6_keeps_k23_L2 (x1 : Int32) (mm : St) (x3 : Int32) : Option (St) := loopN (fun k a => fX6_keeps_k23_S2 k x1 (a.1) (a.2)) 1000 (mm, x3)
def fX6_keeps_k23 (mm : St) (x1 : Int32) : Option (St) :=
  fX6_keeps_k23_L2 x1 mm 0
def fX6_back_k23_S2 (k2 : (St × Int32) → Option (St)) (x1 : Int32) (mm : St) (x3 : Int32) : Option (St) :=
  if 6 ≤ x3 then
    (some mm)
  else
    (ck (inb (x1 + x3) 600) <|
    ck (inb x3 6) <|
    k2 ((aS mm 24 x3 (mm 36 (x1 + x3).toNatClampNeg)), x3 + 1))
def fX6_back_k23_L2 (x1 : Int32) (mm : St) (x3 : Int32) : Option (St) := loopN (fun k a => fX6_back_k23_S2 k x1 (a.1) (a.2)) 1000 (mm, x3)
def fX6_back_k23 (mm : St) (x1 : Int32) : Option (St) :=
  fX6_back_k23_L2 x1 mm 0
def fX6_keeps_k14_S2 (k2 : (St × Int32) → Option (St)) (x1 : Int32) (mm : St) (x3 : Int32) : Option (St) :=
  if 30 ≤ x3 then
    (some mm)
  else
    (ck (inb x3 30) <|
    ck (inb (x1 + x3) 600) <|
    k2 ((aS mm 36 (x1 + x3) (mm 15 x3.toNatClampNeg)), x3 + 1))
def fX6_keeps_k14_L2 (x1 : Int32) (mm : St) (x3 : Int32) : Option (St) := loopN (fun k a => fX6_keeps_k14_S2 k x1 (a.1) (a.2)) 1000 (mm, x3)
def fX6_keeps_k14 (mm : St) (x1 : Int32) : Option (St) :=
  fX6_keeps_k14_L2 x1 mm 0
def fX6_back_k14_S2 (k2 : (St × Int32) → Option (St)) (x1 : Int32) (mm : St) (x3 : Int32) : Option (St) :=
  if 30 ≤ x3 then
    (some mm)
  else
    (ck (inb (x1 + x3) 600) <|
    ck (inb x3 30) <|
    k2 ((aS mm 15 x3 (mm 36 (x1 + x3).toNatClampNeg)), x3 + 1))
def fX6_back_k14_L2 (x1 : Int32) (mm : St) (x3 : Int32) : Option (St) := loopN (fun k a => fX6_back_k14_S2 k x1 (a.1) (a.2)) 1000 (mm, x3)
def fX6_back_k14 (mm : St) (x1 : Int32) : Option (St) :=
  fX6_back_k14_L2 x1 mm 0
def fX6_keeps_k10_S2 (k2 : (St × Int32) → Option (St)) (x1 : Int32) (mm : St) (x3 : Int32) : Option (St) :=
  if 30 ≤ x3 then
    (some mm)
  else
    (ck (inb x3 30) <|
    ck (inb (x1 + x3) 600) <|
    k2 ((aS mm 36 (x1 + x3) (mm 11 x3.toNatClampNeg)), x3 + 1))
def fX6_keeps_k10_L2 (x1 : Int32) (mm : St) (x3 : Int32) : Option (St) := loopN (fun k a => fX6_keeps_k10_S2 k x1 (a.1) (a.2)) 1000 (mm, x3)
def fX6_keeps_k10 (mm : St) (x1 : Int32) : Option (St) :=
  fX6_keeps_k10_L2 x1 mm 0
def fX6_back_k10_S2 (k2 : (St × Int32) → Option (St)) (x1 : Int32) (mm : St) (x3 : Int32) : Option (St) :=
  if 30 ≤ x3 then
    (some mm)
  else
    (ck (inb (x1 + x3) 600) <|
    ck (inb x3 30) <|
    k2 ((aS mm 11 x3 (mm 36 (x1 + x3).toNatClampNeg)), x3 + 1))
def fX6_back_k10_L2 (x1 : Int32) (mm : St) (x3 : Int32) : Option (St) := loopN (fun k a => fX6_back_k10_S2 k x1 (a.1) (a.2)) 1000 (mm, x3)
def fX6_back_k10 (mm : St) (x1 : Int32) : Option (St) :=
  fX6_back_k10_L2 x1 mm 0
def fX6_keeps_k13_S2 (k2 : (St × Int32) → Option (St)) (x1 : Int32) (mm : St) (x3 : Int32) : Option (St) :=
  if 30 ≤ x3 then
    (some mm)
  else
    (ck (inb x3 30) <|
    ck (inb (x1 + x3) 600) <|
    k2 ((aS mm 36 (x1 + x3) (mm 14 x3.toNatClampNeg)), x3 + 1))
def fX6_keeps_k13_L2 (x1 : Int32) (mm : St) (x3 : Int32) : Option (St) := loopN (fun k a => fX6_keeps_k13_S2 k x1 (a.1) (a.2)) 1000 (mm, x3)
def fX6_keeps_k13 (mm : St) (x1 : Int32) : Option (St) :=
  fX6_keeps_k13_L2 x1 mm 0
def fX6_back_k13_S2 (k2 : (St × Int32) → Option (St)) (x1 : Int32) (mm : St) (x3 : Int32) : Option (St) :=
  if 30 ≤ x3 then
    (some mm)
  else
    (ck (inb (x1 + x3) 600) <|
    ck (inb x3 30) <|
    k2 ((aS mm 14 x3 (mm 36 (x1 + x3).toNatClampNeg)), x3 + 1))
def fX6_back_k13_L2 (x1 : Int32) (mm : St) (x3 : Int32) : Option (St) := loopN (fun k a => fX6_back_k13_S2 k x1 (a.1) (a.2)) 1000 (mm, x3)
def fX6_back_k13 (mm : St) (x1 : Int32) : Option (St) :=
  fX6_back_k13_L2 x1 mm 0
def fX6_keeps_k12_S2 (k2 : (St × Int32) → Option (St)) (x1 : Int32) (mm : St) (x3 : Int32) : Option (St) :=
  if 30 ≤ x3 then
    (some mm)
  else
    (ck (inb x3 30) <|
    ck (inb (x1 + x3) 600) <|
    k2 ((aS mm 36 (x1 + x3) (mm 13 x3.toNatClampNeg)), x3 + 1))
def fX6_keeps_k12_L2 (x1 : Int32) (mm : St) (x3 : Int32) : Option (St) := loopN (fun k a => fX6_keeps_k12_S2 k x1 (a.1) (a.2)) 1000 (mm, x3)
def fX6_keeps_k12 (mm : St) (x1 : Int32) : Option (St) :=
  fX6_keeps_k12_L2 x1 mm 0
def fX6_back_k12_S2 (k2 : (St × Int32) → Option (St)) (x1 : Int32) (mm : St) (x3 : Int32) : Option (St) :=
  if 30 ≤ x3 then
    (some mm)
  else
    (ck (inb (x1 + x3) 600) <|
    ck (inb x3 30) <|
    k2 ((aS mm 13 x3 (mm 36 (x1 + x3).toNatClampNeg)), x3 + 1))
def fX6_back_k12_L2 (x1 : Int32) (mm : St) (x3 : Int32) : Option (St) := loopN (fun k a => fX6_back_k12_S2 k x1 (a.1) (a.2)) 1000 (mm, x3)
def fX6_back_k12 (mm : St) (x1 : Int32) : Option (St) :=
  fX6_back_k12_L2 x1 mm 0
def fX6_keeps_k18_S2 (k2 : (St × Int32) → Option (St)) (x1 : Int32) (mm : St) (x3 : Int32) : Option (St) :=
  if 6 ≤ x3 then
    (some mm)
  else
    (ck (inb x3 6) <|
    ck (inb (x1 + x3) 600) <|
    k2 ((aS mm 36 (x1 + x3) (mm 19 x3.toNatClampNeg)), x3 + 1))
def fX6_keeps_k18_L2 (x1 : Int32) (mm : St) (x3 : Int32) : Option (St) := loopN (fun k a => fX6_keeps_k18_S2 k x1 (a.1) (a.2)) 1000 (mm, x3)
def fX6_keeps_k18 (mm : St) (x1 : Int32) : Option (St) :=
  fX6_keeps_k18_L2 x1 mm 0
def fX6_back_k18_S2 (k2 : (St × Int32) → Option (St)) (x1 : Int32) (mm : St) (x3 : Int32) : Option (St) :=
  if 6 ≤ x3 then
    (some mm)
  else
    (ck (inb (x1 + x3) 600) <|
    ck (inb x3 6) <|
    k2 ((aS mm 19 x3 (mm 36 (x1 + x3).toNatClampNeg)), x3 + 1))
def fX6_back_k18_L2 (x1 : Int32) (mm : St) (x3 : Int32) : Option (St) := loopN (fun k a => fX6_back_k18_S2 k x1 (a.1) (a.2)) 1000 (mm, x3)
def fX6_back_k18 (mm : St) (x1 : Int32) : Option (St) :=
  fX6_back_k18_L2 x1 mm 0
def fX6_keeps_k17_S2 (k2 : (St × Int32) → Option (St)) (x1 : Int32) (mm : St) (x3 : Int32) : Option (St) :=
  if 6 ≤ x3 then
    (some mm)
  else
    (ck (inb x3 6) <|
    ck (inb (x1 + x3) 600) <|
    k2 ((aS mm 36 (x1 + x3) (mm 18 x3.toNatClampNeg)), x3 + 1))
def fX6_keeps_k17_L2 (x1 : Int32) (mm : St) (x3 : Int32) : Option (St) := loopN (fun k a => fX6_keeps_k17_S2 k x1 (a.1) (a.2)) 1000 (mm, x3)
def fX6_keeps_k17 (mm : St) (x1 : Int32) : Option (St) :=
  fX6_keeps_k17_L2 x1 mm 0
def fX6_back_k17_S2 (k2 : (St × Int32) → Option (St)) (x1 : Int32) (mm : St) (x3 : Int32) : Option (St) :=
  if 6 ≤ x3 then
    (some mm)
  else
    (ck (inb (x1 + x3) 600) <|
    ck (inb x3 6) <|
    k2 ((aS mm 18 x3 (mm 36 (x1 + x3).toNatClampNeg)), x3 + 1))
def fX6_back_k17_L2 (x1 : Int32) (mm : St) (x3 : Int32) : Option (St) := loopN (fun k a => fX6_back_k17_S2 k x1 (a.1) (a.2)) 1000 (mm, x3)
def fX6_back_k17 (mm : St) (x1 : Int32) : Option (St) :=
  fX6_back_k17_L2 x1 mm 0
def fX6_keeps_k16_S2 (k2 : (St × Int32) → Option (St)) (x1 : Int32) (mm : St) (x3 : Int32) : Option (St) :=
  if 6 ≤ x3 then
    (some mm)
  else
    (ck (inb x3 6) <|
    ck (inb (x1 + x3) 600) <|
    k2 ((aS mm 36 (x1 + x3) (mm 17 x3.toNatClampNeg)), x3 + 1))
def fX6_keeps_k16_L2 (x1 : Int32) (mm : St) (x3 : Int32) : Option (St) := loopN (fun k a => fX6_keeps_k16_S2 k x1 (a.1) (a.2)) 1000 (mm, x3)
def fX6_keeps_k16 (mm : St) (x1 : Int32) : Option (St) :=
  fX6_keeps_k16_L2 x1 mm 0
def fX6_back_k16_S2 (k2 : (St × Int32) → Option (St)) (x1 : Int32) (mm : St) (x3 : Int32) : Option (St) :=
  if 6 ≤ x3 then
    (some mm)
  else
    (ck (inb (x1 + x3) 600) <|
    ck (inb x3 6) <|
    k2 ((aS mm 17 x3 (mm 36 (x1 + x3).toNatClampNeg)), x3 + 1))
def fX6_back_k16_L2 (x1 : Int32) (mm : St) (x3 : Int32) : Option (St) := loopN (fun k a => fX6_back_k16_S2 k x1 (a.1) (a.2)) 1000 (mm, x3)
def fX6_back_k16 (mm : St) (x1 : Int32) : Option (St) :=
  fX6_back_k16_L2 x1 mm 0
def fX6_keeps_k15_S2 (k2 : (St × Int32) → Option (St)) (x1 : Int32) (mm : St) (x3 : Int32) : Option (St) :=
  if 6 ≤ x3 then
    (some mm)
  else
    (ck (inb x3 6) <|
    ck (inb (x1 + x3) 600) <|
    k2 ((aS mm 36 (x1 + x3) (mm 16 x3.toNatClampNeg)), x3 + 1))
def fX6_keeps_k15_L2 (x1 : Int32) (mm : St) (x3 : Int32) : Option (St) := loopN (fun k a => fX6_keeps_k15_S2 k x1 (a.1) (a.2)) 1000 (mm, x3)
def fX6_keeps_k15 (mm : St) (x1 : Int32) : Option (St) :=
  fX6_keeps_k15_L2 x1 mm 0
def fX6_back_k15_S2 (k2 : (St × Int32) → Option (St)) (x1 : Int32) (mm : St) (x3 : Int32) : Option (St) :=
  if 6 ≤ x3 then
    (some mm)
  else
    (ck (inb (x1 + x3) 600) <|
    ck (inb x3 6) <|
    k2 ((aS mm 16 x3 (mm 36 (x1 + x3).toNatClampNeg)), x3 + 1))
def fX6_back_k15_L2 (x1 : Int32) (mm : St) (x3 : Int32) : Option (St) := loopN (fun k a => fX6_back_k15_S2 k x1 (a.1) (a.2)) 1000 (mm, x3)
def fX6_back_k15 (mm : St) (x1 : Int32) : Option (St) :=
  fX6_back_k15_L2 x1 mm 0
def fX6_rows_J258 (k216 : (St × Int32) → Option (St)) (mm : St) (x1 : Int32) (x4 : Int32) : Option (St) :=
  ck (inb x4 30) <|
  ck (inb x4 60) <|
  ck (inb x4 30) <|
  ck (inb (30 + x4) 60) <|
  k216 ((aS (aS mm 37 x4 (vp_nar .boolean (mm 12 x4.toNatClampNeg))) 37 (30 + x4) (vp_nar .boolean (mm 10 x4.toNatClampNeg))), x4 + 1)
def fX6_rows_S216 (k216 : (St × Int32) → Option (St)) (x1 : Int32) (mm : St) (x4 : Int32) : Option (St) :=
  if 30 ≤ x4 then
    (some mm)
  else
    (if x1 = 0 then
      (fX6_rows_J258 k216 mm x1 x4)
    else
      (ck (inb x4 60) <|
      ck (inb x4 30) <|
      ck (inb (30 + x4) 60) <|
      ck (inb x4 30) <|
      fX6_rows_J258 k216 (aS (aS mm 12 x4 (vp_nar .boolean (mm 37 x4.toNatClampNeg))) 10 x4 (vp_nar .boolean (mm 37 (30 + x4).toNatClampNeg))) x1 x4))
def fX6_rows_L216 (x1 : Int32) (mm : St) (x4 : Int32) : Option (St) := loopN (fun k a => fX6_rows_S216 k x1 (a.1) (a.2)) 1000 (mm, x4)
def fX6_rows_J213 (mm : St) (x1 : Int32) : Option (St) :=
  fX6_rows_L216 x1 mm 0
def fX6_rows_S10 (k10 : (St × Int32 × Int32) → Option (St)) (x1 : Int32) (mm : St) (x3 : Int32) (x4 : Int32) : Option (St) :=
  if 13 ≤ x4 then
    (fX6_rows_J213 mm x1)
  else
    (if x4 = 0 then
      (if x1 = 0 then
        (bd (fX6_keeps_k15 mm x3) <| fun q199 =>
        k10 (q199, x3 + 6, x4 + 1))
      else
        (bd (fX6_back_k15 mm x3) <| fun q190 =>
        k10 (q190, x3 + 6, x4 + 1)))
    else
      (if x4 = 1 then
        (if x1 = 0 then
          (bd (fX6_keeps_k16 mm x3) <| fun q199 =>
          k10 (q199, x3 + 6, x4 + 1))
        else
          (bd (fX6_back_k16 mm x3) <| fun q190 =>
          k10 (q190, x3 + 6, x4 + 1)))
      else
        (if x4 = 2 then
          (if x1 = 0 then
            (bd (fX6_keeps_k17 mm x3) <| fun q199 =>
            k10 (q199, x3 + 6, x4 + 1))
          else
            (bd (fX6_back_k17 mm x3) <| fun q190 =>
            k10 (q190, x3 + 6, x4 + 1)))
        else
          (if x4 = 3 then
            (if x1 = 0 then
              (bd (fX6_keeps_k18 mm x3) <| fun q199 =>
              k10 (q199, x3 + 6, x4 + 1))
            else
              (bd (fX6_back_k18 mm x3) <| fun q190 =>
              k10 (q190, x3 + 6, x4 + 1)))
          else
            (if x4 = 4 then
              (if x1 = 0 then
                (bd (fX6_keeps_k12 mm x3) <| fun q199 =>
                k10 (q199, x3 + 30, x4 + 1))
              else
                (bd (fX6_back_k12 mm x3) <| fun q190 =>
                k10 (q190, x3 + 30, x4 + 1)))
            else
              (if x4 = 5 then
                (if x1 = 0 then
                  (bd (fX6_keeps_k13 mm x3) <| fun q199 =>
                  k10 (q199, x3 + 30, x4 + 1))
                else
                  (bd (fX6_back_k13 mm x3) <| fun q190 =>
                  k10 (q190, x3 + 30, x4 + 1)))
              else
                (if x4 = 6 then
                  (if x1 = 0 then
                    (bd (fX6_keeps_k10 mm x3) <| fun q199 =>
                    k10 (q199, x3 + 30, x4 + 1))
                  else
                    (bd (fX6_back_k10 mm x3) <| fun q190 =>
                    k10 (q190, x3 + 30, x4 + 1)))
                else
                  (if x4 = 7 then
                    (if x1 = 0 then
                      (bd (fX6_keeps_k14 mm x3) <| fun q199 =>
                      k10 (q199, x3 + 30, x4 + 1))
                    else
                      (bd (fX6_back_k14 mm x3) <| fun q190 =>
                      k10 (q190, x3 + 30, x4 + 1)))
                  else
                    (if x4 = 8 then
                      (if x1 = 0 then
                        (bd (fX6_keeps_k23 mm x3) <| fun q199 =>
                        k10 (q199, x3 + 6, x4 + 1))
                      else
                        (bd (fX6_back_k23 mm x3) <| fun q190 =>
                        k10 (q190, x3 + 6, x4 + 1)))
                    else
                      (if x4 = 9 then
                        (if x1 = 0 then
                          (bd (fX6_keeps_k24 mm x3) <| fun q199 =>
                          k10 (q199, x3 + 48, x4 + 1))
                        else
                          (bd (fX6_back_k24 mm x3) <| fun q190 =>
                          k10 (q190, x3 + 48, x4 + 1)))
                      else
                        (if x4 = 10 then
                          (if x1 = 0 then
                            (bd (fX6_keeps_k25 mm x3) <| fun q199 =>
                            k10 (q199, x3 + 48, x4 + 1))
                          else
                            (bd (fX6_back_k25 mm x3) <| fun q190 =>
                            k10 (q190, x3 + 48, x4 + 1)))
                        else
                          (if x4 = 11 then
                            (if x1 = 0 then
                              (bd (fX6_keeps_k26 mm x3) <| fun q199 =>
                              k10 (q199, x3 + 48, x4 + 1))
                            else
                              (bd (fX6_back_k26 mm x3) <| fun q190 =>
                              k10 (q190, x3 + 48, x4 + 1)))
                          else
                            (if x1 = 0 then
                              (bd (fX6_keeps_k27 mm x3) <| fun q199 =>
                              k10 (q199, x3 + 48, x4 + 1))
                            else
                              (bd (fX6_back_k27 mm x3) <| fun q190 =>
                              k10 (q190, x3 + 48, x4 + 1)))))))))))))))
def fX6_rows_L10 (x1 : Int32) (mm : St) (x3 : Int32) (x4 : Int32) : Option (St) := loopN (fun k a => fX6_rows_S10 k x1 (a.1) (a.2.1) (a.2.2)) 1000 (mm, x3, x4)
def fX6_rows (mm : St) (x1 : Int32) : Option (St) :=
  fX6_rows_L10 x1 mm 0 0
def fX6_isLike_k15_S5 (k5 : (Int32 × Int32) → Option (Int32)) (mm : St) (x1 : Int32) (x3 : Int32) (x4 : Int32) : Option (Int32) :=
  if 6 ≤ x4 then
    (ck (isb x3) <|
    some x3)
  else
    (if x3 = 0 then
      (k5 (0, x4 + 1))
    else
      (ck (inb x4 6) <|
      ck (inb (x1 + x4) 600) <|
      if (mm 16 x4.toNatClampNeg) = (mm 36 (x1 + x4).toNatClampNeg) then
        (k5 (1, x4 + 1))
      else
        (k5 (0, x4 + 1))))
def fX6_isLike_k15_L5 (mm : St) (x1 : Int32) (x3 : Int32) (x4 : Int32) : Option (Int32) := loopN (fun k a => fX6_isLike_k15_S5 k mm x1 (a.1) (a.2)) 1000 (x3, x4)
def fX6_isLike_k15 (mm : St) (x1 : Int32) : Option (Int32) :=
  fX6_isLike_k15_L5 mm x1 1 0
def fX6_isLike_k16_S5 (k5 : (Int32 × Int32) → Option (Int32)) (mm : St) (x1 : Int32) (x3 : Int32) (x4 : Int32) : Option (Int32) :=
  if 6 ≤ x4 then
    (ck (isb x3) <|
    some x3)
  else
    (if x3 = 0 then
      (k5 (0, x4 + 1))
    else
      (ck (inb x4 6) <|
      ck (inb (x1 + x4) 600) <|
      if (mm 17 x4.toNatClampNeg) = (mm 36 (x1 + x4).toNatClampNeg) then
        (k5 (1, x4 + 1))
      else
        (k5 (0, x4 + 1))))
def fX6_isLike_k16_L5 (mm : St) (x1 : Int32) (x3 : Int32) (x4 : Int32) : Option (Int32) := loopN (fun k a => fX6_isLike_k16_S5 k mm x1 (a.1) (a.2)) 1000 (x3, x4)
def fX6_isLike_k16 (mm : St) (x1 : Int32) : Option (Int32) :=
  fX6_isLike_k16_L5 mm x1 1 0
def fX6_isLike_k17_S5 (k5 : (Int32 × Int32) → Option (Int32)) (mm : St) (x1 : Int32) (x3 : Int32) (x4 : Int32) : Option (Int32) :=
  if 6 ≤ x4 then
    (ck (isb x3) <|
    some x3)
  else
    (if x3 = 0 then
      (k5 (0, x4 + 1))
    else
      (ck (inb x4 6) <|
      ck (inb (x1 + x4) 600) <|
      if (mm 18 x4.toNatClampNeg) = (mm 36 (x1 + x4).toNatClampNeg) then
        (k5 (1, x4 + 1))
      else
        (k5 (0, x4 + 1))))
def fX6_isLike_k17_L5 (mm : St) (x1 : Int32) (x3 : Int32) (x4 : Int32) : Option (Int32) := loopN (fun k a => fX6_isLike_k17_S5 k mm x1 (a.1) (a.2)) 1000 (x3, x4)
def fX6_isLike_k17 (mm : St) (x1 : Int32) : Option (Int32) :=
  fX6_isLike_k17_L5 mm x1 1 0
def fX6_isLike_k18_S5 (k5 : (Int32 × Int32) → Option (Int32)) (mm : St) (x1 : Int32) (x3 : Int32) (x4 : Int32) : Option (Int32) :=
  if 6 ≤ x4 then
    (ck (isb x3) <|
    some x3)
  else
    (if x3 = 0 then
      (k5 (0, x4 + 1))
    else
      (ck (inb x4 6) <|
      ck (inb (x1 + x4) 600) <|
      if (mm 19 x4.toNatClampNeg) = (mm 36 (x1 + x4).toNatClampNeg) then
        (k5 (1, x4 + 1))
      else
        (k5 (0, x4 + 1))))
def fX6_isLike_k18_L5 (mm : St) (x1 : Int32) (x3 : Int32) (x4 : Int32) : Option (Int32) := loopN (fun k a => fX6_isLike_k18_S5 k mm x1 (a.1) (a.2)) 1000 (x3, x4)
def fX6_isLike_k18 (mm : St) (x1 : Int32) : Option (Int32) :=
  fX6_isLike_k18_L5 mm x1 1 0
def fX6_isLike_k12_S5 (k5 : (Int32 × Int32) → Option (Int32)) (mm : St) (x1 : Int32) (x3 : Int32) (x4 : Int32) : Option (Int32) :=
  if 30 ≤ x4 then
    (ck (isb x3) <|
    some x3)
  else
    (if x3 = 0 then
      (k5 (0, x4 + 1))
    else
      (ck (inb x4 30) <|
      ck (inb (x1 + x4) 600) <|
      if (mm 13 x4.toNatClampNeg) = (mm 36 (x1 + x4).toNatClampNeg) then
        (k5 (1, x4 + 1))
      else
        (k5 (0, x4 + 1))))
def fX6_isLike_k12_L5 (mm : St) (x1 : Int32) (x3 : Int32) (x4 : Int32) : Option (Int32) := loopN (fun k a => fX6_isLike_k12_S5 k mm x1 (a.1) (a.2)) 1000 (x3, x4)
def fX6_isLike_k12 (mm : St) (x1 : Int32) : Option (Int32) :=
  fX6_isLike_k12_L5 mm x1 1 0
def fX6_isAtRest_J178 (mm : St) (x1 : Int32) (x2 : Int32) : Option (Int32 × St) :=
  bd (fX6_rows (iS mm 0 x1) 1) <| fun q185 =>
  ck (isb x2) <|
  some (x2, q185)
def fX6_isAtRest_J140 (k91 : (Int32 × Int32) → Option (Int32 × St)) (mm : St) (x1 : Int32) (x2 : Int32) (x3 : Int32) (y0 : Int32) : Option (Int32 × St) :=
  if x2 = 0 then
    (k91 (0, x3 + 1))
  else
    (ck (inb x3 30) <|
    ck (inb x3 60) <|
    if (mm 12 x3.toNatClampNeg) = (mm 37 x3.toNatClampNeg) then
      (if y0 = 0 then
        (k91 (1, x3 + 1))
      else
        (k91 (0, x3 + 1)))
    else
      (k91 (0, x3 + 1)))
def fX6_isAtRest_J139 (k91 : (Int32 × Int32) → Option (Int32 × St)) (mm : St) (x1 : Int32) (x2 : Int32) (x3 : Int32) : Option (Int32 × St) :=
  fX6_isAtRest_J140 k91 mm x1 x2 x3 0
def fX6_isAtRest_S91 (k91 : (Int32 × Int32) → Option (Int32 × St)) (mm : St) (x1 : Int32) (x2 : Int32) (x3 : Int32) : Option (Int32 × St) :=
  if 30 ≤ x3 then
    (fX6_isAtRest_J178 mm x1 x2)
  else
    (ck (inb x3 30) <|
    if (mm 12 x3.toNatClampNeg) = 0 then
      (ck (inb x3 30) <|
      if (mm 10 x3.toNatClampNeg) = 0 then
        (ck (inb x3 30) <|
        if (mm 13 x3.toNatClampNeg) = 1 then
          (fX6_isAtRest_J140 k91 mm x1 x2 x3 1)
        else
          (ck (inb x3 30) <|
          if (mm 13 x3.toNatClampNeg) = 2 then
            (fX6_isAtRest_J140 k91 mm x1 x2 x3 1)
          else
            (fX6_isAtRest_J139 k91 mm x1 x2 x3)))
      else
        (fX6_isAtRest_J139 k91 mm x1 x2 x3))
    else
      (fX6_isAtRest_J139 k91 mm x1 x2 x3))
def fX6_isAtRest_L91 (mm : St) (x1 : Int32) (x2 : Int32) (x3 : Int32) : Option (Int32 × St) := loopN (fun k a => fX6_isAtRest_S91 k mm x1 (a.1) (a.2)) 1000 (x2, x3)
def fX6_isAtRest_J88 (mm : St) (x1 : Int32) (y0 : Int32) : Option (Int32 × St) :=
  fX6_isAtRest_L91 mm x1 y0 0
def fX6_isAtRest_J87 (mm : St) (x1 : Int32) : Option (Int32 × St) :=
  fX6_isAtRest_J88 mm x1 0
def fX6_isAtRest (mm : St) : Option (Int32 × St) :=
  bd (fX6_rows (iS mm 40 0) 0) <| fun q7 =>
  bd (fX6_beats q7) <| fun q16 =>
  bd (fX6_isLike_k15 q16 0) <| fun q25 =>
  if q25 = 0 then
    (fX6_isAtRest_J87 q16 (q7 0 0))
  else
    (bd (fX6_isLike_k16 q16 6) <| fun q38 =>
    if q38 = 0 then
      (fX6_isAtRest_J87 q16 (q7 0 0))
    else
      (bd (fX6_isLike_k17 q16 12) <| fun q51 =>
      if q51 = 0 then
        (fX6_isAtRest_J87 q16 (q7 0 0))
      else
        (bd (fX6_isLike_k18 q16 18) <| fun q64 =>
        if q64 = 0 then
          (fX6_isAtRest_J87 q16 (q7 0 0))
        else
          (bd (fX6_isLike_k12 q16 24) <| fun q77 =>
          if q77 = 0 then
            (fX6_isAtRest_J87 q16 (q7 0 0))
          else
            (fX6_isAtRest_J88 q16 (q7 0 0) 1)))))
def fX6_found_J191 (mm : St) (x2 : Int32) : Option (Int32 × St) :=
  ck (inb x2 6) <|
  some ((1000 * x2) + (mm 38 x2.toNatClampNeg), mm)
def fX6_found_S152 (k152 : (Int32 × Int32) → Option (Int32 × St)) (mm : St) (x2 : Int32) (x3 : Int32) : Option (Int32 × St) :=
  if 6 ≤ x3 then
    (fX6_found_J191 mm x2)
  else
    (ck (inb x3 6) <|
    if 1000000 ≤ (mm 38 x3.toNatClampNeg) then
      (k152 (x2, x3 + 1))
    else
      (bd (fX6_isBetter mm x3 x2) <| fun q173 =>
      if q173 = 0 then
        (k152 (x2, x3 + 1))
      else
        (k152 (x3, x3 + 1))))
def fX6_found_L152 (mm : St) (x2 : Int32) (x3 : Int32) : Option (Int32 × St) := loopN (fun k a => fX6_found_S152 k mm (a.1) (a.2)) 1000 (x2, x3)
def fX6_found_J148 (mm : St) (x1 : Int32) : Option (Int32 × St) :=
  fX6_found_L152 mm x1 0
def fX6_found_S63 (k55 : (St × Int32) → Option (Int32 × St)) (k63 : (St × Int32) → Option (Int32 × St)) (x1 : Int32) (x2 : Int32) (mm : St) (x3 : Int32) : Option (Int32 × St) :=
  if 30 ≤ x3 then
    (k55 (mm, x2 + 1))
  else
    (bd (fX6_isPassable mm x3) <| fun q71 =>
    if q71 = 0 then
      (k63 (mm, x3 + 1))
    else
      (ck (inb (x3 / 5) 6) <|
      ck (inb x3 30) <|
      ck (inb x3 30) <|
      ck (inb ((mm 3 x3.toNatClampNeg) / 5) 6) <|
      if (mm 38 ((mm 3 x3.toNatClampNeg) / 5).toNatClampNeg) ≤ ((mm 38 (x3 / 5).toNatClampNeg) + (mm 4 x3.toNatClampNeg)) then
        (k63 (mm, x3 + 1))
      else
        (ck (inb x3 30) <|
        ck (inb (x3 / 5) 6) <|
        ck (inb x3 30) <|
        ck (inb ((mm 3 x3.toNatClampNeg) / 5) 6) <|
        k63 ((aS mm 38 ((mm 3 x3.toNatClampNeg) / 5) ((mm 38 (x3 / 5).toNatClampNeg) + (mm 4 x3.toNatClampNeg))), x3 + 1))))
def fX6_found_L63 (k55 : (St × Int32) → Option (Int32 × St)) (x1 : Int32) (x2 : Int32) (mm : St) (x3 : Int32) : Option (Int32 × St) := loopN (fun k a => fX6_found_S63 k55 k x1 x2 (a.1) (a.2)) 1000 (mm, x3)
def fX6_found_S55 (k55 : (St × Int32) → Option (Int32 × St)) (x1 : Int32) (mm : St) (x2 : Int32) : Option (Int32 × St) :=
  if 6 ≤ x2 then
    (fX6_found_J148 mm x1)
  else
    (fX6_found_L63 k55 x1 x2 mm 0)
def fX6_found_L55 (x1 : Int32) (mm : St) (x2 : Int32) : Option (Int32 × St) := loopN (fun k a => fX6_found_S55 k x1 (a.1) (a.2)) 1000 (mm, x2)
def fX6_found_J53 (mm : St) (x1 : Int32) : Option (Int32 × St) :=
  fX6_found_L55 x1 mm 0
def fX6_found_J46 (k23 : (St × Int32) → Option (Int32 × St)) (mm : St) (x1 : Int32) (x2 : Int32) (y0 : Int32) (y1 : Int32) : Option (Int32 × St) :=
  ck (inb y1 6) <|
  k23 ((aS mm 38 y1 y0), x2 + 1)
def fX6_found_S23 (k23 : (St × Int32) → Option (Int32 × St)) (x1 : Int32) (mm : St) (x2 : Int32) : Option (Int32 × St) :=
  if 6 ≤ x2 then
    (fX6_found_J53 mm x1)
  else
    (if x2 = x1 then
      (fX6_found_J46 k23 mm x1 x2 0 x2)
    else
      (fX6_found_J46 k23 mm x1 x2 1000000 x2))
def fX6_found_L23 (x1 : Int32) (mm : St) (x2 : Int32) : Option (Int32 × St) := loopN (fun k a => fX6_found_S23 k x1 (a.1) (a.2)) 1000 (mm, x2)
def fX6_found_J13 (mm : St) (x1 : Int32) (y0 : Int32) : Option (Int32 × St) :=
  bd (fX6_fails mm y0) <| fun q13 =>
  if q13.1 = 0 then
    (fX6_found_L23 x1 (q13.2) 0)
  else
    (some (0, (q13.2)))
def fX6_found (mm : St) (x1 : Int32) : Option (Int32 × St) :=
  bd (fX6_isSwitch x1) <| fun q2 =>
  if q2 = 0 then
    (fX6_found_J13 mm x1 1)
  else
    (fX6_found_J13 mm x1 0)
def fX6_walk_J239 (k87 : (Int32 × Int32 × Int32) → Option (Int32 × St)) (mm : St) (x2 : Int32) (x6 : Int32) (x9 : Int32) (y0 : Int32) : Option (Int32 × St) :=
  ck (inb x9 30) <|
  k87 (mm 3 x9.toNatClampNeg, y0, x6 + 1)
def fX6_walk_J238 (k87 : (Int32 × Int32 × Int32) → Option (Int32 × St)) (mm : St) (x2 : Int32) (x6 : Int32) (x9 : Int32) : Option (Int32 × St) :=
  fX6_walk_J239 k87 mm x2 x6 x9 0
def fX6_walk_J193 (mm : St) (x2 : Int32) (x6 : Int32) (x9 : Int32) : Option (Int32 × St) :=
  ck (inb x9 30) <|
  if (mm 5 x9.toNatClampNeg) = x2 then
    (some (x6, mm))
  else
    (some ((-1), mm))
def fX6_walk_J151 (k87 : (Int32 × Int32 × Int32) → Option (Int32 × St)) (mm : St) (x2 : Int32) (x6 : Int32) (x7 : Int32) (y0 : Int32) : Option (Int32 × St) :=
  if y0 = (-1) then
    (some ((-1), mm))
  else
    (ck (inb y0 30) <|
    if (mm 12 y0.toNatClampNeg) = 0 then
      (some ((-1), mm))
    else
      (bd (fX6_hasLane mm y0 x7) <| fun q174 =>
      if q174 = 0 then
        (some ((-1), mm))
      else
        (ck (inb y0 30) <|
        if (mm 5 y0.toNatClampNeg) = (-1) then
          (ck (inb y0 30) <|
          if (mm 7 y0.toNatClampNeg) = 0 then
            (fX6_walk_J238 k87 mm x2 x6 y0)
          else
            (ck (inb y0 30) <|
            if x7 = (mm 9 y0.toNatClampNeg) then
              (fX6_walk_J238 k87 mm x2 x6 y0)
            else
              (fX6_walk_J239 k87 mm x2 x6 y0 x7)))
        else
          (fX6_walk_J193 mm x2 x6 y0))))
def fX6_walk_J124 (k87 : (Int32 × Int32 × Int32) → Option (Int32 × St)) (mm : St) (x2 : Int32) (x4 : Int32) (x6 : Int32) (x7 : Int32) (y0 : Int32) : Option (Int32 × St) :=
  if y0 = (-1) then
    (fX6_walk_J151 k87 mm x2 x6 x7 (-1))
  else
    (ck (inb y0 48) <|
    fX6_walk_J151 k87 mm x2 x6 x7 ((x4 - (x4 - x4 / 5 * 5)) + (mm 27 y0.toNatClampNeg)))
def fX6_walk_S87 (k87 : (Int32 × Int32 × Int32) → Option (Int32 × St)) (mm : St) (x2 : Int32) (x4 : Int32) (x5 : Int32) (x6 : Int32) : Option (Int32 × St) :=
  if 12 < x6 then
    (some ((-1), mm))
  else
    (bd (fX6_laneOf mm x4 x5) <| fun q99 =>
    if q99 = 0 then
      (fX6_walk_J124 k87 mm x2 x4 x6 q99 (-1))
    else
      (bd (fX6_find mm (x4 / 5) q99 x2) <| fun q121 =>
      fX6_walk_J124 k87 mm x2 x4 x6 q99 q121))
def fX6_walk_L87 (mm : St) (x2 : Int32) (x4 : Int32) (x5 : Int32) (x6 : Int32) : Option (Int32 × St) := loopN (fun k a => fX6_walk_S87 k mm x2 (a.1) (a.2.1) (a.2.2)) 1000 (x4, x5, x6)
def fX6_walk_J73 (mm : St) (x2 : Int32) (x4 : Int32) (y0 : Int32) : Option (Int32 × St) :=
  bd (fX6_fails mm y0) <| fun q73 =>
  if q73.1 = 0 then
    (fX6_walk_L87 (q73.2) x2 x4 0 1)
  else
    (some (0, (q73.2)))
def fX6_walk_J33 (mm : St) (x1 : Int32) (x2 : Int32) (x3 : Int32) (y0 : Int32) : Option (Int32 × St) :=
  if x3 = 0 then
    (fX6_walk_J73 mm x2 y0 1)
  else
    (if x1 = x2 then
      (fX6_walk_J73 mm x2 y0 2)
    else
      (if y0 = (-1) then
        (fX6_walk_J73 mm x2 y0 3)
      else
        (bd (fX6_portOf mm x2) <| fun q61 =>
        if q61 = (-1) then
          (fX6_walk_J73 mm x2 y0 3)
        else
          (fX6_walk_J73 mm x2 y0 0))))
def fX6_walk_J19 (mm : St) (x1 : Int32) (x2 : Int32) (y0 : Int32) : Option (Int32 × St) :=
  if y0 = 0 then
    (fX6_walk_J33 mm x1 x2 y0 (-1))
  else
    (bd (fX6_portOf mm x1) <| fun q26 =>
    fX6_walk_J33 mm x1 x2 y0 q26)
def fX6_walk_J18 (mm : St) (x1 : Int32) (x2 : Int32) : Option (Int32 × St) :=
  fX6_walk_J19 mm x1 x2 0
def fX6_walk (mm : St) (x1 : Int32) (x2 : Int32) : Option (Int32 × St) :=
  bd (fX6_isHouse x1) <| fun q1 =>
  if q1 = 0 then
    (fX6_walk_J18 mm x1 x2)
  else
    (bd (fX6_isHouse x2) <| fun q8 =>
    if q8 = 0 then
      (fX6_walk_J18 mm x1 x2)
    else
      (fX6_walk_J19 mm x1 x2 1))
def fX6_init_S349 (k349 : (St × Int32) → Option (St)) (mm : St) (x1 : Int32) : Option (St) :=
  if 30 ≤ x1 then
    (some mm)
  else
    (ck (inb x1 30) <|
    ck (inb x1 30) <|
    ck (inb x1 30) <|
    ck (inb x1 30) <|
    k349 ((aS (aS (aS (aS mm 3 x1 (-1)) 5 x1 (-1)) 8 x1 7) 9 x1 1), x1 + 1))
def fX6_init_L349 (mm : St) (x1 : Int32) : Option (St) := loopN (fun k a => fX6_init_S349 k (a.1) (a.2)) 1000 (mm, x1)
def fX6_init_J347 (mm : St) : Option (St) :=
  fX6_init_L349 mm 0
def fX6_init_S313 (k313 : (St × Int32) → Option (St)) (mm : St) (x1 : Int32) : Option (St) :=
  if 6 ≤ x1 then
    (fX6_init_J347 mm)
  else
    (ck (inb x1 6) <|
    ck (inb x1 6) <|
    ck (inb x1 6) <|
    k313 ((aS (aS (aS mm 2 x1 8) 16 x1 x1) 19 x1 (-1)), x1 + 1))
def fX6_init_L313 (mm : St) (x1 : Int32) : Option (St) := loopN (fun k a => fX6_init_S313 k (a.1) (a.2)) 1000 (mm, x1)
def fX6_init : Option (St) :=
  fX6_init_L313 (iS st0 1 20) 0
