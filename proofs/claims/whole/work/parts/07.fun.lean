def fX2_forget  (σ : Sg) : Option (Sg) :=
  filI σ 7 12 0 fun σ1 =>
  some σ1
def fX0_forget  (σ : Sg) : Option (Sg) :=
  filI σ 14 20 0 fun σ1 =>
  filI σ1 15 20 0 fun σ3 =>
  some σ3
def fX8_forget  (σ : Sg) : Option (Sg) :=
  filB σ 2 1024 0 fun σ1 =>
  filI σ1 5 6 0 fun σ3 =>
  (fX2_forget σ3).bind fun q5 =>
  (fX0_forget q5).bind fun q7 =>
  some q7
def fX7_forgetFaults  (σ : Sg) : Option (Sg) :=
  filI σ 49 120 0 fun σ1 =>
  some σ1
def fX7_forget  (σ : Sg) : Option (Sg) :=
  (fX7_forgetFaults σ).bind fun q1 =>
  st1 (put q1 48 9 (-1)) fun σ3 =>
  some σ3
def fX11_begin  (σ : Sg) : Option (Int × Sg) :=
  (fX8_forget σ).bind fun q1 =>
  st1 (put q1 19 4 0) fun σ3 =>
  st1 (put σ3 40 3 0) fun σ5 =>
  st1 (put σ5 44 3 0) fun σ7 =>
  (fX7_forget σ7).bind fun q9 =>
  st1 (put q9 54 6 0) fun σ11 =>
  st1 (put σ11 0 9 2) fun σ13 =>
  st1 (put σ13 0 10 0) fun σ15 =>
  some (0, σ15)
def fX8_groundOf (x1 : Int) (x2 : Int) (σ : Sg) : Option (Int) :=
  if x1 < 0 then (
    some 1)
  else (
    if x1 < 32 then (
      if x2 < 0 then (
        some 1)
      else (
        if x2 < 32 then (
          ck (32 * x2) fun v1 =>
          ck (v1 + x1) fun v3 =>
          rd σ 2 1024 v3 fun v5 =>
          some v5)
        else (
          some 1)))
    else (
      some 1))
def fX8_setGround (x1 : Int) (x2 : Int) (x3 : Int) (σ : Sg) : Option (Sg) :=
  if x1 < 0 then (
    some σ)
  else (
    if x1 < 32 then (
      if x2 < 0 then (
        some σ)
      else (
        if x2 < 32 then (
          ck (32 * x2) fun v1 =>
          ck (v1 + x1) fun v3 =>
          wrB σ 2 1024 v3 (toB x3) fun σ5 =>
          some σ5)
        else (
          some σ)))
    else (
      some σ))
def fX11_cell (x1 : Int) (x2 : Int) (x3 : Int) (σ : Sg) : Option (Int × Sg) :=
  if x1 < 0 then (
    some ((-1), σ))
  else (
    if x1 < 32 then (
      if x2 < 0 then (
        some ((-1), σ))
      else (
        if x2 < 32 then (
          if x3 < 0 then (
            some ((-1), σ))
          else (
            if x3 ≤ 2 then (
              (fX8_groundOf x1 x2 σ).bind fun q1 =>
              (fX8_setGround x1 x2 x3 σ).bind fun q3 =>
              some (q1, q3))
            else (
              some ((-1), σ))))
        else (
          some ((-1), σ))))
    else (
      some ((-1), σ)))
def fX2_isAsSaid (x0 : Int) (x1 : Int) (x2 : Int) (x3 : Int) (σ : Sg) : Option (Int) :=
  if x0 < 1 then (
    some 0)
  else (
    if x0 ≤ 60 then (
      if x1 < 10 then (
        some 0)
      else (
        if x1 ≤ 300 then (
          if x2 < 0 then (
            some 0)
          else (
            if x2 ≤ 60 then (
              if x3 < 0 then (
                some 0)
              else (
                dv x3 1000 fun v1 =>
                md x3 1000 fun v3 =>
                dv v3 10 fun v5 =>
                if v1 < 1 then (
                  some 0)
                else (
                  if v1 ≤ 99 then (
                    if v5 < 1 then (
                      some 0)
                    else (
                      if v5 ≤ 9 then (
                        md x3 10 fun v7 =>
                        if v7 ≤ 5 then (
                          some 1)
                        else (
                          some 0))
                      else (
                        some 0)))
                  else (
                    some 0))))
            else (
              some 0)))
        else (
          some 0)))
    else (
      some 0))
def fX1_isCue (x0 : Nat) (x1 : Int) (σ : Sg) : Option (Int) :=
  if x1 < 0 then (
    some 0)
  else (
    if x1 < (σ x0 4) then (
      if x1 < 120 then (
        some 1)
      else (
        some 0))
    else (
      some 0))
def fX1_kindOf (x0 : Nat) (x1 : Int) (σ : Sg) : Option (Int) :=
  (fX1_isCue x0 x1 σ).bind fun q1 =>
  if q1 = 0 then (
    some 0)
  else (
    rd σ (x0 + 2) 120 x1 fun v3 =>
    some v3)
def fX1_burstOf (x0 : Nat) (x1 : Int) (σ : Sg) : Option (Int) :=
  (fX1_isCue x0 x1 σ).bind fun q1 =>
  if q1 = 0 then (
    some 0)
  else (
    rd σ (x0 + 1) 120 x1 fun v3 =>
    some v3)
def fX1_firstBurstOfKind_L6P33 (rec : Nat → Int → Int → Int → Sg → Option (Int)) (x0 : Nat) (x1 : Int) (x2 : Int) (x3 : Int) (σ : Sg) : Option (Int) :=
  ck (x3 + 1) fun v6 =>
  rec x0 x1 x2 v6 σ
def fX1_firstBurstOfKind_L6 : Nat → Nat → Int → Int → Int → Sg → Option (Int)
  | 0, _, _, _, _, _ => none
  | n + 1, x0, x1, x2, x3, σ =>
    if x3 < (σ x0 4) then (
      (fX1_kindOf x0 x3 σ).bind fun q1 =>
      if q1 = x1 then (
        (fX1_burstOf x0 x3 σ).bind fun q8 =>
        fX1_firstBurstOfKind_L6P33 (fX1_firstBurstOfKind_L6 n) x0 x1 (mnI x2 q8) x3 σ)
      else (
        fX1_firstBurstOfKind_L6P33 (fX1_firstBurstOfKind_L6 n) x0 x1 x2 x3 σ))
    else (
      some x2)
def fX1_firstBurstOfKind (x0 : Nat) (x1 : Int) (σ : Sg) : Option (Int) :=
  (fX1_firstBurstOfKind_L6 fu x0 x1 20000 0 σ).bind fun q12 =>
  some q12
def fX2_tell (x1 : Int) (x2 : Int) (x3 : Int) (x4 : Int) (x5 : Int) (σ : Sg) : Option (Sg) :=
  if x1 < 0 then (
    some σ)
  else (
    if x1 < 12 then (
      wr σ 7 12 x1 x2 fun σ1 =>
      wr σ1 8 12 x1 x3 fun σ3 =>
      wr σ3 9 12 x1 x4 fun σ5 =>
      dv x5 1000 fun v7 =>
      wr σ5 10 12 x1 v7 fun σ9 =>
      md x5 1000 fun v11 =>
      dv v11 10 fun v13 =>
      wr σ9 11 12 x1 v13 fun σ15 =>
      md x5 10 fun v17 =>
      wr σ15 12 12 x1 v17 fun σ19 =>
      some σ19)
    else (
      some σ))
def fX2_isTold (x1 : Int) (σ : Sg) : Option (Int) :=
  if x1 < 0 then (
    some 0)
  else (
    if x1 < 12 then (
      rd σ 7 12 x1 fun v1 =>
      if v1 ≤ 0 then (
        some 0)
      else (
        some 1))
    else (
      some 0))
def fX2_heightOf (x1 : Int) (σ : Sg) : Option (Int) :=
  (fX2_isTold x1 σ).bind fun q1 =>
  if q1 = 0 then (
    some 0)
  else (
    rd σ 8 12 x1 fun v3 =>
    some v3)
def fX2_burnOf (x1 : Int) (σ : Sg) : Option (Int) :=
  (fX2_isTold x1 σ).bind fun q1 =>
  if q1 = 0 then (
    some 0)
  else (
    rd σ 10 12 x1 fun v3 =>
    some v3)
def fX0_slot (x1 : Int) (x2 : Int) (x3 : Int) (σ : Sg) : Option (Int) :=
  if x1 < 0 then (
    some (-1))
  else (
    if x1 < 12 then (
      if x2 < 0 then (
        some (-1))
      else (
        if x2 < 4 then (
          if x3 < 0 then (
            some (-1))
          else (
            if x3 ≤ 1 then (
              ck (x1 * 4) fun v1 =>
              ck (v1 + x2) fun v3 =>
              ck (v3 * 2) fun v5 =>
              ck (v5 + x3) fun v7 =>
              some v7)
            else (
              some (-1))))
        else (
          some (-1))))
    else (
      some (-1)))
def fX0_reckonFall_L38P111 (rec : Int → Int → Int → Int → Int → Int → Int → Int → Sg → Option (Int × Int × Int)) (x1 : Int) (x2 : Int) (x4 : Int) (x5 : Int) (x6 : Int) (x7 : Int) (x9 : Int) (y0 : Int) (σ : Sg) : Option (Int × Int × Int) :=
  ck (x9 + 1) fun v24 =>
  rec x1 x2 x4 x5 x6 x7 y0 v24 σ
def fX0_reckonFall_L38 : Nat → Int → Int → Int → Int → Int → Int → Int → Int → Sg → Option (Int × Int × Int)
  | 0, _, _, _, _, _, _, _, _, _ => none
  | n + 1, x1, x2, x4, x5, x6, x7, x8, x9, σ =>
    if x9 < x4 then (
      if x8 = 0 then (
        dv x7 500 fun v1 =>
        ck (x2 * 5) fun v3 =>
        ck (v3 + (mxI 0 (mnI 4 v1))) fun v5 =>
        rd σ 14 20 v5 fun v7 =>
        ck (x5 + v7) fun v9 =>
        ck (x2 * 5) fun v11 =>
        ck (v11 + (mxI 0 (mnI 4 v1))) fun v13 =>
        rd σ 15 20 v13 fun v15 =>
        ck (x6 + v15) fun v17 =>
        ck (x7 + (-25)) fun v19 =>
        if v19 ≤ 0 then (
          fX0_reckonFall_L38P111 (fX0_reckonFall_L38 n) x1 x2 x4 v9 v17 v19 x9 1 σ)
        else (
          fX0_reckonFall_L38P111 (fX0_reckonFall_L38 n) x1 x2 x4 v9 v17 v19 x9 0 σ))
      else (
        some (x5, x6, x8)))
    else (
      some (x5, x6, x8))
def fX0_reckonFall (x1 : Int) (x2 : Int) (x3 : Int) (x4 : Int) (σ : Sg) : Option (Sg) :=
  if x1 < 0 then (
    some σ)
  else (
    if x1 < 96 then (
      if x2 < 0 then (
        some σ)
      else (
        if x2 < 4 then (
          (fX0_reckonFall_L38 fu x1 x2 x4 0 0 x3 0 0 σ).bind fun q29 =>
          wrZ σ 16 96 x1 q29.2.2 fun σ33 =>
          wr σ33 17 96 x1 q29.1 fun σ35 =>
          wr σ35 18 96 x1 q29.2.1 fun σ37 =>
          some σ37)
        else (
          some σ)))
    else (
      some σ))
def fX0_reckonFalls (x2 : Int) (x3 : Int) (σ : Sg) : Option (Sg) :=
  (fX2_heightOf x2 σ).bind fun q1 =>
  (fX2_burnOf x2 σ).bind fun q3 =>
  (fX0_slot x2 x3 0 σ).bind fun q5 =>
  ck (10 * q1) fun v7 =>
  (fX0_reckonFall q5 x3 v7 q3 σ).bind fun q9 =>
  (fX0_slot x2 x3 1 q9).bind fun q11 =>
  ck (5 * q1) fun v13 =>
  (fX0_reckonFall q11 x3 v13 q3 q9).bind fun q15 =>
  some q15
def fX0_reckonKind_L2 : Nat → Int → Int → Sg → Option (Sg)
  | 0, _, _, _ => none
  | n + 1, x2, x3, σ =>
    if x3 < 4 then (
      (fX0_reckonFalls x2 x3 σ).bind fun q1 =>
      ck (x3 + 1) fun v3 =>
      fX0_reckonKind_L2 n x2 v3 q1)
    else (
      some σ)
def fX0_reckonKind (x2 : Int) (σ : Sg) : Option (Sg) :=
  (fX0_reckonKind_L2 fu x2 0 σ).bind fun q6 =>
  some q6
def fX11_kind (x1 : Int) (x2 : Int) (x3 : Int) (x4 : Int) (x5 : Int) (σ : Sg) : Option (Int × Sg) :=
  if x1 < 0 then (
    some ((-1), σ))
  else (
    if x1 < 12 then (
      (fX2_isAsSaid x2 x3 x4 x5 σ).bind fun q1 =>
      if q1 = 0 then (
        some ((-1), σ))
      else (
        (fX1_firstBurstOfKind 19 x1 σ).bind fun q3 =>
        if q3 < x2 then (
          some ((-5), σ))
        else (
          (fX2_tell x1 x2 x3 x4 x5 σ).bind fun q5 =>
          (fX0_reckonKind x1 q5).bind fun q7 =>
          some (x1, q7))))
    else (
      some ((-1), σ)))
def fX8_tellBarge (x1 : Int) (x2 : Int) (x3 : Int) (x4 : Int) (σ : Sg) : Option (Sg) :=
  if x1 < 0 then (
    some σ)
  else (
    if x1 < 6 then (
      wr σ 3 6 x1 x2 fun σ1 =>
      wr σ1 4 6 x1 x3 fun σ3 =>
      wr σ3 5 6 x1 x4 fun σ5 =>
      some σ5)
    else (
      some σ))
def fX11_barge (x1 : Int) (x2 : Int) (x3 : Int) (x4 : Int) (σ : Sg) : Option (Int × Sg) :=
  if x1 < 0 then (
    some ((-1), σ))
  else (
    if x1 < 6 then (
      if x2 < 0 then (
        some ((-1), σ))
      else (
        if x2 < 32 then (
          if x3 < 0 then (
            some ((-1), σ))
          else (
            if x3 < 32 then (
              if x4 < 1 then (
                some ((-1), σ))
              else (
                if x4 ≤ 40 then (
                  (fX8_tellBarge x1 x2 x3 x4 σ).bind fun q1 =>
                  some (x1, q1))
                else (
                  some ((-1), σ))))
            else (
              some ((-1), σ))))
        else (
          some ((-1), σ))))
    else (
      some ((-1), σ)))
def fX11_isDrift (x0 : Int) (σ : Sg) : Option (Int) :=
  if x0 < (-50) then (
    some 0)
  else (
    if x0 ≤ 50 then (
      some 1)
    else (
      some 0))
def fX0_setDrift (x1 : Int) (x2 : Int) (x3 : Int) (x4 : Int) (σ : Sg) : Option (Sg) :=
  if x1 < 0 then (
    some σ)
  else (
    if x1 < 4 then (
      if x2 < 0 then (
        some σ)
      else (
        if x2 < 5 then (
          ck (x1 * 5) fun v1 =>
          ck (v1 + x2) fun v3 =>
          wr σ 14 20 v3 x3 fun σ5 =>
          ck (x1 * 5) fun v7 =>
          ck (v7 + x2) fun v9 =>
          wr σ5 15 20 v9 x4 fun σ11 =>
          some σ11)
        else (
          some σ)))
    else (
      some σ))
def fX0_reckonWind_L2 : Nat → Int → Int → Sg → Option (Sg)
  | 0, _, _, _ => none
  | n + 1, x2, x3, σ =>
    if x3 < 12 then (
      (fX0_reckonFalls x3 x2 σ).bind fun q1 =>
      ck (x3 + 1) fun v3 =>
      fX0_reckonWind_L2 n x2 v3 q1)
    else (
      some σ)
def fX0_reckonWind (x2 : Int) (σ : Sg) : Option (Sg) :=
  (fX0_reckonWind_L2 fu x2 0 σ).bind fun q6 =>
  some q6
def fX11_wind (x1 : Int) (x2 : Int) (x3 : Int) (x4 : Int) (σ : Sg) : Option (Int × Sg) :=
  if x1 < 0 then (
    some ((-1), σ))
  else (
    if x1 < 4 then (
      if x2 < 0 then (
        some ((-1), σ))
      else (
        if x2 < 5 then (
          (fX11_isDrift x3 σ).bind fun q1 =>
          if q1 = 0 then (
            some ((-1), σ))
          else (
            (fX11_isDrift x4 σ).bind fun q3 =>
            if q3 = 0 then (
              some ((-1), σ))
            else (
              (fX0_setDrift x1 x2 x3 x4 σ).bind fun q5 =>
              (fX0_reckonWind x1 q5).bind fun q7 =>
              some (0, q7))))
        else (
          some ((-1), σ))))
    else (
      some ((-1), σ)))
def fX11_apart (x1 : Int) (σ : Sg) : Option (Int × Sg) :=
  if x1 < 0 then (
    some ((-1), σ))
  else (
    if x1 ≤ 20 then (
      st1 (put σ 0 9 x1) fun σ1 =>
      some ((σ 0 9), σ1))
    else (
      some ((-1), σ)))
def fX8_isBarge (x1 : Int) (σ : Sg) : Option (Int) :=
  if x1 < 0 then (
    some 0)
  else (
    if x1 < 6 then (
      rd σ 5 6 x1 fun v1 =>
      if v1 ≤ 0 then (
        some 0)
      else (
        some 1))
    else (
      some 0))
def fX8_holds_L101 : Nat → Int → Int → Int → Int → Int → Int → Sg → Option ((Unit) ⊕ (Unit))
  | 0, _, _, _, _, _, _, _ => none
  | n + 1, x1, x3, x4, x5, x6, x7, σ =>
    if x7 ≤ x4 then (
      (fX8_groundOf x7 x6 σ).bind fun q27 =>
      if q27 = 2 then (
        some (.inl ()))
      else (
        ck (x7 + 1) fun v29 =>
        fX8_holds_L101 n x1 x3 x4 x5 x6 v29 σ))
    else (
      some (.inr ()))
def fX8_holds_L80 : Nat → Int → Int → Int → Int → Int → Sg → Option ((Unit) ⊕ (Unit))
  | 0, _, _, _, _, _, _ => none
  | n + 1, x1, x3, x4, x5, x6, σ =>
    if x6 ≤ x5 then (
      rd σ 3 6 x1 fun v23 =>
      ck (v23 - x3) fun v25 =>
      (fX8_holds_L101 fu x1 x3 x4 x5 x6 (mxI 0 v25) σ).bind (Sum.elim (fun a34 =>
        some (.inl ())) (fun a35 =>
        ck (x6 + 1) fun v36 =>
        fX8_holds_L80 n x1 x3 x4 x5 v36 σ)))
    else (
      some (.inr ()))
def fX8_holds (x1 : Int) (x2 : Int) (σ : Sg) : Option (Int) :=
  (fX8_isBarge x1 σ).bind fun q1 =>
  if q1 = 0 then (
    some 0)
  else (
    (fX2_isTold x2 σ).bind fun q3 =>
    if q3 = 0 then (
      some 0)
    else (
      (fX2_heightOf x2 σ).bind fun q5 =>
      ck (5 * q5) fun v7 =>
      dv v7 200 fun v9 =>
      rd σ 3 6 x1 fun v11 =>
      ck (v11 + v9) fun v13 =>
      rd σ 4 6 x1 fun v15 =>
      ck (v15 + v9) fun v17 =>
      rd σ 4 6 x1 fun v19 =>
      ck (v19 - v9) fun v21 =>
      (fX8_holds_L80 fu x1 v9 (mnI 31 v13) (mnI 31 v17) (mxI 0 v21) σ).bind (Sum.elim (fun a40 =>
        some 0) (fun a41 =>
        some 1))))
def fX11_may (x1 : Int) (x2 : Int) (σ : Sg) : Option (Int) :=
  (fX8_isBarge x1 σ).bind fun q1 =>
  if q1 = 0 then (
    some (-1))
  else (
    (fX2_isTold x2 σ).bind fun q3 =>
    if q3 = 0 then (
      some (-1))
    else (
      (fX8_holds x1 x2 σ).bind fun q5 =>
      if q5 = 0 then (
        some 0)
      else (
        some 1)))
def fX11_isAngle (x0 : Int) (σ : Sg) : Option (Int) :=
  if x0 < (-4) then (
    some 0)
  else (
    if x0 ≤ 4 then (
      some 1)
    else (
      some 0))
def fX11_isLight (x1 : Int) (x2 : Int) (x3 : Int) (x4 : Int) (σ : Sg) : Option (Int) :=
  (fX2_isTold x1 σ).bind fun q1 =>
  if q1 = 0 then (
    some 0)
  else (
    (fX8_isBarge x2 σ).bind fun q3 =>
    if q3 = 0 then (
      some 0)
    else (
      (fX11_isAngle x3 σ).bind fun q5 =>
      if q5 = 0 then (
        some 0)
      else (
        if x4 < 0 then (
          some 0)
        else (
          if x4 < 4 then (
            some 1)
          else (
            some 0)))))
def fX0_isHot (x1 : Int) (σ : Sg) : Option (Int) :=
  if x1 < 0 then (
    some 0)
  else (
    if x1 < 96 then (
      rd σ 16 96 x1 fun v1 =>
      if v1 = 0 then (
        some 0)
      else (
        some 1))
    else (
      some 0))
def fX2_spreadOf (x1 : Int) (σ : Sg) : Option (Int) :=
  (fX2_isTold x1 σ).bind fun q1 =>
  if q1 = 0 then (
    some 0)
  else (
    rd σ 9 12 x1 fun v3 =>
    some v3)
def fX0_shiftXOf (x1 : Int) (σ : Sg) : Option (Int) :=
  if x1 < 0 then (
    some 0)
  else (
    if x1 < 96 then (
      rd σ 17 96 x1 fun v1 =>
      some v1)
    else (
      some 0))
def fX0_shiftYOf (x1 : Int) (σ : Sg) : Option (Int) :=
  if x1 < 0 then (
    some 0)
  else (
    if x1 < 96 then (
      rd σ 18 96 x1 fun v1 =>
      some v1)
    else (
      some 0))
def fX8_landing_P152 (x7 : Int) (y0 : Int) (y1 : Int) (σ : Sg) : Option (Int) :=
  ck (y1 + y0) fun v53 =>
  fdv x7 200 fun v55 =>
  fdv v53 200 fun v57 =>
  if v55 < 0 then (
    some (-3))
  else (
    if v55 < 32 then (
      if v57 < 0 then (
        some (-3))
      else (
        if v57 < 32 then (
          ck (32 * v57) fun v59 =>
          ck (v59 + v55) fun v61 =>
          some v61)
        else (
          some (-3))))
    else (
      some (-3)))
def fX8_landing_P123 (x5 : Int) (x6 : Int) (x8 : Int) (y0 : Int) (y1 : Int) (σ : Sg) : Option (Int) :=
  ck (y1 + y0) fun v71 =>
  if x5 = 3 then (
    fX8_landing_P152 v71 x6 x8 σ)
  else (
    if x5 = 4 then (
      ck (-x6) fun v73 =>
      fX8_landing_P152 v71 v73 x8 σ)
    else (
      fX8_landing_P152 v71 0 x8 σ))
def fX8_landing (x1 : Int) (x2 : Int) (x3 : Int) (x4 : Int) (x5 : Int) (σ : Sg) : Option (Int) :=
  (fX8_isBarge x2 σ).bind fun q1 =>
  if q1 = 0 then (
    some (-2))
  else (
    (fX0_isHot x4 σ).bind fun q3 =>
    if q3 = 0 then (
      some (-2))
    else (
      (fX2_spreadOf x1 σ).bind fun q5 =>
      ck (10 * q5) fun v7 =>
      rd σ 3 6 x2 fun v9 =>
      ck (200 * v9) fun v11 =>
      ck (v11 + 100) fun v13 =>
      (fX2_heightOf x1 σ).bind fun q15 =>
      ck (x3 * q15) fun v17 =>
      ck (v13 + v17) fun v19 =>
      (fX0_shiftXOf x4 σ).bind fun q21 =>
      ck (v19 + q21) fun v23 =>
      rd σ 4 6 x2 fun v25 =>
      ck (200 * v25) fun v27 =>
      ck (v27 + 100) fun v29 =>
      (fX0_shiftYOf x4 σ).bind fun q31 =>
      ck (v29 + q31) fun v33 =>
      if x5 = 1 then (
        fX8_landing_P123 x5 v7 v33 v7 v23 σ)
      else (
        if x5 = 2 then (
          ck (-v7) fun v77 =>
          fX8_landing_P123 x5 v7 v33 v77 v23 σ)
        else (
          fX8_landing_P123 x5 v7 v33 0 v23 σ))))
def fX8_groundAt (x1 : Int) (σ : Sg) : Option (Int) :=
  if x1 < 0 then (
    some 1)
  else (
    if x1 < 1024 then (
      rd σ 2 1024 x1 fun v1 =>
      some v1)
    else (
      some 1))
def fX8_isSafe_L29P98 (rec : Int → Int → Int → Int → Int → Int → Sg → Option ((Unit) ⊕ ((Unit) ⊕ (Unit)))) (x1 : Int) (x2 : Int) (x3 : Int) (x5 : Int) (x6 : Int) (x7 : Int) (σ : Sg) : Option ((Unit) ⊕ ((Unit) ⊕ (Unit))) :=
  ck (x7 + 1) fun v13 =>
  rec x1 x2 x3 x5 x6 v13 σ
def fX8_isSafe_L29P66 (rec : Int → Int → Int → Int → Int → Int → Sg → Option ((Unit) ⊕ ((Unit) ⊕ (Unit)))) (x1 : Int) (x2 : Int) (x3 : Int) (x5 : Int) (x6 : Int) (x7 : Int) (σ : Sg) : Option ((Unit) ⊕ ((Unit) ⊕ (Unit))) :=
  (fX8_landing x1 x2 x3 x6 x7 σ).bind fun q19 =>
  if q19 = (-2) then (
    fX8_isSafe_L29P98 rec x1 x2 x3 x5 x6 x7 σ)
  else (
    (fX8_groundAt q19 σ).bind fun q21 =>
    if q21 = 2 then (
      some (.inr (.inl ())))
    else (
      fX8_isSafe_L29P98 rec x1 x2 x3 x5 x6 x7 σ))
def fX8_isSafe_L29 : Nat → Int → Int → Int → Int → Int → Int → Sg → Option ((Unit) ⊕ ((Unit) ⊕ (Unit)))
  | 0, _, _, _, _, _, _, _ => none
  | n + 1, x1, x2, x3, x5, x6, x7, σ =>
    if x7 < 5 then (
      (fX8_landing x1 x2 x3 x5 x7 σ).bind fun q5 =>
      if q5 = (-2) then (
        fX8_isSafe_L29P66 (fX8_isSafe_L29 n) x1 x2 x3 x5 x6 x7 σ)
      else (
        (fX8_groundAt q5 σ).bind fun q25 =>
        if q25 = 0 then (
          fX8_isSafe_L29P66 (fX8_isSafe_L29 n) x1 x2 x3 x5 x6 x7 σ)
        else (
          some (.inl ()))))
    else (
      some (.inr (.inr ())))
def fX8_isSafe (x1 : Int) (x2 : Int) (x3 : Int) (x4 : Int) (σ : Sg) : Option (Int) :=
  (fX0_slot x1 x4 0 σ).bind fun q1 =>
  (fX0_slot x1 x4 1 σ).bind fun q3 =>
  (fX8_isSafe_L29 fu x1 x2 x3 q1 q3 0 σ).bind (Sum.elim (fun a31 =>
    some 0) (Sum.elim (fun a32 =>
    some 0) (fun a33 =>
    some 1)))
def fX11_safe (x1 : Int) (x2 : Int) (x3 : Int) (x4 : Int) (σ : Sg) : Option (Int) :=
  (fX11_isLight x1 x2 x3 x4 σ).bind fun q1 =>
  if q1 = 0 then (
    some (-1))
  else (
    (fX8_isSafe x1 x2 x3 x4 σ).bind fun q3 =>
    if q3 = 0 then (
      some 0)
    else (
      some 1))
def fX11_hot (x1 : Int) (x2 : Int) (x3 : Int) (x4 : Int) (x5 : Int) (σ : Sg) : Option (Int) :=
  (fX11_isLight x1 x2 x3 x4 σ).bind fun q1 =>
  if q1 = 0 then (
    some (-1))
  else (
    if x5 < 0 then (
      some (-1))
    else (
      if x5 < 5 then (
        (fX0_slot x1 x4 0 σ).bind fun q3 =>
        (fX8_landing x1 x2 x3 q3 x5 σ).bind fun q5 =>
        some q5)
      else (
        some (-1))))
def fX9_refusalAs (x0 : Nat) (x1 : Int) (σ : Sg) : Option (Int) :=
  if (σ x0 0) = 0 then (
    some (-11))
  else (
    if (σ x0 0) = x1 then (
      some 0)
    else (
      some (-12)))
def fX11_refuse (x1 : Int) (σ : Sg) : Option (Int × Sg) :=
  ck ((σ 0 10) + 1) fun v1 =>
  st1 (put σ 0 10 v1) fun σ3 =>
  some (x1, σ3)
def fX9_hasPlace (x0 : Nat) (x1 : Int) (σ : Sg) : Option (Int) :=
  if x1 < 0 then (
    some 0)
  else (
    if x1 < (σ x0 1) then (
      if x1 < 100 then (
        some 1)
      else (
        some 0))
    else (
      some 0))
def fX9_valueAt (x0 : Nat) (x1 : Int) (σ : Sg) : Option (Int) :=
  (fX9_hasPlace x0 x1 σ).bind fun q1 =>
  if q1 = 0 then (
    some 0)
  else (
    rd σ (x0 + 1) 100 x1 fun v3 =>
    some v3)
def fX9_numberAt (x0 : Nat) (x1 : Int) (σ : Sg) : Option (Int) :=
  (fX9_valueAt x0 x1 σ).bind fun q1 =>
  some (toI q1)
def fX6_moveOn (x1 : Int) (σ : Sg) : Option (Int × Sg) :=
  if x1 < 1 then (
    some (0, σ))
  else (
    if x1 ≤ 50 then (
      ck (x1 * (σ 24 6)) fun v1 =>
      ck ((σ 24 5) + v1) fun v3 =>
      st1 (put σ 24 5 v3) fun σ5 =>
      some (1, σ5))
    else (
      some (0, σ)))
def fX6_enter (x1 : Int) (x2 : Int) (σ : Sg) : Option (Int × Sg) :=
  if x1 < 2 then (
    some (0, σ))
  else (
    if x1 ≤ 9 then (
      if (σ 24 4) < 0 then (
        some (0, σ))
      else (
        if (σ 24 4) < 3 then (
          wr σ 30 3 (σ 24 4) x2 fun σ1 =>
          ck (x1 - 1) fun v3 =>
          wr σ1 31 3 (σ1 24 4) v3 fun σ5 =>
          ck ((σ5 24 4) + 1) fun v7 =>
          st1 (put σ5 24 4 v7) fun σ9 =>
          some (1, σ9))
        else (
          some (0, σ))))
    else (
      some (0, σ)))
def fX6_leave (x1 : Int) (σ : Sg) : Option (Int × Sg) :=
  ck ((σ 24 4) - 1) fun v1 =>
  if v1 < 0 then (
    some ((-2), σ))
  else (
    if v1 < 3 then (
      rd σ 31 3 v1 fun v3 =>
      if v3 ≤ 0 then (
        st1 (put σ 24 4 v1) fun σ5 =>
        some (x1, σ5))
      else (
        rd σ 31 3 v1 fun v7 =>
        ck (v7 - 1) fun v9 =>
        wr σ 31 3 v1 v9 fun σ11 =>
        rd σ11 30 3 v1 fun v13 =>
        some (v13, σ11)))
    else (
      some ((-2), σ)))
def fX6_setBeat (x1 : Int) (σ : Sg) : Option (Int × Sg) :=
  if x1 < 1 then (
    some (0, σ))
  else (
    if x1 ≤ 50 then (
      st1 (put σ 24 6 x1) fun σ1 =>
      some (1, σ1))
    else (
      some (0, σ)))
def fX2_liftOf (x1 : Int) (σ : Sg) : Option (Int) :=
  (fX2_isTold x1 σ).bind fun q1 =>
  if q1 = 0 then (
    some 0)
  else (
    rd σ 7 12 x1 fun v3 =>
    some v3)
def fX1_append (x0 : Nat) (x1 : Int) (x2 : Int) (x3 : Int) (x4 : Int) (σ : Sg) : Option (Int × Sg) :=
  if (σ x0 4) < 0 then (
    some (0, σ))
  else (
    if (σ x0 4) < 120 then (
      wr σ (x0 + 1) 120 (σ x0 4) x1 fun σ1 =>
      wr σ1 (x0 + 2) 120 (σ1 x0 4) x2 fun σ3 =>
      wr σ3 (x0 + 3) 120 (σ3 x0 4) x3 fun σ5 =>
      wr σ5 (x0 + 4) 120 (σ5 x0 4) x4 fun σ7 =>
      ck ((σ7 x0 4) + 1) fun v9 =>
      st1 (put σ7 x0 4 v9) fun σ11 =>
      some (1, σ11))
    else (
      some (0, σ)))
def fX6_makeCue_P32 (x1 : Int) (x2 : Int) (x3 : Int) (x4 : Int) (σ : Sg) : Option (Int × Sg) :=
  (fX2_liftOf x2 σ).bind fun q10 =>
  if x1 < q10 then (
    some (0, σ))
  else (
    if x1 ≤ 20000 then (
      (fX1_append 25 x1 x2 x3 x4 σ).bind fun q12 =>
      some (q12.1, q12.2))
    else (
      some (0, σ)))
def fX6_makeCue (x1 : Int) (x2 : Int) (x3 : Int) (x4 : Int) (σ : Sg) : Option (Int × Sg) :=
  (fX2_isTold x2 σ).bind fun q1 =>
  if q1 = 0 then (
    some (0, σ))
  else (
    if x3 = (-1) then (
      fX6_makeCue_P32 x1 x2 x3 x4 σ)
    else (
      (fX8_isBarge x3 σ).bind fun q16 =>
      if q16 = 0 then (
        some (0, σ))
      else (
        fX6_makeCue_P32 x1 x2 x3 x4 σ)))
def fX6_makeFan_L15 : Nat → Int → Int → Int → Int → Sg → Option ((Sg) ⊕ (Sg))
  | 0, _, _, _, _, _ => none
  | n + 1, x1, x2, x3, x4, σ =>
    if x4 < x3 then (
      ck (2 * x4) fun v1 =>
      ck (x3 - 1) fun v3 =>
      ck (v1 - v3) fun v5 =>
      (fX6_makeCue (σ 24 5) x1 x2 v5 σ).bind fun q7 =>
      if q7.1 = 0 then (
        some (.inl q7.2))
      else (
        ck (x4 + 1) fun v9 =>
        fX6_makeFan_L15 n x1 x2 x3 v9 q7.2))
    else (
      some (.inr σ))
def fX6_makeFan (x1 : Int) (x2 : Int) (x3 : Int) (σ : Sg) : Option (Int × Sg) :=
  if x3 < 1 then (
    some (0, σ))
  else (
    if x3 ≤ 5 then (
      (fX6_makeFan_L15 fu x1 x2 x3 0 σ).bind (Sum.elim (fun a14 =>
        some (0, a14)) (fun a16 =>
        some (1, a16))))
    else (
      some (0, σ)))
def fX6_areBehind (x1 : Int) (x2 : Int) (x3 : Int) (σ : Sg) : Option (Int) :=
  (fX8_isBarge x1 σ).bind fun q1 =>
  if q1 = 0 then (
    some 0)
  else (
    (fX8_isBarge x2 σ).bind fun q3 =>
    if q3 = 0 then (
      some 0)
    else (
      if x3 < 0 then (
        some 0)
      else (
        if x3 ≤ 50 then (
          some 1)
        else (
          some 0))))
def fX6_makeRun_L23 : Nat → Int → Int → Int → Int → Int → Int → Sg → Option ((Sg) ⊕ (Sg))
  | 0, _, _, _, _, _, _, _ => none
  | n + 1, x1, x2, x4, x5, x6, x7, σ =>
    if x7 ≤ x6 then (
      ck (x7 * x5) fun v6 =>
      ck (x2 + v6) fun v8 =>
      if v8 = (-1) then (
        some (.inl σ))
      else (
        ck (x7 * x4) fun v10 =>
        ck (v10 * (σ 24 6)) fun v12 =>
        ck ((σ 24 5) + v12) fun v14 =>
        (fX6_makeCue v14 x1 v8 0 σ).bind fun q16 =>
        if q16.1 = 0 then (
          some (.inl q16.2))
        else (
          ck (x7 + 1) fun v18 =>
          fX6_makeRun_L23 n x1 x2 x4 x5 x6 v18 q16.2)))
    else (
      some (.inr σ))
def fX6_makeRun_P10 (x1 : Int) (x2 : Int) (x3 : Int) (x4 : Int) (y0 : Int) (σ : Sg) : Option (Int × Sg) :=
  ck (x3 - x2) fun v28 =>
  ck (abI v28) fun v30 =>
  (fX6_makeRun_L23 fu x1 x2 x4 y0 v30 0 σ).bind (Sum.elim (fun a33 =>
    some (0, a33)) (fun a35 =>
    some (1, a35)))
def fX6_makeRun (x1 : Int) (x2 : Int) (x3 : Int) (x4 : Int) (σ : Sg) : Option (Int × Sg) :=
  if x2 ≤ x3 then (
    fX6_makeRun_P10 x1 x2 x3 x4 1 σ)
  else (
    fX6_makeRun_P10 x1 x2 x3 x4 (-1) σ)
def fX6_makeCues (x1 : Nat) (x2 : Int) (x3 : Int) (σ : Sg) : Option (Int × Sg) :=
  ck (x2 + 1) fun v1 =>
  (fX9_numberAt x1 v1 σ).bind fun q3 =>
  ck (x2 + 2) fun v5 =>
  (fX9_numberAt x1 v5 σ).bind fun q7 =>
  ck (x2 + 3) fun v9 =>
  (fX9_numberAt x1 v9 σ).bind fun q11 =>
  ck (x2 + 4) fun v13 =>
  (fX9_numberAt x1 v13 σ).bind fun q15 =>
  if x3 = 1 then (
    (fX11_isAngle q11 σ).bind fun q43 =>
    if q43 = 0 then (
      some (0, σ))
    else (
      (fX6_makeCue (σ 24 5) q3 q7 q11 σ).bind fun q45 =>
      if q45.1 = 0 then (
        some (0, q45.2))
      else (
        some (1, q45.2))))
  else (
    if x3 = 2 then (
      some (0, σ))
    else (
      if x3 = 3 then (
        (fX6_makeFan q3 q7 q11 σ).bind fun q41 =>
        some (q41.1, q41.2))
      else (
        if x3 = 4 then (
          (fX6_areBehind q7 q11 q15 σ).bind fun q35 =>
          if q35 = 0 then (
            some (0, σ))
          else (
            (fX6_makeRun q3 q7 q11 q15 σ).bind fun q37 =>
            if q37.1 = 0 then (
              some (0, q37.2))
            else (
              some (1, q37.2))))
        else (
          if x3 = 5 then (
            (fX6_areBehind q7 q11 q15 σ).bind fun q22 =>
            if q22 = 0 then (
              some (0, σ))
            else (
              (fX6_makeCue (σ 24 5) q3 q7 0 σ).bind fun q24 =>
              if q24.1 = 0 then (
                some (0, q24.2))
              else (
                ck (q15 * (q24.2 24 6)) fun v26 =>
                ck ((q24.2 24 5) + v26) fun v28 =>
                (fX6_makeCue v28 q3 q11 0 q24.2).bind fun q30 =>
                if q30.1 = 0 then (
                  some (0, q30.2))
                else (
                  some (1, q30.2)))))
          else (
            some (0, σ))))))
def fX6_follow (x1 : Nat) (x2 : Int) (σ : Sg) : Option (Int × Sg) :=
  (fX9_numberAt x1 x2 σ).bind fun q1 =>
  (fX9_hasPlace x1 x2 σ).bind fun q3 =>
  if q3 = 0 then (
    some ((-2), σ))
  else (
    if q1 < 0 then (
      some ((-2), σ))
    else (
      if q1 < 9 then (
        rdO q1 fun v7 =>
        ck (x2 + v7) fun v9 =>
        if v9 ≤ (σ x1 1) then (
          ck (x2 + 1) fun v11 =>
          (fX9_numberAt x1 v11 σ).bind fun q13 =>
          if q1 = 0 then (
            if (σ 24 4) = 0 then (
              some ((-1), σ))
            else (
              some ((-2), σ)))
          else (
            if q1 = 1 then (
              (fX6_makeCues x1 x2 q1 σ).bind fun q47 =>
              if q47.1 = 0 then (
                some ((-2), q47.2))
              else (
                some (v9, q47.2)))
            else (
              if q1 = 2 then (
                (fX6_moveOn q13 σ).bind fun q44 =>
                if q44.1 = 0 then (
                  some ((-2), q44.2))
                else (
                  some (v9, q44.2)))
              else (
                if q1 = 3 then (
                  (fX6_makeCues x1 x2 q1 σ).bind fun q41 =>
                  if q41.1 = 0 then (
                    some ((-2), q41.2))
                  else (
                    some (v9, q41.2)))
                else (
                  if q1 = 4 then (
                    (fX6_makeCues x1 x2 q1 σ).bind fun q38 =>
                    if q38.1 = 0 then (
                      some ((-2), q38.2))
                    else (
                      some (v9, q38.2)))
                  else (
                    if q1 = 5 then (
                      (fX6_makeCues x1 x2 q1 σ).bind fun q35 =>
                      if q35.1 = 0 then (
                        some ((-2), q35.2))
                      else (
                        some (v9, q35.2)))
                    else (
                      if q1 = 6 then (
                        (fX6_enter q13 v9 σ).bind fun q32 =>
                        if q32.1 = 0 then (
                          some ((-2), q32.2))
                        else (
                          some (v9, q32.2)))
                      else (
                        if q1 = 7 then (
                          (fX6_leave v9 σ).bind fun q30 =>
                          some (q30.1, q30.2))
                        else (
                          if q1 = 8 then (
                            (fX6_setBeat q13 σ).bind fun q27 =>
                            if q27.1 = 0 then (
                              some ((-2), q27.2))
                            else (
                              some (v9, q27.2)))
                          else (
                            (fX6_makeCues x1 x2 q1 σ).bind fun q15 =>
                            if q15.1 = 0 then (
                              some ((-2), q15.2))
                            else (
                              some (v9, q15.2))))))))))))
        else (
          some ((-2), σ)))
      else (
        some ((-2), σ))))
def fX6_firstFault_L28 : Nat → Nat → Int → Int → Sg → Option ((Sg) ⊕ ((Int × Sg) ⊕ (Int × Sg)))
  | 0, _, _, _, _ => none
  | n + 1, x1, x2, x3, σ =>
    if x3 < 1000000 then (
      (fX6_follow x1 x2 σ).bind fun q9 =>
      if q9.1 = (-1) then (
        some (.inl q9.2))
      else (
        if q9.1 = (-2) then (
          some (.inr (.inl (x2, q9.2))))
        else (
          ck (x3 + 1) fun v11 =>
          fX6_firstFault_L28 n x1 q9.1 v11 q9.2)))
    else (
      some (.inr (.inr (x2, σ))))
def fX6_firstFault (x1 : Nat) (σ : Sg) : Option (Int × Sg) :=
  st1 (put σ 25 4 0) fun σ1 =>
  st1 (put σ1 24 4 0) fun σ3 =>
  st1 (put σ3 24 5 0) fun σ5 =>
  st1 (put σ5 24 6 10) fun σ7 =>
  (fX6_firstFault_L28 fu x1 0 0 σ7).bind (Sum.elim (fun a17 =>
    some ((-1), a17)) (Sum.elim (fun a19 =>
    some (a19.1, a19.2)) (fun a22 =>
    some (a22.1, a22.2))))
def fX1_become (x0 : Nat) (x1 : Nat) (σ : Sg) : Option (Sg) :=
  cpy σ (x1 + 1) (x0 + 1) 120 120 0 0 120 fun σ1 =>
  cpy σ1 (x1 + 2) (x0 + 2) 120 120 0 0 120 fun σ3 =>
  cpy σ3 (x1 + 3) (x0 + 3) 120 120 0 0 120 fun σ5 =>
  cpy σ5 (x1 + 4) (x0 + 4) 120 120 0 0 120 fun σ7 =>
  st1 (put σ7 x0 4 (σ7 x1 4)) fun σ9 =>
  some σ9
def fX11_takeCues (x1 : Nat) (σ : Sg) : Option (Sg) :=
  (fX1_become 19 x1 σ).bind fun q1 =>
  (fX7_forgetFaults q1).bind fun q3 =>
  st1 (put q3 54 6 0) fun σ5 =>
  some σ5
def fX11_write (x1 : Int) (σ : Sg) : Option (Int × Sg) :=
  if 0 ≤ x1 ∧ x1 < 6 then (
    (fX9_refusalAs (tpO x1) 1 σ).bind fun q2 =>
    if q2 = 0 then (
      (fX6_firstFault (tpO x1) σ).bind fun q4 =>
      if q4.1 < 0 then (
        (fX11_takeCues 25 q4.2).bind fun q6 =>
        some ((q6 19 4), q6))
      else (
        ck ((-100) - q4.1) fun v8 =>
        some (v8, q4.2)))
    else (
      (fX11_refuse q2 σ).bind fun q11 =>
      some (q11.1, q11.2)))
  else (
    some ((-1), σ))
def fX1_bargeOf (x0 : Nat) (x1 : Int) (σ : Sg) : Option (Int) :=
  (fX1_isCue x0 x1 σ).bind fun q1 =>
  if q1 = 0 then (
    some (-1))
  else (
    rd σ (x0 + 3) 120 x1 fun v3 =>
    some v3)
def fX1_angleOf (x0 : Nat) (x1 : Int) (σ : Sg) : Option (Int) :=
  (fX1_isCue x0 x1 σ).bind fun q1 =>
  if q1 = 0 then (
    some 0)
  else (
    rd σ (x0 + 4) 120 x1 fun v3 =>
    some v3)
def fX8_fireOf (x1 : Nat) (x2 : Int) (σ : Sg) : Option (Int) :=
  (fX1_burstOf x1 x2 σ).bind fun q1 =>
  (fX1_kindOf x1 x2 σ).bind fun q3 =>
  (fX2_liftOf q3 σ).bind fun q5 =>
  ck (q1 - q5) fun v7 =>
  some v7
def fX11_cue_P9  (σ : Sg) : Option (Int) :=
  none
def fX11_cue (x1 : Int) (x2 : Int) (σ : Sg) : Option (Int) :=
  if x2 < 0 then (
    fX11_cue_P9  σ)
  else (
    if x2 ≤ 4 then (
      (fX1_isCue 19 x1 σ).bind fun q2 =>
      if q2 = 0 then (
        none)
      else (
        if x2 = 0 then (
          (fX1_burstOf 19 x1 σ).bind fun q16 =>
          some q16)
        else (
          if x2 = 1 then (
            (fX1_kindOf 19 x1 σ).bind fun q14 =>
            some q14)
          else (
            if x2 = 2 then (
              (fX1_bargeOf 19 x1 σ).bind fun q12 =>
              some q12)
            else (
              if x2 = 3 then (
                (fX1_angleOf 19 x1 σ).bind fun q10 =>
                some q10)
              else (
                (fX8_fireOf 19 x1 σ).bind fun q4 =>
                some q4))))))
    else (
      fX11_cue_P9  σ))
def fX11_cueT_P9  (σ : Sg) : Option (Int) :=
  some 1
def fX11_cueT (x1 : Int) (x2 : Int) (σ : Sg) : Option (Int) :=
  if x2 < 0 then (
    fX11_cueT_P9  σ)
  else (
    if x2 ≤ 4 then (
      (fX1_isCue 19 x1 σ).bind fun q2 =>
      if q2 = 0 then (
        some 2)
      else (
        if x2 = 0 then (
          (fX1_burstOf 19 x1 σ).bind fun q16 =>
          none)
        else (
          if x2 = 1 then (
            (fX1_kindOf 19 x1 σ).bind fun q14 =>
            none)
          else (
            if x2 = 2 then (
              (fX1_bargeOf 19 x1 σ).bind fun q12 =>
              none)
            else (
              if x2 = 3 then (
                (fX1_angleOf 19 x1 σ).bind fun q10 =>
                none)
              else (
                (fX8_fireOf 19 x1 σ).bind fun q4 =>
                none))))))
    else (
      fX11_cueT_P9  σ))
def fX11_stretched (x0 : Int) (x1 : Int) (x2 : Int) (x3 : Int) (σ : Sg) : Option (Int) :=
  if x0 < x1 then (
    some x0)
  else (
    ck (x0 - x1) fun v1 =>
    ck (v1 * x2) fun v3 =>
    fdv v3 x3 fun v5 =>
    ck (x1 + v5) fun v7 =>
    some v7)
def fX1_setBurst (x0 : Nat) (x1 : Int) (x2 : Int) (σ : Sg) : Option (Sg) :=
  (fX1_isCue x0 x1 σ).bind fun q1 =>
  if q1 = 0 then (
    some σ)
  else (
    wr σ (x0 + 1) 120 x1 x2 fun σ3 =>
    some σ3)
def fX11_stretch_L41P115 (rec : Int → Int → Int → Int → Int → Sg → Option ((Unit) ⊕ (Int))) (x1 : Int) (x2 : Int) (x3 : Int) (x5 : Int) (y0 : Int) (σ : Sg) : Option ((Unit) ⊕ (Int)) :=
  ck (x5 + 1) fun v13 =>
  rec x1 x2 x3 y0 v13 σ
def fX11_stretch_L41P110 (rec : Int → Int → Int → Int → Int → Sg → Option ((Unit) ⊕ (Int))) (x1 : Int) (x2 : Int) (x3 : Int) (x5 : Int) (σ : Sg) : Option ((Unit) ⊕ (Int)) :=
  fX11_stretch_L41P115 rec x1 x2 x3 x5 1 σ
def fX11_stretch_L41 : Nat → Int → Int → Int → Int → Int → Sg → Option ((Unit) ⊕ (Int))
  | 0, _, _, _, _, _, _ => none
  | n + 1, x1, x2, x3, x4, x5, σ =>
    if x5 < (σ 19 4) then (
      (fX1_burstOf 19 x5 σ).bind fun q1 =>
      (fX11_stretched q1 x1 x2 x3 σ).bind fun q3 =>
      (fX1_kindOf 19 x5 σ).bind fun q5 =>
      (fX2_liftOf q5 σ).bind fun q7 =>
      if q3 < q7 then (
        some (.inl ()))
      else (
        if x4 = 0 then (
          if q3 ≤ 20000 then (
            fX11_stretch_L41P115 (fX11_stretch_L41 n) x1 x2 x3 x5 0 σ)
          else (
            fX11_stretch_L41P110 (fX11_stretch_L41 n) x1 x2 x3 x5 σ))
        else (
          fX11_stretch_L41P110 (fX11_stretch_L41 n) x1 x2 x3 x5 σ)))
    else (
      some (.inr x4))
def fX11_stretch_L137P194 (rec : Int → Int → Int → Int → Int → Sg → Option (Int × Sg)) (x1 : Int) (x2 : Int) (x3 : Int) (x5 : Int) (x6 : Int) (σ : Sg) : Option (Int × Sg) :=
  ck (x6 + 1) fun v32 =>
  rec x1 x2 x3 x5 v32 σ
def fX11_stretch_L137 : Nat → Int → Int → Int → Int → Int → Sg → Option (Int × Sg)
  | 0, _, _, _, _, _, _ => none
  | n + 1, x1, x2, x3, x5, x6, σ =>
    if x6 < (σ 19 4) then (
      (fX1_burstOf 19 x6 σ).bind fun q23 =>
      (fX11_stretched q23 x1 x2 x3 σ).bind fun q25 =>
      (fX1_burstOf 19 x6 σ).bind fun q27 =>
      if q25 = q27 then (
        fX11_stretch_L137P194 (fX11_stretch_L137 n) x1 x2 x3 x5 x6 σ)
      else (
        (fX1_setBurst 19 x6 q25 σ).bind fun q34 =>
        ck (x5 + 1) fun v36 =>
        fX11_stretch_L137P194 (fX11_stretch_L137 n) x1 x2 x3 v36 x6 q34))
    else (
      some (x5, σ))
def fX11_stretch (x1 : Int) (x2 : Int) (x3 : Int) (σ : Sg) : Option (Int × Sg) :=
  if x1 < 0 then (
    some ((-1), σ))
  else (
    if x1 ≤ 20000 then (
      if x2 < 1 then (
        some ((-1), σ))
      else (
        if x2 ≤ 100 then (
          if x3 < 1 then (
            some ((-1), σ))
          else (
            if x3 ≤ 100 then (
              (fX11_stretch_L41 fu x1 x2 x3 0 0 σ).bind (Sum.elim (fun a20 =>
                some ((-5), σ)) (fun a21 =>
                if a21 = 0 then (
                  (fX11_stretch_L137 fu x1 x2 x3 0 0 σ).bind fun q40 =>
                  some (q40.1, q40.2))
                else (
                  some ((-2), σ)))))
            else (
              some ((-1), σ))))
        else (
          some ((-1), σ))))
    else (
      some ((-1), σ)))
def fX1_openOnes_L4P24 (rec : Nat → Int → Int → Sg → Option (Int)) (x0 : Nat) (x1 : Int) (x2 : Int) (σ : Sg) : Option (Int) :=
  ck (x2 + 1) fun v6 =>
  rec x0 x1 v6 σ
def fX1_openOnes_L4 : Nat → Nat → Int → Int → Sg → Option (Int)
  | 0, _, _, _, _ => none
  | n + 1, x0, x1, x2, σ =>
    if x2 < (σ x0 4) then (
      (fX1_bargeOf x0 x2 σ).bind fun q1 =>
      if q1 = (-1) then (
        ck (x1 + 1) fun v8 =>
        fX1_openOnes_L4P24 (fX1_openOnes_L4 n) x0 v8 x2 σ)
      else (
        fX1_openOnes_L4P24 (fX1_openOnes_L4 n) x0 x1 x2 σ))
    else (
      some x1)
def fX1_openOnes (x0 : Nat) (σ : Sg) : Option (Int) :=
  (fX1_openOnes_L4 fu x0 0 0 σ).bind fun q12 =>
  some q12
def fX3_areApart (x1 : Int) (x2 : Int) (σ : Sg) : Option (Int) :=
  (fX8_fireOf 19 x1 σ).bind fun q1 =>
  (fX8_fireOf 19 x2 σ).bind fun q3 =>
  ck (q1 - q3) fun v5 =>
  ck (abI v5) fun v7 =>
  if v7 < (σ 32 9) then (
    some 0)
  else (
    some 1)
def fX3_fitsAlone_L28 : Nat → Int → Int → Int → Int → Int → Sg → Option ((Unit) ⊕ (Unit))
  | 0, _, _, _, _, _, _ => none
  | n + 1, x1, x2, x3, x4, x5, σ =>
    if x5 < x3 then (
      (fX1_angleOf 19 x1 σ).bind fun q5 =>
      (fX8_isSafe x4 x2 q5 x5 σ).bind fun q7 =>
      if q7 = 0 then (
        some (.inl ()))
      else (
        ck (x5 + 1) fun v9 =>
        fX3_fitsAlone_L28 n x1 x2 x3 x4 v9 σ))
    else (
      some (.inr ()))
def fX3_fitsAlone_L68P105 (rec : Int → Int → Int → Sg → Option ((Unit) ⊕ (Unit))) (x1 : Int) (x2 : Int) (x5 : Int) (σ : Sg) : Option ((Unit) ⊕ (Unit)) :=
  ck (x5 + 1) fun v21 =>
  rec x1 x2 v21 σ
def fX3_fitsAlone_L68 : Nat → Int → Int → Int → Sg → Option ((Unit) ⊕ (Unit))
  | 0, _, _, _, _ => none
  | n + 1, x1, x2, x5, σ =>
    if x5 < (σ 19 4) then (
      (fX1_bargeOf 19 x5 σ).bind fun q16 =>
      if q16 = x2 then (
        (fX3_areApart x1 x5 σ).bind fun q23 =>
        if q23 = 0 then (
          some (.inl ()))
        else (
          fX3_fitsAlone_L68P105 (fX3_fitsAlone_L68 n) x1 x2 x5 σ))
      else (
        fX3_fitsAlone_L68P105 (fX3_fitsAlone_L68 n) x1 x2 x5 σ))
    else (
      some (.inr ()))
def fX3_fitsAlone (x1 : Int) (x2 : Int) (x3 : Int) (σ : Sg) : Option (Int) :=
  (fX1_kindOf 19 x1 σ).bind fun q1 =>
  (fX8_holds x2 q1 σ).bind fun q3 =>
  if q3 = 0 then (
    some 0)
  else (
    (fX3_fitsAlone_L28 fu x1 x2 x3 q1 0 σ).bind (Sum.elim (fun a14 =>
      some 0) (fun a15 =>
      (fX3_fitsAlone_L68 fu x1 x2 0 σ).bind (Sum.elim (fun a29 =>
        some 0) (fun a30 =>
        some 1)))))
def fX3_clashesOf_L4P53 (rec : Int → Int → Int → Sg → Option (Int)) (x1 : Int) (x2 : Int) (x3 : Int) (σ : Sg) : Option (Int) :=
  ck (x3 + 1) fun v4 =>
  rec x1 x2 v4 σ
def fX3_clashesOf_L4 : Nat → Int → Int → Int → Sg → Option (Int)
  | 0, _, _, _, _ => none
  | n + 1, x1, x2, x3, σ =>
    if x3 < (σ 32 10) then (
      if x3 < 8 then (
        if x1 < 0 then (
          fX3_clashesOf_L4P53 (fX3_clashesOf_L4 n) x1 x2 x3 σ)
        else (
          if x1 < 8 then (
            rd σ 33 8 x1 fun v6 =>
            rd σ 33 8 x3 fun v8 =>
            (fX3_areApart v6 v8 σ).bind fun q10 =>
            if q10 = 0 then (
              fX3_clashesOf_L4P53 (fX3_clashesOf_L4 n) x1 (bOr x2 (bShl 1 x3)) x3 σ)
            else (
              fX3_clashesOf_L4P53 (fX3_clashesOf_L4 n) x1 x2 x3 σ))
          else (
            fX3_clashesOf_L4P53 (fX3_clashesOf_L4 n) x1 x2 x3 σ)))
      else (
        some x2))
    else (
      some x2)
def fX3_clashesOf (x1 : Int) (σ : Sg) : Option (Int) :=
  (fX3_clashesOf_L4 fu x1 0 0 σ).bind fun q17 =>
  some q17
def fX3_prepare_L28P111 (rec : Int → Int → Sg → Option (Sg)) (x2 : Int) (x3 : Int) (σ : Sg) : Option (Sg) :=
  ck (x3 + 1) fun v15 =>
  rec x2 v15 σ
def fX3_prepare_L28P75 (rec : Int → Int → Sg → Option (Sg)) (x2 : Int) (x3 : Int) (σ : Sg) : Option (Sg) :=
  if (σ 32 10) < 0 then (
    fX3_prepare_L28P111 rec x2 x3 σ)
  else (
    if (σ 32 10) < 8 then (
      wr σ 33 8 (σ 32 10) x3 fun σ25 =>
      ck ((σ25 32 10) + 1) fun v27 =>
      st1 (put σ25 32 10 v27) fun σ29 =>
      fX3_prepare_L28P111 rec x2 x3 σ29)
    else (
      fX3_prepare_L28P111 rec x2 x3 σ))
def fX3_prepare_L28 : Nat → Int → Int → Sg → Option (Sg)
  | 0, _, _, _ => none
  | n + 1, x2, x3, σ =>
    if x3 < (σ 19 4) then (
      (fX1_bargeOf 19 x3 σ).bind fun q9 =>
      if q9 < 0 then (
        fX3_prepare_L28P75 (fX3_prepare_L28 n) x2 x3 σ)
      else (
        if q9 < 6 then (
          rd σ 36 6 q9 fun v33 =>
          ck (v33 + 1) fun v35 =>
          wr σ 36 6 q9 v35 fun σ37 =>
          fX3_prepare_L28P111 (fX3_prepare_L28 n) x2 x3 σ37)
        else (
          fX3_prepare_L28P75 (fX3_prepare_L28 n) x2 x3 σ)))
    else (
      some σ)
def fX3_prepare_L136 : Nat → Int → Int → Int → Sg → Option (Sg)
  | 0, _, _, _, _ => none
  | n + 1, x2, x3, x4, σ =>
    if x4 < 6 then (
      ck (x3 * 6) fun v44 =>
      ck (v44 + x4) fun v46 =>
      rd σ 33 8 x3 fun v48 =>
      (fX3_fitsAlone v48 x4 x2 σ).bind fun q50 =>
      wrZ σ 34 48 v46 q50 fun σ52 =>
      ck (x4 + 1) fun v54 =>
      fX3_prepare_L136 n x2 x3 v54 σ52)
    else (
      some σ)
def fX3_prepare_L119 : Nat → Int → Int → Sg → Option (Sg)
  | 0, _, _, _ => none
  | n + 1, x2, x3, σ =>
    if x3 < (σ 32 10) then (
      if x3 < 8 then (
        (fX3_prepare_L136 fu x2 x3 0 σ).bind fun q57 =>
        (fX3_clashesOf x3 q57).bind fun q59 =>
        wr q57 35 8 x3 q59 fun σ61 =>
        ck (x3 + 1) fun v63 =>
        fX3_prepare_L119 n x2 v63 σ61)
      else (
        some σ))
    else (
      some σ)
def fX3_prepare (x1 : Int) (x2 : Int) (σ : Sg) : Option (Sg) :=
  st1 (put σ 32 9 x1) fun σ1 =>
  st1 (put σ1 32 10 0) fun σ3 =>
  filI σ3 36 6 0 fun σ5 =>
  filI σ5 37 6 0 fun σ7 =>
  (fX3_prepare_L28 fu x2 0 σ7).bind fun q42 =>
  (fX3_prepare_L119 fu x2 0 q42).bind fun q67 =>
  some q67
def fX3_mostLoad_L4 : Nat → Int → Int → Sg → Option (Int)
  | 0, _, _, _ => none
  | n + 1, x1, x2, σ =>
    if x2 < 6 then (
      rd σ 36 6 x2 fun v1 =>
      ck (x2 + 1) fun v3 =>
      fX3_mostLoad_L4 n (mxI x1 v1) v3 σ)
    else (
      some x1)
def fX3_mostLoad  (σ : Sg) : Option (Int) :=
  (fX3_mostLoad_L4 fu 0 0 σ).bind fun q6 =>
  some q6
def fX8_channelsOf (x1 : Int) (σ : Sg) : Option (Int) :=
  (fX8_isBarge x1 σ).bind fun q1 =>
  if q1 = 0 then (
    some 0)
  else (
    rd σ 5 6 x1 fun v3 =>
    some v3)
def fX3_mayChoose (x1 : Int) (x2 : Int) (σ : Sg) : Option (Int) :=
  if x1 < 0 then (
    some 0)
  else (
    if x1 < 8 then (
      if x2 < 0 then (
        some 0)
      else (
        if x2 < 6 then (
          ck (x1 * 6) fun v1 =>
          ck (v1 + x2) fun v3 =>
          rd σ 34 48 v3 fun v5 =>
          if v5 = 0 then (
            some 0)
          else (
            rd σ 36 6 x2 fun v7 =>
            (fX8_channelsOf x2 σ).bind fun q9 =>
            if v7 < q9 then (
              rd σ 35 8 x1 fun v11 =>
              rd σ 37 6 x2 fun v13 =>
              if (bAnd v11 v13) = 0 then (
                some 1)
              else (
                some 0))
            else (
              some 0)))
        else (
          some 0)))
    else (
      some 0))
def fX3_choose (x1 : Int) (x2 : Int) (σ : Sg) : Option (Sg) :=
  if x1 < 0 then (
    some σ)
  else (
    if x1 < 8 then (
      if x2 < 0 then (
        some σ)
      else (
        if x2 < 6 then (
          wr σ 38 8 x1 x2 fun σ1 =>
          rd σ1 36 6 x2 fun v3 =>
          ck (v3 + 1) fun v5 =>
          wr σ1 36 6 x2 v5 fun σ7 =>
          rd σ7 37 6 x2 fun v9 =>
          wr σ7 37 6 x2 (bOr v9 (bShl 1 x1)) fun σ11 =>
          some σ11)
        else (
          some σ)))
    else (
      some σ))
def fX3_loadOf (x1 : Int) (σ : Sg) : Option (Int) :=
  if x1 < 0 then (
    some 0)
  else (
    if x1 < 6 then (
      rd σ 36 6 x1 fun v1 =>
      some v1)
    else (
      some 0))
def fX3_unchoose (x1 : Int) (x2 : Int) (σ : Sg) : Option (Sg) :=
  if x1 < 0 then (
    some σ)
  else (
    if x1 < 8 then (
      if x2 < 0 then (
        some σ)
      else (
        if x2 < 6 then (
          rd σ 36 6 x2 fun v1 =>
          ck (v1 - 1) fun v3 =>
          wr σ 36 6 x2 v3 fun σ5 =>
          rd σ5 37 6 x2 fun v7 =>
          wr σ5 37 6 x2 (bAnd v7 (bXor (bShl 1 x1) (-1))) fun σ9 =>
          some σ9)
        else (
          some σ)))
    else (
      some σ))
def fX3_search_P23 (slf : Int → Int → Sg → Option (Sg)) (x2 : Int) (σ : Sg) : Option (Sg) :=
  st1 (put σ 32 11 x2) fun σ6 =>
  cpy σ6 38 39 8 8 0 0 8 fun σ8 =>
  some σ8
def fX3_search_L46P89 (slf : Int → Int → Sg → Option (Sg)) (rec : Int → Int → Int → Sg → Option (Sg)) (x1 : Int) (x2 : Int) (x3 : Int) (σ : Sg) : Option (Sg) :=
  ck (x3 + 1) fun v15 =>
  rec x1 x2 v15 σ
def fX3_search_L46 (slf : Int → Int → Sg → Option (Sg)) : Nat → Int → Int → Int → Sg → Option (Sg)
  | 0, _, _, _, _ => none
  | n + 1, x1, x2, x3, σ =>
    if x3 < 6 then (
      (fX3_mayChoose x1 x3 σ).bind fun q10 =>
      if q10 = 0 then (
        fX3_search_L46P89 slf (fX3_search_L46 slf n) x1 x2 x3 σ)
      else (
        (fX3_choose x1 x3 σ).bind fun q17 =>
        ck (x1 + 1) fun v19 =>
        (fX3_loadOf x3 q17).bind fun q21 =>
        (slf v19 (mxI x2 q21) q17).bind fun q23 =>
        (fX3_unchoose x1 x3 q23).bind fun q25 =>
        fX3_search_L46P89 slf (fX3_search_L46 slf n) x1 x2 x3 q25))
    else (
      some σ)
def fX3_search : Nat → Int → Int → Sg → Option (Sg)
  | 0, _, _, _ => none
  | d + 1, x1, x2, σ =>
    if x2 < (σ 32 11) then (
      if x1 < (σ 32 10) then (
        if x1 < 8 then (
          (fX3_search_L46 (fX3_search d) fu x1 x2 0 σ).bind fun q29 =>
          some q29)
        else (
          fX3_search_P23 (fX3_search d) x2 σ))
      else (
        fX3_search_P23 (fX3_search d) x2 σ))
    else (
      some σ)
def fX3_findBest  (σ : Sg) : Option (Int × Sg) :=
  st1 (put σ 32 11 121) fun σ1 =>
  (fX3_mostLoad σ1).bind fun q3 =>
  (fX3_search 10 0 q3 σ1).bind fun q5 =>
  if (q5 32 11) ≤ 120 then (
    some (1, q5))
  else (
    some (0, q5))
def fX1_setBarge (x0 : Nat) (x1 : Int) (x2 : Int) (σ : Sg) : Option (Sg) :=
  (fX1_isCue x0 x1 σ).bind fun q1 =>
  if q1 = 0 then (
    some σ)
  else (
    wr σ (x0 + 3) 120 x1 x2 fun σ3 =>
    some σ3)
def fX3_giveBest_L2 : Nat → Int → Sg → Option (Sg)
  | 0, _, _ => none
  | n + 1, x1, σ =>
    if x1 < (σ 32 10) then (
      if x1 < 8 then (
        rd σ 33 8 x1 fun v1 =>
        rd σ 39 8 x1 fun v3 =>
        (fX1_setBarge 19 v1 v3 σ).bind fun q5 =>
        ck (x1 + 1) fun v7 =>
        fX3_giveBest_L2 n v7 q5)
      else (
        some σ))
    else (
      some σ)
def fX3_giveBest  (σ : Sg) : Option (Sg) :=
  (fX3_giveBest_L2 fu 0 σ).bind fun q11 =>
  some q11
def fX11_lay (x1 : Int) (σ : Sg) : Option (Int × Sg) :=
  if x1 < 0 then (
    some ((-1), σ))
  else (
    if x1 ≤ 4 then (
      (fX1_openOnes 19 σ).bind fun q1 =>
      if q1 ≤ 8 then (
        (fX3_prepare (σ 0 9) x1 σ).bind fun q3 =>
        (fX3_findBest q3).bind fun q5 =>
        if q5.1 = 0 then (
          some ((-3), q5.2))
        else (
          (fX3_giveBest q5.2).bind fun q7 =>
          some ((q7 32 11), q7)))
      else (
        some ((-4), σ)))
    else (
      some ((-1), σ)))
def fX3_firstBroken_L2 : Nat → Nat → Int → Sg → Option ((Int × Sg) ⊕ (Sg))
  | 0, _, _, _ => none
  | n + 1, x1, x2, σ =>
    if x2 < (σ 32 10) then (
      if x2 < (σ x1 1) then (
        (fX9_numberAt x1 x2 σ).bind fun q1 =>
        (fX3_mayChoose x2 q1 σ).bind fun q3 =>
        if q3 = 0 then (
          some (.inl (x2, σ)))
        else (
          (fX3_choose x2 q1 σ).bind fun q5 =>
          ck (x2 + 1) fun v7 =>
          fX3_firstBroken_L2 n x1 v7 q5))
      else (
        some (.inr σ)))
    else (
      some (.inr σ))
def fX3_firstBroken (x1 : Nat) (σ : Sg) : Option (Int × Sg) :=
  (fX3_firstBroken_L2 fu x1 0 σ).bind (Sum.elim (fun a13 =>
    some (a13.1, a13.2)) (fun a16 =>
    some ((-1), a16)))
def fX11_proof (x1 : Int) (x2 : Int) (σ : Sg) : Option (Int × Sg) :=
  if 0 ≤ x1 ∧ x1 < 6 then (
    if x2 < 0 then (
      some ((-1), σ))
    else (
      if x2 ≤ 4 then (
        (fX1_openOnes 19 σ).bind fun q2 =>
        if q2 ≤ 8 then (
          (fX9_refusalAs (tpO x1) 1 σ).bind fun q4 =>
          if q4 = 0 then (
            (fX3_prepare (σ 0 9) x2 σ).bind fun q6 =>
            (fX3_firstBroken (tpO x1) q6).bind fun q8 =>
            if q8.1 < 0 then (
              if (q8.2 (tpO x1) 1) < (q8.2 32 10) then (
                (fX11_refuse (-13) q8.2).bind fun q12 =>
                some (q12.1, q12.2))
              else (
                (fX3_mostLoad q8.2).bind fun q10 =>
                some (q10, q8.2)))
            else (
              ck ((-100) - q8.1) fun v15 =>
              some (v15, q8.2)))
          else (
            (fX11_refuse q4 σ).bind fun q18 =>
            some (q18.1, q18.2)))
        else (
          some ((-4), σ)))
      else (
        some ((-1), σ))))
  else (
    some ((-1), σ))
def fX11_place_P29 (x1 : Int) (x2 : Int) (σ : Sg) : Option (Int × Sg) :=
  (fX1_bargeOf 19 x1 σ).bind fun q8 =>
  (fX1_setBarge 19 x1 x2 σ).bind fun q10 =>
  some (q8, q10)
def fX11_place (x1 : Int) (x2 : Int) (σ : Sg) : Option (Int × Sg) :=
  (fX1_isCue 19 x1 σ).bind fun q1 =>
  if q1 = 0 then (
    some ((-1), σ))
  else (
    if x2 = (-1) then (
      fX11_place_P29 x1 x2 σ)
    else (
      (fX8_isBarge x2 σ).bind fun q12 =>
      if q12 = 0 then (
        some ((-1), σ))
      else (
        fX11_place_P29 x1 x2 σ)))
def fX11_isTick (x0 : Int) (σ : Sg) : Option (Int) :=
  if x0 < 0 then (
    some 0)
  else (
    if x0 ≤ 20000 then (
      some 1)
    else (
      some 0))
def fX4_tell (x1 : Int) (x2 : Int) (x3 : Int) (σ : Sg) : Option (Sg) :=
  if (σ 40 3) < 0 then (
    some σ)
  else (
    if (σ 40 3) < 20 then (
      wr σ 41 20 (σ 40 3) x1 fun σ1 =>
      wr σ1 42 20 (σ1 40 3) x2 fun σ3 =>
      wr σ3 43 20 (σ3 40 3) x3 fun σ5 =>
      ck ((σ5 40 3) + 1) fun v7 =>
      st1 (put σ5 40 3 v7) fun σ9 =>
      some σ9)
    else (
      some σ))
def fX11_meter (x1 : Int) (x2 : Int) (x3 : Int) (σ : Sg) : Option (Int × Sg) :=
  if x1 < 0 then (
    some ((-1), σ))
  else (
    if x1 < 4 then (
      (fX11_isTick x2 σ).bind fun q1 =>
      if q1 = 0 then (
        some ((-1), σ))
      else (
        (fX11_isTick x3 σ).bind fun q3 =>
        if q3 = 0 then (
          some ((-1), σ))
        else (
          if x3 < x2 then (
            some ((-1), σ))
          else (
            if (σ 40 3) < 20 then (
              (fX4_tell x1 x2 x3 σ).bind fun q5 =>
              some ((q5 40 3), q5))
            else (
              some ((-2), σ))))))
    else (
      some ((-1), σ)))
def fX4_windKnown_L7P61 (rec : Int → Int → Int → Int → Sg → Option (Int)) (x1 : Int) (x2 : Int) (x3 : Int) (x4 : Int) (σ : Sg) : Option (Int) :=
  ck (x4 + 1) fun v6 =>
  rec x1 x2 x3 v6 σ
def fX4_windKnown_L7 : Nat → Int → Int → Int → Int → Sg → Option (Int)
  | 0, _, _, _, _, _ => none
  | n + 1, x1, x2, x3, x4, σ =>
    if x4 < (σ 40 3) then (
      if x4 < 20 then (
        rd σ 43 20 x4 fun v1 =>
        if v1 ≤ x1 then (
          rd σ 42 20 x4 fun v8 =>
          if v8 < x3 then (
            fX4_windKnown_L7P61 (fX4_windKnown_L7 n) x1 x2 x3 x4 σ)
          else (
            rd σ 42 20 x4 fun v10 =>
            rd σ 41 20 x4 fun v12 =>
            fX4_windKnown_L7P61 (fX4_windKnown_L7 n) x1 v12 v10 x4 σ))
        else (
          fX4_windKnown_L7P61 (fX4_windKnown_L7 n) x1 x2 x3 x4 σ))
      else (
        some x2))
    else (
      some x2)
def fX4_windKnown (x1 : Int) (σ : Sg) : Option (Int) :=
  (fX4_windKnown_L7 fu x1 0 (-1) 0 σ).bind fun q18 =>
  some q18
def fX11_knows (x1 : Int) (σ : Sg) : Option (Int) :=
  (fX11_isTick x1 σ).bind fun q1 =>
  if q1 = 0 then (
    some (-1))
  else (
    (fX4_windKnown x1 σ).bind fun q3 =>
    some q3)
def fX5_takes (x0 : Int) (σ : Sg) : Option (Int) :=
  if x0 ≤ 5 then (
    some 0)
  else (
    if x0 = 8 then (
      some 1)
    else (
      some 2))
def fX5_firstFault_L9P121 (rec : Nat → Int → Int → Sg → Option ((Int × Int × Sg) ⊕ ((Int × Sg) ⊕ ((Int × Sg) ⊕ ((Int × Sg) ⊕ (Sg)))))) (x1 : Nat) (x3 : Int) (y0 : Int) (y1 : Int) (σ : Sg) : Option ((Int × Int × Sg) ⊕ ((Int × Sg) ⊕ ((Int × Sg) ⊕ ((Int × Sg) ⊕ (Sg))))) :=
  ck (y1 + y0) fun v21 =>
  ck ((σ 44 4) + 1) fun v23 =>
  st1 (put σ 44 4 v23) fun σ25 =>
  rec x1 v21 x3 σ25
def fX5_firstFault_L9P91 (rec : Nat → Int → Int → Sg → Option ((Int × Int × Sg) ⊕ ((Int × Sg) ⊕ ((Int × Sg) ⊕ ((Int × Sg) ⊕ (Sg)))))) (x1 : Nat) (x2 : Int) (x3 : Int) (x4 : Int) (σ : Sg) : Option ((Int × Int × Sg) ⊕ ((Int × Sg) ⊕ ((Int × Sg) ⊕ ((Int × Sg) ⊕ (Sg))))) :=
  (fX5_takes x4 σ).bind fun q29 =>
  ck (1 - q29) fun v31 =>
  ck (x3 + v31) fun v33 =>
  if v33 ≤ 8 then (
    if x4 ≤ 5 then (
      fX5_firstFault_L9P121 rec x1 v33 2 x2 σ)
    else (
      fX5_firstFault_L9P121 rec x1 v33 1 x2 σ))
  else (
    some (.inr (.inr (.inr (.inl (x2, σ))))))
def fX5_firstFault_L9 : Nat → Nat → Int → Int → Sg → Option ((Int × Int × Sg) ⊕ ((Int × Sg) ⊕ ((Int × Sg) ⊕ ((Int × Sg) ⊕ (Sg)))))
  | 0, _, _, _, _ => none
  | n + 1, x1, x2, x3, σ =>
    if x2 < (σ x1 1) then (
      (fX9_numberAt x1 x2 σ).bind fun q3 =>
      if q3 = 0 then (
        some (.inl (x2, x3, σ)))
      else (
        if q3 < 0 then (
          some (.inr (.inl (x2, σ))))
        else (
          if q3 ≤ 8 then (
            (fX5_takes q3 σ).bind fun q5 =>
            if x3 < q5 then (
              some (.inr (.inl (x2, σ))))
            else (
              if q3 ≤ 5 then (
                ck (x2 + 1) fun v37 =>
                if v37 < (σ x1 1) then (
                  ck (x2 + 1) fun v39 =>
                  (fX9_numberAt x1 v39 σ).bind fun q41 =>
                  if q41 < 0 then (
                    some (.inr (.inr (.inl (x2, σ)))))
                  else (
                    fX5_firstFault_L9P91 (fX5_firstFault_L9 n) x1 x2 x3 q3 σ))
                else (
                  some (.inr (.inr (.inl (x2, σ))))))
              else (
                fX5_firstFault_L9P91 (fX5_firstFault_L9 n) x1 x2 x3 q3 σ)))
          else (
            some (.inr (.inl (x2, σ)))))))
    else (
      some (.inr (.inr (.inr (.inr σ)))))
def fX5_firstFault (x1 : Nat) (σ : Sg) : Option (Int × Sg) :=
  st1 (put σ 44 4 0) fun σ1 =>
  (fX5_firstFault_L9 fu x1 0 0 σ1).bind (Sum.elim (fun a52 =>
    if a52.2.1 = 1 then (
      some ((-1), a52.2.2))
    else (
      some (a52.1, a52.2.2))) (Sum.elim (fun a57 =>
    some (a57.1, a57.2)) (Sum.elim (fun a60 =>
    some (a60.1, a60.2)) (Sum.elim (fun a63 =>
    some (a63.1, a63.2)) (fun a66 =>
    some ((a66 x1 1), a66))))))
def fX5_add_L21P91 (rec : Nat → Int → Int → Sg → Option (Int × Sg)) (x1 : Nat) (x3 : Int) (y0 : Int) (y1 : Int) (σ : Sg) : Option (Int × Sg) :=
  ck (y1 + y0) fun v24 =>
  ck (x3 + 1) fun v26 =>
  rec x1 v24 v26 σ
def fX5_add_L21 : Nat → Nat → Int → Int → Sg → Option (Int × Sg)
  | 0, _, _, _, _ => none
  | n + 1, x1, x2, x3, σ =>
    if x3 < (σ 44 4) then (
      if x3 < 20 then (
        (fX9_numberAt x1 x2 σ).bind fun q1 =>
        ck ((σ 44 3) * 20) fun v3 =>
        ck (v3 + x3) fun v5 =>
        wr σ 45 160 v5 q1 fun σ7 =>
        ck ((σ7 44 3) * 20) fun v9 =>
        ck (v9 + x3) fun v11 =>
        ck (x2 + 1) fun v13 =>
        (fX9_numberAt x1 v13 σ7).bind fun q15 =>
        wr σ7 46 160 v11 q15 fun σ17 =>
        if q1 ≤ 5 then (
          fX5_add_L21P91 (fX5_add_L21 n) x1 x3 2 x2 σ17)
        else (
          fX5_add_L21P91 (fX5_add_L21 n) x1 x3 1 x2 σ17))
      else (
        some (x3, σ)))
    else (
      some (x3, σ))
def fX5_add (x1 : Nat) (σ : Sg) : Option (Sg) :=
  if (σ 44 3) < 0 then (
    some σ)
  else (
    if (σ 44 3) < 8 then (
      (fX5_add_L21 fu x1 0 0 σ).bind fun q31 =>
      wr q31.2 47 8 (q31.2 44 3) q31.1 fun σ34 =>
      ck ((σ34 44 3) + 1) fun v36 =>
      st1 (put σ34 44 3 v36) fun σ38 =>
      some σ38)
    else (
      some σ))
def fX11_hold (x1 : Int) (σ : Sg) : Option (Int × Sg) :=
  if 0 ≤ x1 ∧ x1 < 6 then (
    (fX9_refusalAs (tpO x1) 1 σ).bind fun q2 =>
    if q2 = 0 then (
      (fX5_firstFault (tpO x1) σ).bind fun q4 =>
      if q4.1 < 0 then (
        if (q4.2 44 3) < 8 then (
          if (q4.2 44 4) ≤ 20 then (
            (fX5_add (tpO x1) q4.2).bind fun q6 =>
            ck ((q6 44 3) - 1) fun v8 =>
            some (v8, q6))
          else (
            some ((-2), q4.2)))
        else (
          some ((-2), q4.2)))
      else (
        ck ((-100) - q4.1) fun v12 =>
        some (v12, q4.2)))
    else (
      (fX11_refuse q2 σ).bind fun q15 =>
      some (q15.1, q15.2)))
  else (
    some ((-1), σ))
def fX11_holdless  (σ : Sg) : Option (Int × Sg) :=
  st1 (put σ 44 3 0) fun σ1 =>
  some ((σ 44 3), σ1)
def fX7_faultOf (x1 : Int) (σ : Sg) : Option (Int) :=
  if x1 < 0 then (
    some 0)
  else (
    if x1 < 120 then (
      rd σ 49 120 x1 fun v1 =>
      some v1)
    else (
      some 0))
def fX7_setFault (x1 : Int) (x2 : Int) (σ : Sg) : Option (Sg) :=
  if x1 < 0 then (
    some σ)
  else (
    if x1 < 120 then (
      wr σ 49 120 x1 x2 fun σ1 =>
      some σ1)
    else (
      some σ))
def fX11_fault (x1 : Int) (x2 : Int) (σ : Sg) : Option (Int × Sg) :=
  (fX1_isCue 19 x1 σ).bind fun q1 =>
  if q1 = 0 then (
    some ((-1), σ))
  else (
    if x2 < 0 then (
      some ((-1), σ))
    else (
      if x2 ≤ 6 then (
        (fX7_faultOf x1 σ).bind fun q3 =>
        (fX7_setFault x1 x2 σ).bind fun q5 =>
        some (q3, q5))
      else (
        some ((-1), σ))))
def fX11_halt_P14 (x1 : Int) (σ : Sg) : Option (Int × Sg) :=
  st1 (put σ 48 9 x1) fun σ4 =>
  some ((σ 48 9), σ4)
def fX11_halt (x1 : Int) (σ : Sg) : Option (Int × Sg) :=
  if x1 = (-1) then (
    fX11_halt_P14 x1 σ)
  else (
    (fX11_isTick x1 σ).bind fun q6 =>
    if q6 = 0 then (
      some ((-1), σ))
    else (
      fX11_halt_P14 x1 σ))
def fX7_sortByFire_L34 : Nat → Int → Int → Int → Sg → Option (Int × Sg)
  | 0, _, _, _, _ => none
  | n + 1, x1, x2, x3, σ =>
    if x3 ≤ 0 then (
      some (x3, σ))
    else (
      ck (x3 - 1) fun v3 =>
      rd σ 51 120 v3 fun v5 =>
      if v5 ≤ x2 then (
        some (x3, σ))
      else (
        ck (x3 - 1) fun v7 =>
        rd σ 51 120 v7 fun v9 =>
        wr σ 51 120 x3 v9 fun σ11 =>
        ck (x3 - 1) fun v13 =>
        rd σ11 50 120 v13 fun v15 =>
        wr σ11 50 120 x3 v15 fun σ17 =>
        ck (x3 + (-1)) fun v19 =>
        fX7_sortByFire_L34 n x1 x2 v19 σ17))
def fX7_sortByFire_L2 : Nat → Int → Sg → Option (Sg)
  | 0, _, _ => none
  | n + 1, x1, σ =>
    if x1 < (σ 19 4) then (
      if x1 < 120 then (
        (fX8_fireOf 19 x1 σ).bind fun q1 =>
        (fX7_sortByFire_L34 fu x1 q1 x1 σ).bind fun q23 =>
        wr q23.2 51 120 q23.1 q1 fun σ26 =>
        wr σ26 50 120 q23.1 x1 fun σ28 =>
        ck (x1 + 1) fun v30 =>
        fX7_sortByFire_L2 n v30 σ28)
      else (
        some σ))
    else (
      some σ)
def fX7_sortByFire  (σ : Sg) : Option (Sg) :=
  (fX7_sortByFire_L2 fu 0 σ).bind fun q34 =>
  some q34
def fX7_fateOf (x1 : Int) (σ : Sg) : Option (Int) :=
  if x1 < 0 then (
    some 6)
  else (
    if x1 < 120 then (
      rd σ 52 120 x1 fun v1 =>
      some v1)
    else (
      some 6))
def fX7_misfiresSeen_L5P53 (rec : Int → Int → Int → Int → Sg → Option (Int)) (x1 : Int) (x2 : Int) (x3 : Int) (x4 : Int) (σ : Sg) : Option (Int) :=
  ck (x4 + 1) fun v8 =>
  rec x1 x2 x3 v8 σ
def fX7_misfiresSeen_L5 : Nat → Int → Int → Int → Int → Sg → Option (Int)
  | 0, _, _, _, _, _ => none
  | n + 1, x1, x2, x3, x4, σ =>
    if x4 < x1 then (
      if x4 < 120 then (
        rd σ 50 120 x4 fun v1 =>
        (fX7_fateOf v1 σ).bind fun q3 =>
        if q3 = 5 then (
          (fX1_burstOf 19 v1 σ).bind fun q10 =>
          if q10 ≤ x2 then (
            ck (x3 + 1) fun v12 =>
            fX7_misfiresSeen_L5P53 (fX7_misfiresSeen_L5 n) x1 x2 v12 x4 σ)
          else (
            fX7_misfiresSeen_L5P53 (fX7_misfiresSeen_L5 n) x1 x2 x3 x4 σ))
        else (
          fX7_misfiresSeen_L5P53 (fX7_misfiresSeen_L5 n) x1 x2 x3 x4 σ))
      else (
        some x3))
    else (
      some x3)
def fX7_misfiresSeen (x1 : Int) (x2 : Int) (σ : Sg) : Option (Int) :=
  (fX7_misfiresSeen_L5 fu x1 x2 0 0 σ).bind fun q18 =>
  some q18
def fX5_pushed (x0 : Int) (x1 : Int) (σ : Sg) : Option (Int) :=
  if x1 = 0 then (
    some (bOr (bShl x0 1) 0))
  else (
    some (bOr (bShl x0 1) 1))
def fX5_doesHold_L18P278 (rec : Int → Nat → Int → Int → Int → Int → Int → Int → Sg → Option (Int)) (x1 : Int) (x2 : Nat) (x3 : Int) (x4 : Int) (x5 : Int) (x6 : Int) (x7 : Int) (x8 : Int) (σ : Sg) : Option (Int) :=
  ck (x8 + 1) fun v18 =>
  rec x1 x2 x3 x4 x5 x6 x7 v18 σ
def fX5_doesHold_L18P264 (rec : Int → Nat → Int → Int → Int → Int → Int → Int → Sg → Option (Int)) (x1 : Int) (x2 : Nat) (x3 : Int) (x4 : Int) (x5 : Int) (x6 : Int) (x8 : Int) (y0 : Int) (y1 : Int) (σ : Sg) : Option (Int) :=
  (fX5_pushed y1 y0 σ).bind fun q30 =>
  fX5_doesHold_L18P278 rec x1 x2 x3 x4 x5 x6 q30 x8 σ
def fX5_doesHold_L18P240 (rec : Int → Nat → Int → Int → Int → Int → Int → Int → Sg → Option (Int)) (x1 : Int) (x2 : Nat) (x3 : Int) (x4 : Int) (x5 : Int) (x6 : Int) (x8 : Int) (y0 : Int) (y1 : Int) (σ : Sg) : Option (Int) :=
  (fX5_pushed y1 y0 σ).bind fun q36 =>
  fX5_doesHold_L18P278 rec x1 x2 x3 x4 x5 x6 q36 x8 σ
def fX5_doesHold_L18P215 (rec : Int → Nat → Int → Int → Int → Int → Int → Int → Sg → Option (Int)) (x1 : Int) (x2 : Nat) (x3 : Int) (x4 : Int) (x5 : Int) (x6 : Int) (x8 : Int) (y0 : Int) (y1 : Int) (σ : Sg) : Option (Int) :=
  (fX5_pushed y1 y0 σ).bind fun q44 =>
  fX5_doesHold_L18P278 rec x1 x2 x3 x4 x5 x6 q44 x8 σ
def fX5_doesHold_L18P190 (rec : Int → Nat → Int → Int → Int → Int → Int → Int → Sg → Option (Int)) (x1 : Int) (x2 : Nat) (x3 : Int) (x4 : Int) (x5 : Int) (x6 : Int) (x8 : Int) (y0 : Int) (y1 : Int) (σ : Sg) : Option (Int) :=
  (fX5_pushed y1 y0 σ).bind fun q52 =>
  fX5_doesHold_L18P278 rec x1 x2 x3 x4 x5 x6 q52 x8 σ
def fX5_doesHold_L18P165 (rec : Int → Nat → Int → Int → Int → Int → Int → Int → Sg → Option (Int)) (x1 : Int) (x2 : Nat) (x3 : Int) (x4 : Int) (x5 : Int) (x6 : Int) (x8 : Int) (y0 : Int) (y1 : Int) (σ : Sg) : Option (Int) :=
  (fX5_pushed y1 y0 σ).bind fun q58 =>
  fX5_doesHold_L18P278 rec x1 x2 x3 x4 x5 x6 q58 x8 σ
def fX5_doesHold_L18P143 (rec : Int → Nat → Int → Int → Int → Int → Int → Int → Sg → Option (Int)) (x1 : Int) (x2 : Nat) (x3 : Int) (x4 : Int) (x5 : Int) (x6 : Int) (x8 : Int) (y0 : Int) (y1 : Int) (σ : Sg) : Option (Int) :=
  (fX5_pushed y1 y0 σ).bind fun q64 =>
  fX5_doesHold_L18P278 rec x1 x2 x3 x4 x5 x6 q64 x8 σ
def fX5_doesHold_L18P121 (rec : Int → Nat → Int → Int → Int → Int → Int → Int → Sg → Option (Int)) (x1 : Int) (x2 : Nat) (x3 : Int) (x4 : Int) (x5 : Int) (x6 : Int) (x8 : Int) (y0 : Int) (y1 : Int) (σ : Sg) : Option (Int) :=
  (fX5_pushed y1 y0 σ).bind fun q72 =>
  fX5_doesHold_L18P278 rec x1 x2 x3 x4 x5 x6 q72 x8 σ
def fX5_doesHold_L18 : Nat → Int → Nat → Int → Int → Int → Int → Int → Int → Sg → Option (Int)
  | 0, _, _, _, _, _, _, _, _, _ => none
  | n + 1, x1, x2, x3, x4, x5, x6, x7, x8, σ =>
    rd σ 47 8 x1 fun v1 =>
    if x8 < v1 then (
      if x8 < 20 then (
        ck (x1 * 20) fun v3 =>
        ck (v3 + x8) fun v5 =>
        rd σ 46 160 v5 fun v7 =>
        ck (x1 * 20) fun v9 =>
        ck (v9 + x8) fun v11 =>
        rd σ 45 160 v11 fun v13 =>
        if v13 = 1 then (
          ck (10 * v7) fun v67 =>
          if x4 < v67 then (
            fX5_doesHold_L18P121 (fX5_doesHold_L18 n) x1 x2 x3 x4 x5 x6 x8 0 x7 σ)
          else (
            fX5_doesHold_L18P121 (fX5_doesHold_L18 n) x1 x2 x3 x4 x5 x6 x8 1 x7 σ))
        else (
          if v13 = 2 then (
            if x6 < v7 then (
              fX5_doesHold_L18P143 (fX5_doesHold_L18 n) x1 x2 x3 x4 x5 x6 x8 0 x7 σ)
            else (
              fX5_doesHold_L18P143 (fX5_doesHold_L18 n) x1 x2 x3 x4 x5 x6 x8 1 x7 σ))
          else (
            if v13 = 3 then (
              if x5 = v7 then (
                fX5_doesHold_L18P165 (fX5_doesHold_L18 n) x1 x2 x3 x4 x5 x6 x8 1 x7 σ)
              else (
                fX5_doesHold_L18P165 (fX5_doesHold_L18 n) x1 x2 x3 x4 x5 x6 x8 0 x7 σ))
            else (
              if v13 = 4 then (
                (fX1_bargeOf x2 x3 σ).bind fun q47 =>
                if q47 = v7 then (
                  fX5_doesHold_L18P190 (fX5_doesHold_L18 n) x1 x2 x3 x4 x5 x6 x8 1 x7 σ)
                else (
                  fX5_doesHold_L18P190 (fX5_doesHold_L18 n) x1 x2 x3 x4 x5 x6 x8 0 x7 σ))
              else (
                if v13 = 5 then (
                  (fX1_kindOf x2 x3 σ).bind fun q39 =>
                  if q39 = v7 then (
                    fX5_doesHold_L18P215 (fX5_doesHold_L18 n) x1 x2 x3 x4 x5 x6 x8 1 x7 σ)
                  else (
                    fX5_doesHold_L18P215 (fX5_doesHold_L18 n) x1 x2 x3 x4 x5 x6 x8 0 x7 σ))
                else (
                  if v13 = 6 then (
                    if (bAnd x7 3) = 3 then (
                      fX5_doesHold_L18P240 (fX5_doesHold_L18 n) x1 x2 x3 x4 x5 x6 x8 1 (bShr x7 2) σ)
                    else (
                      fX5_doesHold_L18P240 (fX5_doesHold_L18 n) x1 x2 x3 x4 x5 x6 x8 0 (bShr x7 2) σ))
                  else (
                    if v13 = 7 then (
                      if (bAnd x7 3) = 0 then (
                        fX5_doesHold_L18P264 (fX5_doesHold_L18 n) x1 x2 x3 x4 x5 x6 x8 0 (bShr x7 2) σ)
                      else (
                        fX5_doesHold_L18P264 (fX5_doesHold_L18 n) x1 x2 x3 x4 x5 x6 x8 1 (bShr x7 2) σ))
                    else (
                      fX5_doesHold_L18P278 (fX5_doesHold_L18 n) x1 x2 x3 x4 x5 x6 (bXor x7 1) x8 σ))))))))
      else (
        some x7))
    else (
      some x7)
def fX5_doesHold (x1 : Int) (x2 : Nat) (x3 : Int) (x4 : Int) (x5 : Int) (x6 : Int) (σ : Sg) : Option (Int) :=
  if x1 < 0 then (
    some 0)
  else (
    if x1 < 8 then (
      (fX5_doesHold_L18 fu x1 x2 x3 x4 x5 x6 0 0 σ).bind fun q77 =>
      if (bAnd q77 1) = 1 then (
        some 1)
      else (
        some 0))
    else (
      some 0))
def fX5_anyHolds_L3 : Nat → Nat → Int → Int → Int → Int → Int → Sg → Option ((Unit) ⊕ (Unit))
  | 0, _, _, _, _, _, _, _ => none
  | n + 1, x1, x2, x3, x4, x5, x6, σ =>
    if x6 < (σ 44 3) then (
      if x6 < 8 then (
        (fX5_doesHold x6 x1 x2 x3 x4 x5 σ).bind fun q1 =>
        if q1 = 0 then (
          ck (x6 + 1) fun v3 =>
          fX5_anyHolds_L3 n x1 x2 x3 x4 x5 v3 σ)
        else (
          some (.inl ())))
      else (
        some (.inr ())))
    else (
      some (.inr ()))
def fX5_anyHolds (x1 : Nat) (x2 : Int) (x3 : Int) (x4 : Int) (x5 : Int) (σ : Sg) : Option (Int) :=
  (fX5_anyHolds_L3 fu x1 x2 x3 x4 x5 0 σ).bind (Sum.elim (fun a9 =>
    some 1) (fun a10 =>
    some 0))
def fX2_colourOf (x1 : Int) (σ : Sg) : Option (Int) :=
  (fX2_isTold x1 σ).bind fun q1 =>
  if q1 = 0 then (
    some 0)
  else (
    rd σ 11 12 x1 fun v3 =>
    some v3)
def fX7_kindToFire_L61P141 (rec : Int → Int → Int → Int → Int → Sg → Option ((Int) ⊕ (Unit))) (x2 : Int) (x4 : Int) (x5 : Int) (x6 : Int) (x7 : Int) (σ : Sg) : Option ((Int) ⊕ (Unit)) :=
  ck (x7 + 1) fun v14 =>
  rec x2 x4 x5 x6 v14 σ
def fX7_kindToFire_L61 : Nat → Int → Int → Int → Int → Int → Sg → Option ((Int) ⊕ (Unit))
  | 0, _, _, _, _, _, _ => none
  | n + 1, x2, x4, x5, x6, x7, σ =>
    if x7 < 12 then (
      (fX2_isTold x7 σ).bind fun q9 =>
      if q9 = 0 then (
        fX7_kindToFire_L61P141 (fX7_kindToFire_L61 n) x2 x4 x5 x6 x7 σ)
      else (
        (fX2_colourOf x7 σ).bind fun q16 =>
        (fX2_colourOf x4 σ).bind fun q18 =>
        if q16 = q18 then (
          (fX2_liftOf x7 σ).bind fun q20 =>
          (fX2_liftOf x4 σ).bind fun q22 =>
          if q20 ≤ q22 then (
            (fX8_isSafe x7 x5 x6 x2 σ).bind fun q24 =>
            if q24 = 0 then (
              fX7_kindToFire_L61P141 (fX7_kindToFire_L61 n) x2 x4 x5 x6 x7 σ)
            else (
              (fX8_holds x5 x7 σ).bind fun q26 =>
              if q26 = 0 then (
                fX7_kindToFire_L61P141 (fX7_kindToFire_L61 n) x2 x4 x5 x6 x7 σ)
              else (
                some (.inl x7))))
          else (
            fX7_kindToFire_L61P141 (fX7_kindToFire_L61 n) x2 x4 x5 x6 x7 σ))
        else (
          fX7_kindToFire_L61P141 (fX7_kindToFire_L61 n) x2 x4 x5 x6 x7 σ)))
    else (
      some (.inr ()))
def fX7_kindToFire (x1 : Int) (x2 : Int) (σ : Sg) : Option (Int) :=
  (fX1_kindOf 19 x1 σ).bind fun q1 =>
  (fX1_bargeOf 19 x1 σ).bind fun q3 =>
  (fX1_angleOf 19 x1 σ).bind fun q5 =>
  (fX8_isSafe q1 q3 q5 x2 σ).bind fun q7 =>
  if q7 = 0 then (
    (fX7_kindToFire_L61 fu x2 q1 q3 q5 0 σ).bind (Sum.elim (fun a35 =>
      some a35) (fun a37 =>
      some (-1))))
  else (
    some q1)
def fX7_reckonFate_P170 (x1 : Int) (x5 : Int) (y0 : Int) (y1 : Int) (σ : Sg) : Option (Sg) :=
  wr σ 52 120 y1 y0 fun σ23 =>
  wr σ23 53 120 x1 x5 fun σ25 =>
  some σ25
def fX7_reckonFate_P84 (x1 : Int) (x2 : Int) (x3 : Int) (x4 : Int) (σ : Sg) : Option (Sg) :=
  (fX5_anyHolds 19 x1 x2 x4 x3 σ).bind fun q33 =>
  if q33 = 0 then (
    (fX7_kindToFire x1 x4 σ).bind fun q35 =>
    if q35 = (-1) then (
      fX7_reckonFate_P170 x1 q35 2 x1 σ)
    else (
      rd σ 49 120 x1 fun v37 =>
      if v37 = 6 then (
        fX7_reckonFate_P170 x1 q35 5 x1 σ)
      else (
        (fX1_kindOf 19 x1 σ).bind fun q39 =>
        if q35 = q39 then (
          fX7_reckonFate_P170 x1 q35 0 x1 σ)
        else (
          fX7_reckonFate_P170 x1 q35 1 x1 σ))))
  else (
    wr σ 52 120 x1 3 fun σ44 =>
    some σ44)
def fX7_reckonFate (x1 : Int) (x2 : Int) (x3 : Int) (σ : Sg) : Option (Sg) :=
  if x1 < 0 then (
    some σ)
  else (
    if x1 < 120 then (
      (fX4_windKnown x2 σ).bind fun q1 =>
      (fX1_kindOf 19 x1 σ).bind fun q3 =>
      wr σ 53 120 x1 q3 fun σ5 =>
      (fX1_bargeOf 19 x1 σ5).bind fun q7 =>
      if q7 = (-1) then (
        wr σ5 52 120 x1 6 fun σ51 =>
        some σ51)
      else (
        if (σ5 48 9) = (-1) then (
          fX7_reckonFate_P84 x1 x2 x3 q1 σ5)
        else (
          if x2 < (σ5 48 9) then (
            fX7_reckonFate_P84 x1 x2 x3 q1 σ5)
          else (
            wr σ5 52 120 x1 4 fun σ47 =>
            some σ47))))
    else (
      some σ))
def fX7_reckon_L6 : Nat → Int → Sg → Option (Sg)
  | 0, _, _ => none
  | n + 1, x1, σ =>
    if x1 < (σ 19 4) then (
      if x1 < 120 then (
        rd σ 50 120 x1 fun v3 =>
        rd σ 51 120 x1 fun v5 =>
        rd σ 51 120 x1 fun v7 =>
        (fX7_misfiresSeen x1 v7 σ).bind fun q9 =>
        (fX7_reckonFate v3 v5 q9 σ).bind fun q11 =>
        ck (x1 + 1) fun v13 =>
        fX7_reckon_L6 n v13 q11)
      else (
        some σ))
    else (
      some σ)
def fX7_reckon  (σ : Sg) : Option (Sg) :=
  (fX7_sortByFire σ).bind fun q1 =>
  (fX7_reckon_L6 fu 0 q1).bind fun q17 =>
  some q17
def fX11_fate (x1 : Int) (σ : Sg) : Option (Int × Sg) :=
  (fX1_isCue 19 x1 σ).bind fun q1 =>
  if q1 = 0 then (
    some ((-1), σ))
  else (
    (fX7_reckon σ).bind fun q3 =>
    (fX7_fateOf x1 q3).bind fun q5 =>
    some (q5, q3))
def fX7_kindHad (x1 : Int) (σ : Sg) : Option (Int) :=
  if x1 < 0 then (
    some (-1))
  else (
    if x1 < 120 then (
      rd σ 53 120 x1 fun v1 =>
      some v1)
    else (
      some (-1)))
def fX11_goes_P20  (σ : Sg) : Option (Int × Sg) :=
  none
def fX11_goes_P67 (x1 : Int) (x2 : Int) (σ : Sg) : Option (Int × Sg) :=
  (fX7_kindHad x1 σ).bind fun q25 =>
  if x2 = 0 then (
    some (q25, σ))
  else (
    if x2 = 1 then (
      (fX1_burstOf 19 x1 σ).bind fun q35 =>
      (fX2_liftOf q25 σ).bind fun q37 =>
      ck (q35 - q37) fun v39 =>
      some (v39, σ))
    else (
      (fX1_burstOf 19 x1 σ).bind fun q27 =>
      (fX7_faultOf x1 σ).bind fun q29 =>
      ck (q27 + q29) fun v31 =>
      some (v31, σ)))
def fX11_goes (x1 : Int) (x2 : Int) (σ : Sg) : Option (Int × Sg) :=
  (fX1_isCue 19 x1 σ).bind fun q1 =>
  if q1 = 0 then (
    fX11_goes_P20  σ)
  else (
    if x2 < 0 then (
      fX11_goes_P20  σ)
    else (
      if x2 ≤ 2 then (
        (fX7_reckon σ).bind fun q4 =>
        (fX7_fateOf x1 q4).bind fun q6 =>
        if q6 = 0 then (
          fX11_goes_P67 x1 x2 q4)
        else (
          if q6 = 1 then (
            fX11_goes_P67 x1 x2 q4)
          else (
            none)))
      else (
        fX11_goes_P20  σ)))
def fX11_goesT_P20  (σ : Sg) : Option (Int × Sg) :=
  some (1, σ)
def fX11_goesT_P67 (x1 : Int) (x2 : Int) (σ : Sg) : Option (Int × Sg) :=
  (fX7_kindHad x1 σ).bind fun q25 =>
  if x2 = 0 then (
    none)
  else (
    if x2 = 1 then (
      (fX1_burstOf 19 x1 σ).bind fun q35 =>
      (fX2_liftOf q25 σ).bind fun q37 =>
      ck (q35 - q37) fun v39 =>
      none)
    else (
      (fX1_burstOf 19 x1 σ).bind fun q27 =>
      (fX7_faultOf x1 σ).bind fun q29 =>
      ck (q27 + q29) fun v31 =>
      none))
def fX11_goesT (x1 : Int) (x2 : Int) (σ : Sg) : Option (Int × Sg) :=
  (fX1_isCue 19 x1 σ).bind fun q1 =>
  if q1 = 0 then (
    fX11_goesT_P20  σ)
  else (
    if x2 < 0 then (
      fX11_goesT_P20  σ)
    else (
      if x2 ≤ 2 then (
        (fX7_reckon σ).bind fun q4 =>
        (fX7_fateOf x1 q4).bind fun q6 =>
        if q6 = 0 then (
          fX11_goesT_P67 x1 x2 q4)
        else (
          if q6 = 1 then (
            fX11_goesT_P67 x1 x2 q4)
          else (
            some (2, q4))))
      else (
        fX11_goesT_P20  σ)))
def fX11_many_L23P49 (rec : Int → Int → Int → Sg → Option (Int)) (x1 : Int) (x2 : Int) (x3 : Int) (σ : Sg) : Option (Int) :=
  ck (x3 + 1) fun v8 =>
  rec x1 x2 v8 σ
def fX11_many_L23 : Nat → Int → Int → Int → Sg → Option (Int)
  | 0, _, _, _, _ => none
  | n + 1, x1, x2, x3, σ =>
    if x3 < (σ 19 4) then (
      (fX7_fateOf x3 σ).bind fun q3 =>
      if q3 = x1 then (
        ck (x2 + 1) fun v10 =>
        fX11_many_L23P49 (fX11_many_L23 n) x1 v10 x3 σ)
      else (
        fX11_many_L23P49 (fX11_many_L23 n) x1 x2 x3 σ))
    else (
      some x2)
def fX11_many (x1 : Int) (σ : Sg) : Option (Int × Sg) :=
  if x1 < 0 then (
    some ((-1), σ))
  else (
    if x1 ≤ 6 then (
      (fX7_reckon σ).bind fun q1 =>
      (fX11_many_L23 fu x1 0 0 q1).bind fun q14 =>
      some (q14, q1))
    else (
      some ((-1), σ)))
def fX7_cueAt (x1 : Int) (σ : Sg) : Option (Int) :=
  if x1 < 0 then (
    some (-1))
  else (
    if x1 < 120 then (
      rd σ 50 120 x1 fun v1 =>
      some v1)
    else (
      some (-1)))
def fX11_order (x1 : Int) (σ : Sg) : Option (Int × Sg) :=
  (fX1_isCue 19 x1 σ).bind fun q1 =>
  if q1 = 0 then (
    some ((-1), σ))
  else (
    (fX7_reckon σ).bind fun q3 =>
    (fX7_cueAt x1 q3).bind fun q5 =>
    some (q5, q3))
def fX10_tell_L22 : Nat → Int → Int → Int → Sg → Option (Int × Sg)
  | 0, _, _, _, _ => none
  | n + 1, x1, x2, x3, σ =>
    if x3 ≤ 0 then (
      some (x3, σ))
    else (
      ck (x3 - 1) fun v1 =>
      rd σ 55 60 v1 fun v3 =>
      if v3 ≤ x1 then (
        some (x3, σ))
      else (
        ck (x3 - 1) fun v5 =>
        rd σ 55 60 v5 fun v7 =>
        wr σ 55 60 x3 v7 fun σ9 =>
        ck (x3 - 1) fun v11 =>
        rd σ9 56 60 v11 fun v13 =>
        wr σ9 56 60 x3 v13 fun σ15 =>
        ck (x3 + (-1)) fun v17 =>
        fX10_tell_L22 n x1 x2 v17 σ15))
def fX10_tell (x1 : Int) (x2 : Int) (σ : Sg) : Option (Sg) :=
  if (σ 54 6) < 0 then (
    some σ)
  else (
    if (σ 54 6) < 60 then (
      (fX10_tell_L22 fu x1 x2 (σ 54 6) σ).bind fun q21 =>
      wr q21.2 55 60 q21.1 x1 fun σ24 =>
      wr σ24 56 60 q21.1 x2 fun σ26 =>
      ck ((σ26 54 6) + 1) fun v28 =>
      st1 (put σ26 54 6 v28) fun σ30 =>
      some σ30)
    else (
      some σ))
def fX11_seen (x1 : Int) (x2 : Int) (σ : Sg) : Option (Int × Sg) :=
  if x1 < 0 then (
    some ((-1), σ))
  else (
    if x1 ≤ 20010 then (
      if x2 < 1 then (
        some ((-1), σ))
      else (
        if x2 ≤ 9 then (
          if (σ 54 6) < 60 then (
            (fX10_tell x1 x2 σ).bind fun q1 =>
            some ((q1 54 6), q1))
          else (
            some ((-2), σ)))
        else (
          some ((-1), σ))))
    else (
      some ((-1), σ)))
def fX11_unseen  (σ : Sg) : Option (Int × Sg) :=
  st1 (put σ 54 6 0) fun σ1 =>
  some ((σ 54 6), σ1)
def fX7_isExpected_P31  (σ : Sg) : Option (Int) :=
  some 1
def fX7_isExpected (x1 : Int) (σ : Sg) : Option (Int) :=
  (fX7_fateOf x1 σ).bind fun q1 =>
  (fX1_isCue 19 x1 σ).bind fun q3 =>
  if q3 = 0 then (
    some 0)
  else (
    if q1 = 0 then (
      fX7_isExpected_P31  σ)
    else (
      if q1 = 1 then (
        fX7_isExpected_P31  σ)
      else (
        if q1 = 5 then (
          fX7_isExpected_P31  σ)
        else (
          some 0))))
def fX10_expected_L4P29 (rec : Int → Int → Sg → Option (Int)) (x1 : Int) (x2 : Int) (σ : Sg) : Option (Int) :=
  ck (x2 + 1) fun v6 =>
  rec x1 v6 σ
def fX10_expected_L4 : Nat → Int → Int → Sg → Option (Int)
  | 0, _, _, _ => none
  | n + 1, x1, x2, σ =>
    if x2 < (σ 19 4) then (
      (fX7_isExpected x2 σ).bind fun q1 =>
      if q1 = 0 then (
        fX10_expected_L4P29 (fX10_expected_L4 n) x1 x2 σ)
      else (
        ck (x1 + 1) fun v8 =>
        fX10_expected_L4P29 (fX10_expected_L4 n) v8 x2 σ))
    else (
      some x1)
def fX10_expected  (σ : Sg) : Option (Int) :=
  (fX10_expected_L4 fu 0 0 σ).bind fun q12 =>
  some q12
def fX2_lateOf (x1 : Int) (σ : Sg) : Option (Int) :=
  (fX2_isTold x1 σ).bind fun q1 =>
  if q1 = 0 then (
    some 0)
  else (
    rd σ 12 12 x1 fun v3 =>
    some v3)
def fX10_lateOf (x1 : Int) (σ : Sg) : Option (Int) :=
  (fX7_kindHad x1 σ).bind fun q1 =>
  (fX2_lateOf q1 σ).bind fun q3 =>
  some q3
def fX10_mayBe (x1 : Int) (x2 : Int) (x3 : Int) (σ : Sg) : Option (Int) :=
  (fX7_isExpected x1 σ).bind fun q1 =>
  if q1 = 0 then (
    some 0)
  else (
    (fX7_kindHad x1 σ).bind fun q3 =>
    (fX2_colourOf q3 σ).bind fun q5 =>
    if q5 = x3 then (
      (fX1_burstOf 19 x1 σ).bind fun q7 =>
      ck (q7 - x2) fun v9 =>
      ck (abI v9) fun v11 =>
      (fX10_lateOf x1 σ).bind fun q13 =>
      if v11 ≤ q13 then (
        some 1)
      else (
        some 0))
    else (
      some 0))
def fX10_firstToEnd_L9P94 (rec : Int → Int → Int → Int → Int → Int → Sg → Option (Int)) (x1 : Int) (x2 : Int) (x3 : Int) (x4 : Int) (x5 : Int) (x6 : Int) (σ : Sg) : Option (Int) :=
  ck (x6 + 1) fun v4 =>
  rec x1 x2 x3 x4 x5 v4 σ
def fX10_firstToEnd_L9P86 (rec : Int → Int → Int → Int → Int → Int → Sg → Option (Int)) (x1 : Int) (x2 : Int) (x3 : Int) (x6 : Int) (x7 : Int) (σ : Sg) : Option (Int) :=
  fX10_firstToEnd_L9P94 rec x1 x2 x3 x6 x7 x6 σ
def fX10_firstToEnd_L9 : Nat → Int → Int → Int → Int → Int → Int → Sg → Option (Int)
  | 0, _, _, _, _, _, _, _ => none
  | n + 1, x1, x2, x3, x4, x5, x6, σ =>
    if x6 < (σ 19 4) then (
      if x6 < 120 then (
        if x6 = x3 then (
          fX10_firstToEnd_L9P94 (fX10_firstToEnd_L9 n) x1 x2 x3 x4 x5 x6 σ)
        else (
          rd σ 57 120 x6 fun v6 =>
          if v6 = 0 then (
            (fX10_mayBe x6 x1 x2 σ).bind fun q8 =>
            if q8 = 0 then (
              fX10_firstToEnd_L9P94 (fX10_firstToEnd_L9 n) x1 x2 x3 x4 x5 x6 σ)
            else (
              (fX1_burstOf 19 x6 σ).bind fun q10 =>
              (fX10_lateOf x6 σ).bind fun q12 =>
              ck (q10 + q12) fun v14 =>
              if x4 = (-1) then (
                fX10_firstToEnd_L9P86 (fX10_firstToEnd_L9 n) x1 x2 x3 x6 v14 σ)
              else (
                if v14 < x5 then (
                  fX10_firstToEnd_L9P86 (fX10_firstToEnd_L9 n) x1 x2 x3 x6 v14 σ)
                else (
                  fX10_firstToEnd_L9P94 (fX10_firstToEnd_L9 n) x1 x2 x3 x4 x5 x6 σ))))
          else (
            fX10_firstToEnd_L9P94 (fX10_firstToEnd_L9 n) x1 x2 x3 x4 x5 x6 σ)))
      else (
        some x4))
    else (
      some x4)
def fX10_firstToEnd (x1 : Int) (x2 : Int) (x3 : Int) (σ : Sg) : Option (Int) :=
  (fX10_firstToEnd_L9 fu x1 x2 x3 (-1) 0 0 σ).bind fun q24 =>
  some q24
def fX10_greatestMatching_L2 : Nat → Int → Int → Sg → Option (Sg)
  | 0, _, _, _ => none
  | n + 1, x1, x2, σ =>
    if x2 < 120 then (
      wrZ σ 57 120 x2 0 fun σ1 =>
      ck (x2 + 1) fun v3 =>
      fX10_greatestMatching_L2 n x1 v3 σ1)
    else (
      some σ)
def fX10_greatestMatching_L25P81 (rec : Int → Int → Int → Sg → Option (Int × Sg)) (x1 : Int) (x2 : Int) (x3 : Int) (σ : Sg) : Option (Int × Sg) :=
  ck (x3 + 1) fun v17 =>
  rec x1 x2 v17 σ
def fX10_greatestMatching_L25 : Nat → Int → Int → Int → Sg → Option (Int × Sg)
  | 0, _, _, _, _ => none
  | n + 1, x1, x2, x3, σ =>
    if x3 < (σ 54 6) then (
      if x3 < 60 then (
        rd σ 55 60 x3 fun v8 =>
        rd σ 56 60 x3 fun v10 =>
        (fX10_firstToEnd v8 v10 x1 σ).bind fun q12 =>
        if q12 < 0 then (
          fX10_greatestMatching_L25P81 (fX10_greatestMatching_L25 n) x1 x2 x3 σ)
        else (
          if q12 < 120 then (
            wrZ σ 57 120 q12 1 fun σ19 =>
            ck (x2 + 1) fun v21 =>
            fX10_greatestMatching_L25P81 (fX10_greatestMatching_L25 n) x1 v21 x3 σ19)
          else (
            fX10_greatestMatching_L25P81 (fX10_greatestMatching_L25 n) x1 x2 x3 σ)))
      else (
        some (x2, σ)))
    else (
      some (x2, σ))
def fX10_greatestMatching (x1 : Int) (σ : Sg) : Option (Int × Sg) :=
  (fX10_greatestMatching_L2 fu x1 0 σ).bind fun q6 =>
  (fX10_greatestMatching_L25 fu x1 0 0 q6).bind fun q27 =>
  some (q27.1, q27.2)
def fX11_duds  (σ : Sg) : Option (Int × Sg) :=
  (fX7_reckon σ).bind fun q1 =>
  (fX10_expected q1).bind fun q3 =>
  (fX10_greatestMatching (-1) q1).bind fun q5 =>
  ck (q3 - q5.1) fun v7 =>
  some (v7, q5.2)
def fX10_mayBeSeen_L2 : Nat → Int → Int → Sg → Option ((Unit) ⊕ (Unit))
  | 0, _, _, _ => none
  | n + 1, x1, x2, σ =>
    if x2 < (σ 54 6) then (
      if x2 < 60 then (
        rd σ 55 60 x2 fun v1 =>
        rd σ 56 60 x2 fun v3 =>
        (fX10_mayBe x1 v1 v3 σ).bind fun q5 =>
        if q5 = 0 then (
          ck (x2 + 1) fun v7 =>
          fX10_mayBeSeen_L2 n x1 v7 σ)
        else (
          some (.inl ())))
      else (
        some (.inr ())))
    else (
      some (.inr ()))
def fX10_mayBeSeen (x1 : Int) (σ : Sg) : Option (Int) :=
  (fX10_mayBeSeen_L2 fu x1 0 σ).bind (Sum.elim (fun a13 =>
    some 1) (fun a14 =>
    some 0))
def fX11_dud (x1 : Int) (σ : Sg) : Option (Int × Sg) :=
  (fX1_isCue 19 x1 σ).bind fun q1 =>
  if q1 = 0 then (
    some ((-1), σ))
  else (
    (fX7_reckon σ).bind fun q3 =>
    (fX7_isExpected x1 q3).bind fun q5 =>
    if q5 = 0 then (
      some ((-2), q3))
    else (
      (fX10_mayBeSeen x1 q3).bind fun q7 =>
      if q7 = 0 then (
        some (2, q3))
      else (
        (fX10_greatestMatching x1 q3).bind fun q9 =>
        (fX10_greatestMatching (-1) q9.2).bind fun q11 =>
        if q9.1 < q11.1 then (
          some (0, q11.2))
        else (
          some (1, q11.2)))))
def fX11_strange  (σ : Sg) : Option (Int × Sg) :=
  (fX7_reckon σ).bind fun q1 =>
  (fX10_greatestMatching (-1) q1).bind fun q3 =>
  ck ((q1 54 6) - q3.1) fun v5 =>
  some (v5, q3.2)
def fX9_makeRow (x0 : Nat) (x1 : Int) (x2 : Int) (σ : Sg) : Option (Sg) :=
  st1 (put σ x0 0 x1) fun σ1 =>
  st1 (put σ1 x0 1 x2) fun σ3 =>
  filL σ3 (x0 + 1) 100 0 fun σ5 =>
  some σ5
def fX11_tape (x1 : Int) (x2 : Int) (x3 : Int) (σ : Sg) : Option (Int × Sg) :=
  if 0 ≤ x1 ∧ x1 < 6 then (
    if x2 < 1 then (
      some ((-1), σ))
    else (
      if x2 ≤ 4 then (
        if x3 ≤ 100 then (
          if x3 < 0 then (
            (fX11_refuse (-14) σ).bind fun q4 =>
            some (q4.1, q4.2))
          else (
            (fX9_makeRow (tpO x1) x2 x3 σ).bind fun q2 =>
            some (x3, q2)))
        else (
          some ((-1), σ)))
      else (
        some ((-1), σ))))
  else (
    some ((-1), σ))
def fX9_makeShow (x0 : Nat) (x1 : Nat) (σ : Sg) : Option (Sg) :=
  st1 (put σ x0 0 5) fun σ1 =>
  st1 (put σ1 x0 1 0) fun σ3 =>
  (fX1_become (x0 + 2) x1 σ3).bind fun q5 =>
  some q5
def fX11_keep (x1 : Int) (σ : Sg) : Option (Int × Sg) :=
  if 0 ≤ x1 ∧ x1 < 6 then (
    (fX9_makeShow (tpO x1) 19 σ).bind fun q2 =>
    some ((q2 19 4), q2))
  else (
    some ((-1), σ))
def fX8_tellsAllOf_L2P46 (rec : Nat → Int → Sg → Option ((Unit) ⊕ (Unit))) (x1 : Nat) (x2 : Int) (σ : Sg) : Option ((Unit) ⊕ (Unit)) :=
  ck (x2 + 1) fun v10 =>
  rec x1 v10 σ
def fX8_tellsAllOf_L2 : Nat → Nat → Int → Sg → Option ((Unit) ⊕ (Unit))
  | 0, _, _, _ => none
  | n + 1, x1, x2, σ =>
    if x2 < (σ x1 4) then (
      (fX1_bargeOf x1 x2 σ).bind fun q1 =>
      (fX1_kindOf x1 x2 σ).bind fun q3 =>
      (fX2_isTold q3 σ).bind fun q5 =>
      if q5 = 0 then (
        some (.inl ()))
      else (
        if q1 = (-1) then (
          fX8_tellsAllOf_L2P46 (fX8_tellsAllOf_L2 n) x1 x2 σ)
        else (
          (fX8_isBarge q1 σ).bind fun q12 =>
          if q12 = 0 then (
            some (.inl ()))
          else (
            fX8_tellsAllOf_L2P46 (fX8_tellsAllOf_L2 n) x1 x2 σ))))
    else (
      some (.inr ()))
def fX8_tellsAllOf (x1 : Nat) (σ : Sg) : Option (Int) :=
  (fX8_tellsAllOf_L2 fu x1 0 σ).bind (Sum.elim (fun a19 =>
    some 0) (fun a20 =>
    some 1))
def fX11_back_L48 : Nat → Nat → Int → Sg → Option ((Unit) ⊕ (Unit))
  | 0, _, _, _ => none
  | n + 1, x2, x4, σ =>
    if x4 < (σ (x2 + 2) 4) then (
      (fX8_fireOf (x2 + 2) x4 σ).bind fun q6 =>
      if q6 < 0 then (
        some (.inl ()))
      else (
        ck (x4 + 1) fun v8 =>
        fX11_back_L48 n x2 v8 σ))
    else (
      some (.inr ()))
def fX11_back (x1 : Int) (σ : Sg) : Option (Int × Sg) :=
  if 0 ≤ x1 ∧ x1 < 6 then (
    (fX9_refusalAs (tpO x1) 5 σ).bind fun q2 =>
    if q2 = 0 then (
      (fX8_tellsAllOf ((tpO x1) + 2) σ).bind fun q4 =>
      if q4 = 0 then (
        some ((-3), σ))
      else (
        (fX11_back_L48 fu (tpO x1) 0 σ).bind (Sum.elim (fun a13 =>
          some ((-5), σ)) (fun a14 =>
          (fX11_takeCues ((tpO x1) + 2) σ).bind fun q15 =>
          some ((q15 19 4), q15)))))
    else (
      (fX11_refuse q2 σ).bind fun q18 =>
      some (q18.1, q18.2)))
  else (
    some ((-1), σ))
def fX9_throwFailure (x0 : Nat) (σ : Sg) : Option (Sg) :=
  (fX1_openOnes (x0 + 2) σ).bind fun q1 =>
  if q1 ≤ 0 then (
    some σ)
  else (
    none)
def fX9_throwFailureT (x0 : Nat) (σ : Sg) : Option (Int) :=
  (fX1_openOnes (x0 + 2) σ).bind fun q1 =>
  if q1 ≤ 0 then (
    none)
  else (
    some 2)
def fX11_toss (x1 : Int) (σ : Sg) : Option (Int × Sg) :=
  if 0 ≤ x1 ∧ x1 < 6 then (
    (fX9_refusalAs (tpO x1) 5 σ).bind fun q2 =>
    if q2 = 0 then (
      if (fX9_throwFailureT (tpO x1) σ).isSome = true then (
        (fX1_openOnes ((tpO x1) + 2) σ).bind fun q10 =>
        some (q10, σ))
      else (
        (fX9_throwFailure (tpO x1) σ).bind fun q9 =>
        (fX11_refuse (-15) q9).bind fun q12 =>
        some (q12.1, q12.2)))
    else (
      (fX11_refuse q2 σ).bind fun q14 =>
      some (q14.1, q14.2)))
  else (
    some ((-1), σ))
def fX11_clear (x1 : Int) (σ : Sg) : Option (Int × Sg) :=
  if 0 ≤ x1 ∧ x1 < 6 then (
    st1 (put σ (tpO x1) 0 0) fun σ2 =>
    some ((σ (tpO x1) 0), σ2))
  else (
    some ((-1), σ))
def fX9_isRow (x0 : Nat) (σ : Sg) : Option (Int) :=
  if (σ x0 0) < 1 then (
    some 0)
  else (
    if (σ x0 0) ≤ 4 then (
      some 1)
    else (
      some 0))
def fX9_narrowed (x0 : Nat) (x1 : Int) (σ : Sg) : Option (Int) :=
  if (σ x0 0) = 1 then (
    some (toB (toI x1)))
  else (
    if (σ x0 0) = 2 then (
      some (toS (toI x1)))
    else (
      if (σ x0 0) = 3 then (
        some (toI x1))
      else (
        some x1)))
def fX9_setValue (x0 : Nat) (x1 : Int) (x2 : Int) (σ : Sg) : Option (Sg) :=
  (fX9_hasPlace x0 x1 σ).bind fun q1 =>
  if q1 = 0 then (
    some σ)
  else (
    (fX9_narrowed x0 x2 σ).bind fun q3 =>
    wr σ (x0 + 1) 100 x1 q3 fun σ5 =>
    some σ5)
def fX11_put (x1 : Int) (x2 : Int) (x3 : Int) (σ : Sg) : Option (Int × Sg) :=
  if 0 ≤ x1 ∧ x1 < 6 then (
    if (σ (tpO x1) 0) = 0 then (
      (fX11_refuse (-11) σ).bind fun q14 =>
      some (q14.1, q14.2))
    else (
      (fX9_isRow (tpO x1) σ).bind fun q2 =>
      if q2 = 0 then (
        (fX11_refuse (-12) σ).bind fun q11 =>
        some (q11.1, q11.2))
      else (
        (fX9_hasPlace (tpO x1) x2 σ).bind fun q4 =>
        if q4 = 0 then (
          (fX11_refuse (-13) σ).bind fun q8 =>
          some (q8.1, q8.2))
        else (
          (fX9_setValue (tpO x1) x2 x3 σ).bind fun q6 =>
          some (1, q6)))))
  else (
    some ((-1), σ))
def fX11_at_P36  (σ : Sg) : Option (Int) :=
  none
def fX11_at (x1 : Int) (x2 : Int) (σ : Sg) : Option (Int) :=
  if 0 ≤ x1 ∧ x1 < 6 then (
    (fX9_isRow (tpO x1) σ).bind fun q2 =>
    if q2 = 0 then (
      fX11_at_P36  σ)
    else (
      (fX9_hasPlace (tpO x1) x2 σ).bind fun q5 =>
      if q5 = 0 then (
        fX11_at_P36  σ)
      else (
        (fX9_valueAt (tpO x1) x2 σ).bind fun q7 =>
        some q7)))
  else (
    none)
def fX11_atT_P36  (σ : Sg) : Option (Int) :=
  some 2
def fX11_atT (x1 : Int) (x2 : Int) (σ : Sg) : Option (Int) :=
  if 0 ≤ x1 ∧ x1 < 6 then (
    (fX9_isRow (tpO x1) σ).bind fun q2 =>
    if q2 = 0 then (
      fX11_atT_P36  σ)
    else (
      (fX9_hasPlace (tpO x1) x2 σ).bind fun q5 =>
      if q5 = 0 then (
        fX11_atT_P36  σ)
      else (
        (fX9_valueAt (tpO x1) x2 σ).bind fun q7 =>
        none)))
  else (
    some 1)
def fX9_hasPlaces (x0 : Nat) (x1 : Int) (x2 : Int) (σ : Sg) : Option (Int) :=
  if x1 < 0 then (
    some 0)
  else (
    if x2 < 0 then (
      some 0)
    else (
      if (σ x0 1) ≤ 100 then (
        if x2 ≤ (σ x0 1) then (
          ck ((σ x0 1) - x2) fun v1 =>
          if x1 ≤ v1 then (
            some 1)
          else (
            some 0))
        else (
          some 0))
      else (
        some 0)))
def fX11_copy_P42  (σ : Sg) : Option (Int × Sg) :=
  (fX11_refuse (-11) σ).bind fun q6 =>
  some (q6.1, q6.2)
def fX11_copy_P70  (σ : Sg) : Option (Int × Sg) :=
  (fX11_refuse (-12) σ).bind fun q13 =>
  some (q13.1, q13.2)
def fX11_copy_P100  (σ : Sg) : Option (Int × Sg) :=
  (fX11_refuse (-13) σ).bind fun q20 =>
  some (q20.1, q20.2)
def fX11_copy (x1 : Int) (x2 : Int) (x3 : Int) (x4 : Int) (x5 : Int) (σ : Sg) : Option (Int × Sg) :=
  if 0 ≤ x1 ∧ x1 < 6 then (
    if 0 ≤ x3 ∧ x3 < 6 then (
      if (σ (tpO x1) 0) = 0 then (
        fX11_copy_P42  σ)
      else (
        if (σ (tpO x3) 0) = 0 then (
          fX11_copy_P42  σ)
        else (
          (fX9_isRow (tpO x1) σ).bind fun q8 =>
          if q8 = 0 then (
            fX11_copy_P70  σ)
          else (
            if (σ (tpO x1) 0) = (σ (tpO x3) 0) then (
              (fX9_hasPlaces (tpO x1) x2 x5 σ).bind fun q15 =>
              if q15 = 0 then (
                fX11_copy_P100  σ)
              else (
                (fX9_hasPlaces (tpO x3) x4 x5 σ).bind fun q22 =>
                if q22 = 0 then (
                  fX11_copy_P100  σ)
                else (
                  cpy σ ((tpO x1) + 1) ((tpO x3) + 1) 100 100 x2 x4 x5 fun σ24 =>
                  some (x5, σ24))))
            else (
              fX11_copy_P70  σ)))))
    else (
      some ((-1), σ)))
  else (
    if 0 ≤ x3 ∧ x3 < 6 then (
      some ((-1), σ))
    else (
      some ((-1), σ)))
def fX2_number_L4P22 (rec : Int → Int → Sg → Option (Int)) (x1 : Int) (x2 : Int) (σ : Sg) : Option (Int) :=
  ck (x2 + 1) fun v6 =>
  rec x1 v6 σ
def fX2_number_L4 : Nat → Int → Int → Sg → Option (Int)
  | 0, _, _, _ => none
  | n + 1, x1, x2, σ =>
    if x2 < 12 then (
      rd σ 7 12 x2 fun v1 =>
      if v1 ≤ 0 then (
        fX2_number_L4P22 (fX2_number_L4 n) x1 x2 σ)
      else (
        ck (x1 + 1) fun v8 =>
        fX2_number_L4P22 (fX2_number_L4 n) v8 x2 σ))
    else (
      some x1)
def fX2_number  (σ : Sg) : Option (Int) :=
  (fX2_number_L4 fu 0 0 σ).bind fun q12 =>
  some q12
def fX8_bargesTold_L4P22 (rec : Int → Int → Sg → Option (Int)) (x1 : Int) (x2 : Int) (σ : Sg) : Option (Int) :=
  ck (x2 + 1) fun v6 =>
  rec x1 v6 σ
def fX8_bargesTold_L4 : Nat → Int → Int → Sg → Option (Int)
  | 0, _, _, _ => none
  | n + 1, x1, x2, σ =>
    if x2 < 6 then (
      rd σ 5 6 x2 fun v1 =>
      if v1 ≤ 0 then (
        fX8_bargesTold_L4P22 (fX8_bargesTold_L4 n) x1 x2 σ)
      else (
        ck (x1 + 1) fun v8 =>
        fX8_bargesTold_L4P22 (fX8_bargesTold_L4 n) v8 x2 σ))
    else (
      some x1)
def fX8_bargesTold  (σ : Sg) : Option (Int) :=
  (fX8_bargesTold_L4 fu 0 0 σ).bind fun q12 =>
  some q12
def fX11_count (x1 : Int) (σ : Sg) : Option (Int) :=
  if x1 = 0 then (
    (fX2_number σ).bind fun q13 =>
    some q13)
  else (
    if x1 = 1 then (
      (fX8_bargesTold σ).bind fun q11 =>
      some q11)
    else (
      if x1 = 2 then (
        some (σ 19 4))
      else (
        if x1 = 3 then (
          (fX1_openOnes 19 σ).bind fun q9 =>
          some q9)
        else (
          if x1 = 4 then (
            some (σ 40 3))
          else (
            if x1 = 5 then (
              some (σ 44 3))
            else (
              if x1 = 6 then (
                some (σ 54 6))
              else (
                if x1 = 7 then (
                  some (σ 0 10))
                else (
                  some (-1)))))))))
def fX12_thrown  (σ : Sg) : Option (Int) :=
  some (σ 0 38)
def fX12_host (x1 : Int) (σ : Sg) : Option (Int × Sg) :=
  ck ((σ 0 37) + 1) fun v1 =>
  st1 (put σ 0 37 v1) fun σ3 =>
  some (x1, σ3)
def fX12_isIn (x0 : Int) (x1 : Int) (x2 : Int) (σ : Sg) : Option (Int) :=
  if x0 < x1 then (
    some 0)
  else (
    if x0 ≤ x2 then (
      some 1)
    else (
      some 0))
def fX12_begin_L7 : Nat → Int → Sg → Option (Sg)
  | 0, _, _ => none
  | n + 1, x1, σ =>
    if x1 < 1024 then (
      wr σ 1 1024 x1 0 fun σ3 =>
      ck (x1 + 1) fun v5 =>
      fX12_begin_L7 n v5 σ3)
    else (
      some σ)
def fX12_begin_L29 : Nat → Int → Sg → Option (Sg)
  | 0, _, _ => none
  | n + 1, x1, σ =>
    if x1 < 12 then (
      wr σ 2 12 x1 0 fun σ10 =>
      ck (x1 + 1) fun v12 =>
      fX12_begin_L29 n v12 σ10)
    else (
      some σ)
def fX12_begin_L50 : Nat → Int → Sg → Option (Sg)
  | 0, _, _ => none
  | n + 1, x1, σ =>
    if x1 < 6 then (
      wr σ 10 6 x1 0 fun σ17 =>
      ck (x1 + 1) fun v19 =>
      fX12_begin_L50 n v19 σ17)
    else (
      some σ)
def fX12_begin_L71 : Nat → Int → Sg → Option (Sg)
  | 0, _, _ => none
  | n + 1, x1, σ =>
    if x1 < 20 then (
      wr σ 11 20 x1 0 fun σ24 =>
      wr σ24 12 20 x1 0 fun σ26 =>
      ck (x1 + 1) fun v28 =>
      fX12_begin_L71 n v28 σ26)
    else (
      some σ)
def fX12_begin  (σ : Sg) : Option (Int × Sg) :=
  st1 (put σ 0 54 0) fun σ1 =>
  (fX12_begin_L7 fu 0 σ1).bind fun q8 =>
  (fX12_begin_L29 fu 0 q8).bind fun q15 =>
  (fX12_begin_L50 fu 0 q15).bind fun q22 =>
  (fX12_begin_L71 fu 0 q22).bind fun q31 =>
  st1 (put q31 0 32 0) fun σ33 =>
  st1 (put σ33 0 33 0) fun σ35 =>
  st1 (put σ35 0 34 0) fun σ37 =>
  st1 (put σ37 0 35 (-1)) fun σ39 =>
  st1 (put σ39 0 36 0) fun σ41 =>
  st1 (put σ41 0 37 0) fun σ43 =>
  st1 (put σ43 0 31 2) fun σ45 =>
  some (0, σ45)
def fX12_cell (x1 : Int) (x2 : Int) (x3 : Int) (σ : Sg) : Option (Int × Sg) :=
  st1 (put σ 0 54 0) fun σ1 =>
  (fX12_isIn x1 0 31 σ1).bind fun q3 =>
  if q3 = 0 then (
    some ((-1), σ1))
  else (
    (fX12_isIn x2 0 31 σ1).bind fun q5 =>
    if q5 = 0 then (
      some ((-1), σ1))
    else (
      (fX12_isIn x3 0 2 σ1).bind fun q7 =>
      if q7 = 0 then (
        some ((-1), σ1))
      else (
        ck (32 * x2) fun v9 =>
        ck (v9 + x1) fun v11 =>
        rd σ1 1 1024 v11 fun v13 =>
        ck (32 * x2) fun v15 =>
        ck (v15 + x1) fun v17 =>
        wr σ1 1 1024 v17 x3 fun σ19 =>
        some (v13, σ19))))
def fX12_isKind (x1 : Int) (σ : Sg) : Option (Int) :=
  (fX12_isIn x1 0 11 σ).bind fun q1 =>
  if q1 = 0 then (
    some 0)
  else (
    rd σ 2 12 x1 fun v3 =>
    if v3 ≤ 0 then (
      some 0)
    else (
      some 1))
def fX12_isBarge (x1 : Int) (σ : Sg) : Option (Int) :=
  (fX12_isIn x1 0 5 σ).bind fun q1 =>
  if q1 = 0 then (
    some 0)
  else (
    rd σ 10 6 x1 fun v3 =>
    if v3 ≤ 0 then (
      some 0)
    else (
      some 1))
def fX12_isCue (x1 : Int) (σ : Sg) : Option (Int) :=
  ck ((σ 0 32) - 1) fun v1 =>
  (fX12_isIn x1 0 v1 σ).bind fun q3 =>
  some q3
def fX12_kind_L108P142 (rec : Int → Int → Int → Int → Int → Int → Sg → Option ((Unit) ⊕ (Unit))) (x1 : Int) (x2 : Int) (x3 : Int) (x4 : Int) (x5 : Int) (x6 : Int) (σ : Sg) : Option ((Unit) ⊕ (Unit)) :=
  ck (x6 + 1) fun v30 =>
  rec x1 x2 x3 x4 x5 v30 σ
def fX12_kind_L108 : Nat → Int → Int → Int → Int → Int → Int → Sg → Option ((Unit) ⊕ (Unit))
  | 0, _, _, _, _, _, _, _ => none
  | n + 1, x1, x2, x3, x4, x5, x6, σ =>
    if x6 < (σ 0 32) then (
      rd σ 14 120 x6 fun v25 =>
      if v25 = x1 then (
        rd σ 13 120 x6 fun v32 =>
        if v32 < x2 then (
          some (.inl ()))
        else (
          fX12_kind_L108P142 (fX12_kind_L108 n) x1 x2 x3 x4 x5 x6 σ))
      else (
        fX12_kind_L108P142 (fX12_kind_L108 n) x1 x2 x3 x4 x5 x6 σ))
    else (
      some (.inr ()))
def fX12_kind (x1 : Int) (x2 : Int) (x3 : Int) (x4 : Int) (x5 : Int) (σ : Sg) : Option (Int × Sg) :=
  st1 (put σ 0 54 0) fun σ1 =>
  (fX12_isIn x1 0 11 σ1).bind fun q3 =>
  if q3 = 0 then (
    some ((-1), σ1))
  else (
    (fX12_isIn x2 1 60 σ1).bind fun q5 =>
    if q5 = 0 then (
      some ((-1), σ1))
    else (
      (fX12_isIn x3 10 300 σ1).bind fun q7 =>
      if q7 = 0 then (
        some ((-1), σ1))
      else (
        (fX12_isIn x4 0 60 σ1).bind fun q9 =>
        if q9 = 0 then (
          some ((-1), σ1))
        else (
          (fX12_isIn x5 0 99999 σ1).bind fun q11 =>
          if q11 = 0 then (
            some ((-1), σ1))
          else (
            dv x5 1000 fun v13 =>
            (fX12_isIn v13 1 99 σ1).bind fun q15 =>
            if q15 = 0 then (
              some ((-1), σ1))
            else (
              md x5 1000 fun v17 =>
              dv v17 10 fun v19 =>
              (fX12_isIn v19 1 9 σ1).bind fun q21 =>
              if q21 = 0 then (
                some ((-1), σ1))
              else (
                md x5 10 fun v23 =>
                if v23 ≤ 5 then (
                  (fX12_kind_L108 fu x1 x2 x3 x4 x5 0 σ1).bind (Sum.elim (fun a38 =>
                    some ((-5), σ1)) (fun a39 =>
                    wr σ1 2 12 x1 x2 fun σ40 =>
                    wr σ40 3 12 x1 x3 fun σ42 =>
                    wr σ42 4 12 x1 x4 fun σ44 =>
                    dv x5 1000 fun v46 =>
                    wr σ44 5 12 x1 v46 fun σ48 =>
                    md x5 1000 fun v50 =>
                    dv v50 10 fun v52 =>
                    wr σ48 6 12 x1 v52 fun σ54 =>
                    md x5 10 fun v56 =>
                    wr σ54 7 12 x1 v56 fun σ58 =>
                    some (x1, σ58))))
                else (
                  some ((-1), σ1)))))))))
def fX12_barge (x1 : Int) (x2 : Int) (x3 : Int) (x4 : Int) (σ : Sg) : Option (Int × Sg) :=
  st1 (put σ 0 54 0) fun σ1 =>
  (fX12_isIn x1 0 5 σ1).bind fun q3 =>
  if q3 = 0 then (
    some ((-1), σ1))
  else (
    (fX12_isIn x2 0 31 σ1).bind fun q5 =>
    if q5 = 0 then (
      some ((-1), σ1))
    else (
      (fX12_isIn x3 0 31 σ1).bind fun q7 =>
      if q7 = 0 then (
        some ((-1), σ1))
      else (
        (fX12_isIn x4 1 40 σ1).bind fun q9 =>
        if q9 = 0 then (
          some ((-1), σ1))
        else (
          ck (200 * x2) fun v11 =>
          ck (v11 + 100) fun v13 =>
          wr σ1 8 6 x1 v13 fun σ15 =>
          ck (200 * x3) fun v17 =>
          ck (v17 + 100) fun v19 =>
          wr σ15 9 6 x1 v19 fun σ21 =>
          wr σ21 10 6 x1 x4 fun σ23 =>
          some (x1, σ23)))))
def fX12_wind (x1 : Int) (x2 : Int) (x3 : Int) (x4 : Int) (σ : Sg) : Option (Int × Sg) :=
  st1 (put σ 0 54 0) fun σ1 =>
  (fX12_isIn x1 0 3 σ1).bind fun q3 =>
  if q3 = 0 then (
    some ((-1), σ1))
  else (
    (fX12_isIn x2 0 4 σ1).bind fun q5 =>
    if q5 = 0 then (
      some ((-1), σ1))
    else (
      (fX12_isIn x3 (-50) 50 σ1).bind fun q7 =>
      if q7 = 0 then (
        some ((-1), σ1))
      else (
        (fX12_isIn x4 (-50) 50 σ1).bind fun q9 =>
        if q9 = 0 then (
          some ((-1), σ1))
        else (
          ck (5 * x1) fun v11 =>
          ck (v11 + x2) fun v13 =>
          wr σ1 11 20 v13 x3 fun σ15 =>
          ck (5 * x1) fun v17 =>
          ck (v17 + x2) fun v19 =>
          wr σ15 12 20 v19 x4 fun σ21 =>
          some (0, σ21)))))
def fX12_apart (x1 : Int) (σ : Sg) : Option (Int × Sg) :=
  (fX12_isIn x1 0 20 σ).bind fun q1 =>
  if q1 = 0 then (
    some ((-1), σ))
  else (
    st1 (put σ 0 31 x1) fun σ3 =>
    some ((σ 0 31), σ3))
def fX12_amount (x0 : Int) (σ : Sg) : Option (Int) :=
  if x0 < 0 then (
    ck (-x0) fun v1 =>
    some v1)
  else (
    some x0)
def fX12_mayHold_L2P97 (rec : Int → Int → Int → Sg → Option ((Unit) ⊕ (Unit))) (x1 : Int) (x2 : Int) (x3 : Int) (σ : Sg) : Option ((Unit) ⊕ (Unit)) :=
  ck (x3 + 1) fun v24 =>
  rec x1 x2 v24 σ
def fX12_mayHold_L2P78 (rec : Int → Int → Int → Sg → Option ((Unit) ⊕ (Unit))) (x1 : Int) (x2 : Int) (x3 : Int) (y0 : Int) (σ : Sg) : Option ((Unit) ⊕ (Unit)) :=
  rd σ 1 1024 x3 fun v28 =>
  if v28 = 2 then (
    if y0 = 0 then (
      fX12_mayHold_L2P97 rec x1 x2 x3 σ)
    else (
      some (.inl ())))
  else (
    fX12_mayHold_L2P97 rec x1 x2 x3 σ)
def fX12_mayHold_L2P77 (rec : Int → Int → Int → Sg → Option ((Unit) ⊕ (Unit))) (x1 : Int) (x2 : Int) (x3 : Int) (σ : Sg) : Option ((Unit) ⊕ (Unit)) :=
  fX12_mayHold_L2P78 rec x1 x2 x3 0 σ
def fX12_mayHold_L2 : Nat → Int → Int → Int → Sg → Option ((Unit) ⊕ (Unit))
  | 0, _, _, _, _ => none
  | n + 1, x1, x2, x3, σ =>
    if x3 < 1024 then (
      md x3 32 fun v1 =>
      ck (200 * v1) fun v3 =>
      ck (v3 + 100) fun v5 =>
      rd σ 8 6 x1 fun v7 =>
      ck (v5 - v7) fun v9 =>
      (fX12_amount v9 σ).bind fun q11 =>
      rd σ 3 12 x2 fun v13 =>
      ck (5 * v13) fun v15 =>
      if q11 ≤ v15 then (
        dv x3 32 fun v32 =>
        ck (200 * v32) fun v34 =>
        ck (v34 + 100) fun v36 =>
        rd σ 9 6 x1 fun v38 =>
        ck (v36 - v38) fun v40 =>
        (fX12_amount v40 σ).bind fun q42 =>
        rd σ 3 12 x2 fun v44 =>
        ck (5 * v44) fun v46 =>
        if q42 ≤ v46 then (
          fX12_mayHold_L2P78 (fX12_mayHold_L2 n) x1 x2 x3 1 σ)
        else (
          fX12_mayHold_L2P77 (fX12_mayHold_L2 n) x1 x2 x3 σ))
      else (
        fX12_mayHold_L2P77 (fX12_mayHold_L2 n) x1 x2 x3 σ))
    else (
      some (.inr ()))
def fX12_mayHold (x1 : Int) (x2 : Int) (σ : Sg) : Option (Int) :=
  (fX12_mayHold_L2 fu x1 x2 0 σ).bind (Sum.elim (fun a52 =>
    some 0) (fun a53 =>
    some 1))
def fX12_may (x1 : Int) (x2 : Int) (σ : Sg) : Option (Int) :=
  (fX12_isBarge x1 σ).bind fun q1 =>
  if q1 = 0 then (
    some (-1))
  else (
    (fX12_isKind x2 σ).bind fun q3 =>
    if q3 = 0 then (
      some (-1))
    else (
      (fX12_mayHold x1 x2 σ).bind fun q5 =>
      if q5 = 0 then (
        some 0)
      else (
        some 1)))
def fX12_lands_L115P150 (rec : Int → Int → Int → Int → Int → Int → Sg → Option ((Int × Int) ⊕ (Unit))) (x1 : Int) (x4 : Int) (x7 : Int) (x8 : Int) (x9 : Int) (x10 : Int) (y0 : Int) (y1 : Int) (σ : Sg) : Option ((Int × Int) ⊕ (Unit)) :=
  ck (y1 + y0) fun v43 =>
  rd σ 11 20 v43 fun v45 =>
  ck (x7 + v45) fun v47 =>
  rd σ 12 20 v43 fun v49 =>
  ck (x8 + v49) fun v51 =>
  ck (x9 + (-25)) fun v53 =>
  if v53 ≤ 0 then (
    some (.inl (v47, v51)))
  else (
    ck (x10 + 1) fun v55 =>
    rec x1 x4 v47 v51 v53 v55 σ)
def fX12_lands_L115 : Nat → Int → Int → Int → Int → Int → Int → Sg → Option ((Int × Int) ⊕ (Unit))
  | 0, _, _, _, _, _, _, _ => none
  | n + 1, x1, x4, x7, x8, x9, x10, σ =>
    rd σ 5 12 x1 fun v21 =>
    if x10 < v21 then (
      ck (5 * x4) fun v23 =>
      dv x9 500 fun v25 =>
      if v25 < 4 then (
        dv x9 500 fun v58 =>
        fX12_lands_L115P150 (fX12_lands_L115 n) x1 x4 x7 x8 x9 x10 v58 v23 σ)
      else (
        fX12_lands_L115P150 (fX12_lands_L115 n) x1 x4 x7 x8 x9 x10 4 v23 σ))
    else (
      some (.inr ()))
def fX12_lands_P211  (σ : Sg) : Option (Int) :=
  some (-3)
def fX12_lands_P98 (x1 : Int) (x4 : Int) (x6 : Int) (x7 : Int) (y0 : Int) (y1 : Int) (σ : Sg) : Option (Int) :=
  ck (y1 + y0) fun v80 =>
  rd σ 3 12 x1 fun v82 =>
  ck (x6 * v82) fun v84 =>
  (fX12_lands_L115 fu x1 x4 x7 v80 v84 0 σ).bind (Sum.elim (fun a87 =>
    if a87.1 < 0 then (
      fX12_lands_P211  σ)
    else (
      if a87.2 < 0 then (
        fX12_lands_P211  σ)
      else (
        if a87.1 < 6400 then (
          if a87.2 < 6400 then (
            dv a87.2 200 fun v90 =>
            ck (v90 * 32) fun v92 =>
            dv a87.1 200 fun v94 =>
            ck (v92 + v94) fun v96 =>
            some v96)
          else (
            fX12_lands_P211  σ))
        else (
          fX12_lands_P211  σ)))) (fun a102 =>
    some (-2)))
def fX12_lands_P52 (x1 : Int) (x2 : Int) (x4 : Int) (x5 : Int) (x6 : Int) (y0 : Int) (y1 : Int) (σ : Sg) : Option (Int) :=
  ck (y1 + y0) fun v113 =>
  rd σ 9 6 x2 fun v115 =>
  if x5 = 3 then (
    rd σ 4 12 x1 fun v122 =>
    ck (10 * v122) fun v124 =>
    fX12_lands_P98 x1 x4 x6 v113 v124 v115 σ)
  else (
    if x5 = 4 then (
      rd σ 4 12 x1 fun v117 =>
      ck ((-10) * v117) fun v119 =>
      fX12_lands_P98 x1 x4 x6 v113 v119 v115 σ)
    else (
      fX12_lands_P98 x1 x4 x6 v113 0 v115 σ))
def fX12_lands (x1 : Int) (x2 : Int) (x3 : Int) (x4 : Int) (x5 : Int) (x6 : Int) (σ : Sg) : Option (Int) :=
  rd σ 8 6 x2 fun v1 =>
  rd σ 3 12 x1 fun v3 =>
  ck (x3 * v3) fun v5 =>
  ck (v1 + v5) fun v7 =>
  if x5 = 1 then (
    rd σ 4 12 x1 fun v132 =>
    ck (10 * v132) fun v134 =>
    fX12_lands_P52 x1 x2 x4 x5 x6 v134 v7 σ)
  else (
    if x5 = 2 then (
      rd σ 4 12 x1 fun v127 =>
      ck ((-10) * v127) fun v129 =>
      fX12_lands_P52 x1 x2 x4 x5 x6 v129 v7 σ)
    else (
      fX12_lands_P52 x1 x2 x4 x5 x6 0 v7 σ))
def fX12_isSafe_L3P78 (rec : Int → Int → Int → Int → Int → Sg → Option ((Unit) ⊕ (Unit))) (x1 : Int) (x2 : Int) (x3 : Int) (x4 : Int) (x5 : Int) (σ : Sg) : Option ((Unit) ⊕ (Unit)) :=
  ck (x5 + 1) fun v9 =>
  rec x1 x2 x3 x4 v9 σ
def fX12_isSafe_L3P60 (rec : Int → Int → Int → Int → Int → Sg → Option ((Unit) ⊕ (Unit))) (x1 : Int) (x2 : Int) (x3 : Int) (x4 : Int) (x5 : Int) (x7 : Int) (σ : Sg) : Option ((Unit) ⊕ (Unit)) :=
  if x7 < 0 then (
    fX12_isSafe_L3P78 rec x1 x2 x3 x4 x5 σ)
  else (
    rd σ 1 1024 x7 fun v15 =>
    if v15 = 2 then (
      some (.inl ()))
    else (
      fX12_isSafe_L3P78 rec x1 x2 x3 x4 x5 σ))
def fX12_isSafe_L3 : Nat → Int → Int → Int → Int → Int → Sg → Option ((Unit) ⊕ (Unit))
  | 0, _, _, _, _, _, _ => none
  | n + 1, x1, x2, x3, x4, x5, σ =>
    if x5 < 5 then (
      (fX12_lands x1 x2 x3 x4 x5 10 σ).bind fun q1 =>
      (fX12_lands x1 x2 x3 x4 x5 5 σ).bind fun q3 =>
      if q1 = (-3) then (
        some (.inl ()))
      else (
        if q1 < 0 then (
          fX12_isSafe_L3P60 (fX12_isSafe_L3 n) x1 x2 x3 x4 x5 q3 σ)
        else (
          rd σ 1 1024 q1 fun v19 =>
          if v19 = 0 then (
            fX12_isSafe_L3P60 (fX12_isSafe_L3 n) x1 x2 x3 x4 x5 q3 σ)
          else (
            some (.inl ())))))
    else (
      some (.inr ()))
def fX12_isSafe (x1 : Int) (x2 : Int) (x3 : Int) (x4 : Int) (σ : Sg) : Option (Int) :=
  (fX12_isSafe_L3 fu x1 x2 x3 x4 0 σ).bind (Sum.elim (fun a26 =>
    some 0) (fun a27 =>
    some 1))
def fX12_isLight (x1 : Int) (x2 : Int) (x3 : Int) (x4 : Int) (σ : Sg) : Option (Int) :=
  (fX12_isKind x1 σ).bind fun q1 =>
  if q1 = 0 then (
    some 0)
  else (
    (fX12_isBarge x2 σ).bind fun q3 =>
    if q3 = 0 then (
      some 0)
    else (
      (fX12_isIn x3 (-4) 4 σ).bind fun q5 =>
      if q5 = 0 then (
        some 0)
      else (
        (fX12_isIn x4 0 3 σ).bind fun q7 =>
        if q7 = 0 then (
          some 0)
        else (
          some 1))))
def fX12_safe (x1 : Int) (x2 : Int) (x3 : Int) (x4 : Int) (σ : Sg) : Option (Int) :=
  (fX12_isLight x1 x2 x3 x4 σ).bind fun q1 =>
  if q1 = 0 then (
    some (-1))
  else (
    (fX12_isSafe x1 x2 x3 x4 σ).bind fun q3 =>
    if q3 = 0 then (
      some 0)
    else (
      some 1))
def fX12_hot (x1 : Int) (x2 : Int) (x3 : Int) (x4 : Int) (x5 : Int) (σ : Sg) : Option (Int) :=
  (fX12_isLight x1 x2 x3 x4 σ).bind fun q1 =>
  if q1 = 0 then (
    some (-1))
  else (
    (fX12_isIn x5 0 4 σ).bind fun q3 =>
    if q3 = 0 then (
      some (-1))
    else (
      (fX12_lands x1 x2 x3 x4 x5 10 σ).bind fun q5 =>
      some q5))
def fX12_word (x1 : Int) (x2 : Int) (σ : Sg) : Option (Int) :=
  ck (100 * x1) fun v1 =>
  ck (v1 + x2) fun v3 =>
  rd σ 31 600 v3 fun v5 =>
  some (toI v5)
def fX12_makes (x1 : Int) (x2 : Int) (x3 : Int) (x4 : Int) (σ : Sg) : Option (Int × Sg) :=
  rd σ 2 12 x2 fun v1 =>
  if x1 < v1 then (
    some (0, σ))
  else (
    if x1 ≤ 20000 then (
      if (σ 0 39) = 120 then (
        some (0, σ))
      else (
        wr σ 18 120 (σ 0 39) x1 fun σ3 =>
        wr σ3 19 120 (σ3 0 39) x2 fun σ5 =>
        wr σ5 20 120 (σ5 0 39) x3 fun σ7 =>
        wr σ7 21 120 (σ7 0 39) x4 fun σ9 =>
        ck ((σ9 0 39) + 1) fun v11 =>
        st1 (put σ9 0 39 v11) fun σ13 =>
        some (1, σ13)))
    else (
      some (0, σ)))
def fX12_numbers_P10  (σ : Sg) : Option (Int) :=
  some 3
def fX12_numbers_P24  (σ : Sg) : Option (Int) :=
  some 4
def fX12_numbers_P45  (σ : Sg) : Option (Int) :=
  some 1
def fX12_numbers (x0 : Int) (σ : Sg) : Option (Int) :=
  if x0 = 1 then (
    fX12_numbers_P10  σ)
  else (
    if x0 = 3 then (
      fX12_numbers_P10  σ)
    else (
      if x0 = 4 then (
        fX12_numbers_P24  σ)
      else (
        if x0 = 5 then (
          fX12_numbers_P24  σ)
        else (
          if x0 = 2 then (
            fX12_numbers_P45  σ)
          else (
            if x0 = 6 then (
              fX12_numbers_P45  σ)
            else (
              if x0 = 8 then (
                fX12_numbers_P45  σ)
              else (
                some 0)))))))
def fX12_cuesBy_L280 : Nat → Int → Int → Int → Int → Int → Int → Sg → Option ((Sg) ⊕ (Sg))
  | 0, _, _, _, _, _, _, _ => none
  | n + 1, x4, x6, x7, x8, x9, x10, σ =>
    ck (x6 + x8) fun v36 =>
    if x10 = v36 then (
      some (.inr σ))
    else (
      (fX12_isBarge x10 σ).bind fun q38 =>
      if q38 = 0 then (
        some (.inl σ))
      else (
        (fX12_makes x9 x4 x10 0 σ).bind fun q40 =>
        if q40.1 = 0 then (
          some (.inl q40.2))
        else (
          ck (x9 + x7) fun v42 =>
          ck (x10 + x8) fun v44 =>
          fX12_cuesBy_L280 n x4 x6 x7 x8 v42 v44 q40.2)))
def fX12_cuesBy_P271 (x3 : Int) (x4 : Int) (x5 : Int) (x6 : Int) (x7 : Int) (y0 : Int) (σ : Sg) : Option (Int × Sg) :=
  (fX12_cuesBy_L280 fu x4 x6 x7 y0 x3 x5 σ).bind (Sum.elim (fun a55 =>
    some (0, a55)) (fun a57 =>
    some (1, a57)))
def fX12_cuesBy_L124 : Nat → Int → Int → Int → Int → Int → Sg → Option ((Sg) ⊕ (Sg))
  | 0, _, _, _, _, _, _ => none
  | n + 1, x3, x4, x5, x6, x7, σ =>
    if x7 < x6 then (
      ck (2 * x7) fun v77 =>
      ck (x6 - 1) fun v79 =>
      ck (v77 - v79) fun v81 =>
      (fX12_makes x3 x4 x5 v81 σ).bind fun q83 =>
      if q83.1 = 0 then (
        some (.inl q83.2))
      else (
        ck (x7 + 1) fun v85 =>
        fX12_cuesBy_L124 n x3 x4 x5 x6 v85 q83.2))
    else (
      some (.inr σ))
def fX12_cuesBy_P68 (x1 : Int) (x2 : Int) (x3 : Int) (x4 : Int) (x5 : Int) (x6 : Int) (σ : Sg) : Option (Int × Sg) :=
  (fX12_word x1 x2 σ).bind fun q102 =>
  if q102 = 1 then (
    (fX12_isIn x6 (-4) 4 σ).bind fun q112 =>
    if q112 = 0 then (
      some (0, σ))
    else (
      (fX12_makes x3 x4 x5 x6 σ).bind fun q114 =>
      if q114.1 = 0 then (
        some (0, q114.2))
      else (
        some (1, q114.2))))
  else (
    (fX12_isIn x6 1 5 σ).bind fun q104 =>
    if q104 = 0 then (
      some (0, σ))
    else (
      (fX12_cuesBy_L124 fu x3 x4 x5 x6 0 σ).bind (Sum.elim (fun a107 =>
        some (0, a107)) (fun a109 =>
        some (1, a109)))))
def fX12_cuesBy (x1 : Int) (x2 : Int) (x3 : Int) (σ : Sg) : Option (Int × Sg) :=
  ck (x2 + 1) fun v1 =>
  (fX12_word x1 v1 σ).bind fun q3 =>
  ck (x2 + 2) fun v5 =>
  (fX12_word x1 v5 σ).bind fun q7 =>
  ck (x2 + 3) fun v9 =>
  (fX12_word x1 v9 σ).bind fun q11 =>
  (fX12_isKind q3 σ).bind fun q13 =>
  if q13 = 0 then (
    some (0, σ))
  else (
    (fX12_word x1 x2 σ).bind fun q15 =>
    if q15 < 4 then (
      if q7 = (-1) then (
        fX12_cuesBy_P68 x1 x2 x3 q3 q7 q11 σ)
      else (
        (fX12_isBarge q7 σ).bind fun q119 =>
        if q119 = 0 then (
          some (0, σ))
        else (
          fX12_cuesBy_P68 x1 x2 x3 q3 q7 q11 σ)))
    else (
      ck (x2 + 4) fun v17 =>
      (fX12_word x1 v17 σ).bind fun q19 =>
      ck (q19 * (σ 0 40)) fun v21 =>
      (fX12_isBarge q7 σ).bind fun q23 =>
      if q23 = 0 then (
        some (0, σ))
      else (
        (fX12_isBarge q11 σ).bind fun q25 =>
        if q25 = 0 then (
          some (0, σ))
        else (
          ck (x2 + 4) fun v27 =>
          (fX12_word x1 v27 σ).bind fun q29 =>
          (fX12_isIn q29 0 50 σ).bind fun q31 =>
          if q31 = 0 then (
            some (0, σ))
          else (
            (fX12_word x1 x2 σ).bind fun q33 =>
            if q33 = 5 then (
              (fX12_makes x3 q3 q7 0 σ).bind fun q60 =>
              if q60.1 = 0 then (
                some (0, q60.2))
              else (
                ck (x3 + v21) fun v62 =>
                (fX12_makes v62 q3 q11 0 q60.2).bind fun q64 =>
                if q64.1 = 0 then (
                  some (0, q64.2))
                else (
                  some (1, q64.2))))
            else (
              if q11 < q7 then (
                fX12_cuesBy_P271 x3 q3 q7 q11 v21 (-1) σ)
              else (
                fX12_cuesBy_P271 x3 q3 q7 q11 v21 1 σ)))))))
def fX12_writes_L18P326 (rec : Int → Int → Int → Int → Sg → Option ((Int × Sg) ⊕ ((Int × Int × Sg) ⊕ ((Int × Sg) ⊕ ((Int × Sg) ⊕ ((Int × Sg) ⊕ ((Int × Sg) ⊕ ((Int × Sg) ⊕ (Sg))))))))) (x1 : Int) (x2 : Int) (x3 : Int) (x4 : Int) (x6 : Int) (σ : Sg) : Option ((Int × Sg) ⊕ ((Int × Int × Sg) ⊕ ((Int × Sg) ⊕ ((Int × Sg) ⊕ ((Int × Sg) ⊕ ((Int × Sg) ⊕ ((Int × Sg) ⊕ (Sg)))))))) :=
  ck (x6 + 1) fun v25 =>
  ck (x4 + v25) fun v27 =>
  rec x1 x2 x3 v27 σ
def fX12_writes_L18P191 (rec : Int → Int → Int → Int → Sg → Option ((Int × Sg) ⊕ ((Int × Int × Sg) ⊕ ((Int × Sg) ⊕ ((Int × Sg) ⊕ ((Int × Sg) ⊕ ((Int × Sg) ⊕ ((Int × Sg) ⊕ (Sg))))))))) (x1 : Int) (x3 : Int) (x4 : Int) (x6 : Int) (y0 : Int) (σ : Sg) : Option ((Int × Sg) ⊕ ((Int × Int × Sg) ⊕ ((Int × Sg) ⊕ ((Int × Sg) ⊕ ((Int × Sg) ⊕ ((Int × Sg) ⊕ ((Int × Sg) ⊕ (Sg)))))))) :=
  fX12_writes_L18P326 rec x1 y0 x3 x4 x6 σ
def fX12_writes_L18P91 (rec : Int → Int → Int → Int → Sg → Option ((Int × Sg) ⊕ ((Int × Int × Sg) ⊕ ((Int × Sg) ⊕ ((Int × Sg) ⊕ ((Int × Sg) ⊕ ((Int × Sg) ⊕ ((Int × Sg) ⊕ (Sg))))))))) (x1 : Int) (x2 : Int) (x3 : Int) (x4 : Int) (x5 : Int) (x6 : Int) (y0 : Int) (σ : Sg) : Option ((Int × Sg) ⊕ ((Int × Int × Sg) ⊕ ((Int × Sg) ⊕ ((Int × Sg) ⊕ ((Int × Sg) ⊕ ((Int × Sg) ⊕ ((Int × Sg) ⊕ (Sg)))))))) :=
  if x5 = 0 then (
    some (.inr (.inl (x3, x4, σ))))
  else (
    if x5 = 1 then (
      (fX12_cuesBy x1 x4 x2 σ).bind fun q167 =>
      if q167.1 = 0 then (
        some (.inr (.inr (.inr (.inr (.inr (.inr (.inl (x4, q167.2)))))))))
      else (
        fX12_writes_L18P326 rec x1 x2 x3 x4 x6 q167.2))
    else (
      if x5 = 2 then (
        (fX12_isIn y0 1 50 σ).bind fun q159 =>
        if q159 = 0 then (
          some (.inr (.inr (.inl (x4, σ)))))
        else (
          ck (y0 * (σ 0 40)) fun v161 =>
          ck (x2 + v161) fun v163 =>
          if v163 ≤ 1000000 then (
            fX12_writes_L18P191 rec x1 x3 x4 x6 v163 σ)
          else (
            fX12_writes_L18P191 rec x1 x3 x4 x6 1000000 σ)))
      else (
        if x5 = 3 then (
          (fX12_cuesBy x1 x4 x2 σ).bind fun q156 =>
          if q156.1 = 0 then (
            some (.inr (.inr (.inr (.inr (.inr (.inr (.inl (x4, q156.2)))))))))
          else (
            fX12_writes_L18P326 rec x1 x2 x3 x4 x6 q156.2))
        else (
          if x5 = 4 then (
            (fX12_cuesBy x1 x4 x2 σ).bind fun q153 =>
            if q153.1 = 0 then (
              some (.inr (.inr (.inr (.inr (.inr (.inr (.inl (x4, q153.2)))))))))
            else (
              fX12_writes_L18P326 rec x1 x2 x3 x4 x6 q153.2))
          else (
            if x5 = 5 then (
              (fX12_cuesBy x1 x4 x2 σ).bind fun q150 =>
              if q150.1 = 0 then (
                some (.inr (.inr (.inr (.inr (.inr (.inr (.inl (x4, q150.2)))))))))
              else (
                fX12_writes_L18P326 rec x1 x2 x3 x4 x6 q150.2))
            else (
              if x5 = 6 then (
                (fX12_isIn y0 2 9 σ).bind fun q138 =>
                if q138 = 0 then (
                  some (.inr (.inr (.inr (.inl (x4, σ))))))
                else (
                  if x3 = 3 then (
                    some (.inr (.inr (.inr (.inl (x4, σ))))))
                  else (
                    ck (x4 + 2) fun v140 =>
                    wr σ 32 3 x3 v140 fun σ142 =>
                    wr σ142 33 3 x3 y0 fun σ144 =>
                    ck (x3 + 1) fun v146 =>
                    fX12_writes_L18P326 rec x1 x2 v146 x4 x6 σ144)))
              else (
                if x5 = 7 then (
                  if x3 = 0 then (
                    some (.inr (.inr (.inr (.inr (.inl (x4, σ)))))))
                  else (
                    ck (x3 - 1) fun v116 =>
                    rd σ 33 3 v116 fun v118 =>
                    ck (v118 - 1) fun v120 =>
                    wr σ 33 3 v116 v120 fun σ122 =>
                    ck (x3 - 1) fun v124 =>
                    rd σ122 33 3 v124 fun v126 =>
                    if v126 ≤ 0 then (
                      ck (x3 + (-1)) fun v128 =>
                      fX12_writes_L18P326 rec x1 x2 v128 x4 x6 σ122)
                    else (
                      ck (x3 - 1) fun v130 =>
                      rd σ122 32 3 v130 fun v132 =>
                      ck (v132 - 1) fun v134 =>
                      fX12_writes_L18P326 rec x1 x2 x3 v134 x6 σ122)))
                else (
                  if x5 = 8 then (
                    (fX12_isIn y0 1 50 σ).bind fun q111 =>
                    if q111 = 0 then (
                      some (.inr (.inr (.inr (.inr (.inr (.inl (x4, σ))))))))
                    else (
                      st1 (put σ 0 40 y0) fun σ113 =>
                      fX12_writes_L18P326 rec x1 x2 x3 x4 x6 σ113))
                  else (
                    (fX12_cuesBy x1 x4 x2 σ).bind fun q99 =>
                    if q99.1 = 0 then (
                      some (.inr (.inr (.inr (.inr (.inr (.inr (.inl (x4, q99.2)))))))))
                    else (
                      fX12_writes_L18P326 rec x1 x2 x3 x4 x6 q99.2))))))))))
def fX12_writes_L18 : Nat → Int → Int → Int → Int → Sg → Option ((Int × Sg) ⊕ ((Int × Int × Sg) ⊕ ((Int × Sg) ⊕ ((Int × Sg) ⊕ ((Int × Sg) ⊕ ((Int × Sg) ⊕ ((Int × Sg) ⊕ (Sg))))))))
  | 0, _, _, _, _, _ => none
  | n + 1, x1, x2, x3, x4, σ =>
    rd σ 29 6 x1 fun v5 =>
    if x4 < v5 then (
      (fX12_word x1 x4 σ).bind fun q7 =>
      (fX12_numbers q7 σ).bind fun q9 =>
      (fX12_isIn q7 0 8 σ).bind fun q11 =>
      if q11 = 0 then (
        some (.inl (x4, σ)))
      else (
        ck (x4 + q9) fun v13 =>
        rd σ 29 6 x1 fun v15 =>
        if v13 < v15 then (
          if q9 ≤ 0 then (
            fX12_writes_L18P91 (fX12_writes_L18 n) x1 x2 x3 x4 q7 q9 0 σ)
          else (
            ck (x4 + 1) fun v170 =>
            (fX12_word x1 v170 σ).bind fun q172 =>
            fX12_writes_L18P91 (fX12_writes_L18 n) x1 x2 x3 x4 q7 q9 q172 σ))
        else (
          some (.inl (x4, σ)))))
    else (
      some (.inr (.inr (.inr (.inr (.inr (.inr (.inr σ))))))))
def fX12_writes (x1 : Int) (σ : Sg) : Option (Int × Sg) :=
  st1 (put σ 0 39 0) fun σ1 =>
  st1 (put σ1 0 40 10) fun σ3 =>
  (fX12_writes_L18 fu x1 0 0 0 σ3).bind (Sum.elim (fun a179 =>
    some (a179.1, a179.2)) (Sum.elim (fun a182 =>
    if a182.1 = 0 then (
      some ((-1), a182.2.2))
    else (
      some (a182.2.1, a182.2.2))) (Sum.elim (fun a187 =>
    some (a187.1, a187.2)) (Sum.elim (fun a190 =>
    some (a190.1, a190.2)) (Sum.elim (fun a193 =>
    some (a193.1, a193.2)) (Sum.elim (fun a196 =>
    some (a196.1, a196.2)) (Sum.elim (fun a199 =>
    some (a199.1, a199.2)) (fun a202 =>
    rd a202 29 6 x1 fun v204 =>
    some (v204, a202)))))))))
def fX12_isTape (x0 : Int) (σ : Sg) : Option (Int) :=
  (fX12_isIn x0 0 5 σ).bind fun q1 =>
  some q1
def fX12_wrongBytes (x1 : Int) (σ : Sg) : Option (Int × Sg) :=
  rd σ 28 6 x1 fun v1 =>
  if v1 = 0 then (
    (fX12_host (-11) σ).bind fun q8 =>
    some (q8.1, q8.2))
  else (
    rd σ 28 6 x1 fun v3 =>
    if v3 = 1 then (
      some (0, σ))
    else (
      (fX12_host (-12) σ).bind fun q5 =>
      some (q5.1, q5.2)))
def fX12_comes_L12 : Nat → Int → Sg → Option (Sg)
  | 0, _, _ => none
  | n + 1, x2, σ =>
    if x2 < 120 then (
      wr σ 17 120 x2 0 fun σ5 =>
      ck (x2 + 1) fun v7 =>
      fX12_comes_L12 n v7 σ5)
    else (
      some σ)
def fX12_comes (x1 : Int) (σ : Sg) : Option (Sg) :=
  st1 (put σ 0 32 x1) fun σ1 =>
  st1 (put σ1 0 36 0) fun σ3 =>
  (fX12_comes_L12 fu 0 σ3).bind fun q10 =>
  some q10
def fX12_write_L52 : Nat → Int → Sg → Option (Sg)
  | 0, _, _ => none
  | n + 1, x4, σ =>
    if x4 < (σ 0 32) then (
      rd σ 18 120 x4 fun v11 =>
      wr σ 13 120 x4 v11 fun σ13 =>
      rd σ13 19 120 x4 fun v15 =>
      wr σ13 14 120 x4 v15 fun σ17 =>
      rd σ17 20 120 x4 fun v19 =>
      wr σ17 15 120 x4 v19 fun σ21 =>
      rd σ21 21 120 x4 fun v23 =>
      wr σ21 16 120 x4 v23 fun σ25 =>
      ck (x4 + 1) fun v27 =>
      fX12_write_L52 n v27 σ25)
    else (
      some σ)
def fX12_write (x1 : Int) (σ : Sg) : Option (Int × Sg) :=
  st1 (put σ 0 54 0) fun σ1 =>
  (fX12_isTape x1 σ1).bind fun q3 =>
  if q3 = 0 then (
    some ((-1), σ1))
  else (
    (fX12_wrongBytes x1 σ1).bind fun q5 =>
    if q5.1 = 0 then (
      (fX12_writes x1 q5.2).bind fun q7 =>
      if q7.1 < 0 then (
        (fX12_comes (q7.2 0 39) q7.2).bind fun q9 =>
        (fX12_write_L52 fu 0 q9).bind fun q30 =>
        some ((q30 0 32), q30))
      else (
        ck ((-100) - q7.1) fun v32 =>
        some (v32, q7.2)))
    else (
      some (q5.1, q5.2)))
def fX12_cue_P27 (x1 : Int) (x2 : Int) (y0 : Int) (σ : Sg) : Option (Int × Sg) :=
  st1 (put σ 0 38 y0) fun σ29 =>
  if (σ29 0 38) = 0 then (
    if x2 = 0 then (
      rd σ29 13 120 x1 fun v48 =>
      some (v48, σ29))
    else (
      if x2 = 1 then (
        rd σ29 14 120 x1 fun v45 =>
        some (v45, σ29))
      else (
        if x2 = 2 then (
          rd σ29 15 120 x1 fun v42 =>
          some (v42, σ29))
        else (
          if x2 = 3 then (
            rd σ29 16 120 x1 fun v39 =>
            some (v39, σ29))
          else (
            rd σ29 13 120 x1 fun v31 =>
            rd σ29 14 120 x1 fun v33 =>
            rd σ29 2 12 v33 fun v35 =>
            ck (v31 - v35) fun v37 =>
            some (v37, σ29))))))
  else (
    some (0, σ29))
def fX12_cue (x1 : Int) (x2 : Int) (σ : Sg) : Option (Int × Sg) :=
  (fX12_isIn x2 0 4 σ).bind fun q1 =>
  if q1 = 0 then (
    fX12_cue_P27 x1 x2 1 σ)
  else (
    (fX12_isCue x1 σ).bind fun q3 =>
    if q3 = 0 then (
      fX12_cue_P27 x1 x2 2 σ)
    else (
      fX12_cue_P27 x1 x2 0 σ))
def fX12_stretched (x0 : Int) (x1 : Int) (x2 : Int) (x3 : Int) (σ : Sg) : Option (Int) :=
  if x0 < x1 then (
    some x0)
  else (
    ck (x0 - x1) fun v1 =>
    ck (v1 * x2) fun v3 =>
    dv v3 x3 fun v5 =>
    ck (x1 + v5) fun v7 =>
    some v7)
def fX12_stretch_L41 : Nat → Int → Int → Int → Int → Sg → Option ((Unit) ⊕ (Unit))
  | 0, _, _, _, _, _ => none
  | n + 1, x1, x2, x3, x4, σ =>
    if x4 < (σ 0 32) then (
      rd σ 13 120 x4 fun v9 =>
      (fX12_stretched v9 x1 x2 x3 σ).bind fun q11 =>
      rd σ 14 120 x4 fun v13 =>
      rd σ 2 12 v13 fun v15 =>
      if q11 < v15 then (
        some (.inl ()))
      else (
        ck (x4 + 1) fun v17 =>
        fX12_stretch_L41 n x1 x2 x3 v17 σ))
    else (
      some (.inr ()))
def fX12_stretch_L90 : Nat → Int → Int → Int → Int → Sg → Option ((Unit) ⊕ (Unit))
  | 0, _, _, _, _, _ => none
  | n + 1, x1, x2, x3, x4, σ =>
    if x4 < (σ 0 32) then (
      rd σ 13 120 x4 fun v24 =>
      (fX12_stretched v24 x1 x2 x3 σ).bind fun q26 =>
      if q26 ≤ 20000 then (
        ck (x4 + 1) fun v28 =>
        fX12_stretch_L90 n x1 x2 x3 v28 σ)
      else (
        some (.inl ())))
    else (
      some (.inr ()))
def fX12_stretch_L133P176 (rec : Int → Int → Int → Int → Int → Sg → Option (Int × Sg)) (x1 : Int) (x2 : Int) (x3 : Int) (x5 : Int) (x6 : Int) (y0 : Int) (y1 : Int) (σ : Sg) : Option (Int × Sg) :=
  ck (y1 + y0) fun v48 =>
  wr σ 13 120 x5 x6 fun σ50 =>
  ck (x5 + 1) fun v52 =>
  rec x1 x2 x3 v48 v52 σ50
def fX12_stretch_L133 : Nat → Int → Int → Int → Int → Int → Sg → Option (Int × Sg)
  | 0, _, _, _, _, _, _ => none
  | n + 1, x1, x2, x3, x4, x5, σ =>
    if x5 < (σ 0 32) then (
      rd σ 13 120 x5 fun v35 =>
      (fX12_stretched v35 x1 x2 x3 σ).bind fun q37 =>
      rd σ 13 120 x5 fun v39 =>
      if q37 = v39 then (
        fX12_stretch_L133P176 (fX12_stretch_L133 n) x1 x2 x3 x5 q37 0 x4 σ)
      else (
        fX12_stretch_L133P176 (fX12_stretch_L133 n) x1 x2 x3 x5 q37 1 x4 σ))
    else (
      some (x4, σ))
def fX12_stretch (x1 : Int) (x2 : Int) (x3 : Int) (σ : Sg) : Option (Int × Sg) :=
  st1 (put σ 0 54 0) fun σ1 =>
  (fX12_isIn x1 0 20000 σ1).bind fun q3 =>
  if q3 = 0 then (
    some ((-1), σ1))
  else (
    (fX12_isIn x2 1 100 σ1).bind fun q5 =>
    if q5 = 0 then (
      some ((-1), σ1))
    else (
      (fX12_isIn x3 1 100 σ1).bind fun q7 =>
      if q7 = 0 then (
        some ((-1), σ1))
      else (
        (fX12_stretch_L41 fu x1 x2 x3 0 σ1).bind (Sum.elim (fun a22 =>
          some ((-5), σ1)) (fun a23 =>
          (fX12_stretch_L90 fu x1 x2 x3 0 σ1).bind (Sum.elim (fun a33 =>
            some ((-2), σ1)) (fun a34 =>
            (fX12_stretch_L133 fu x1 x2 x3 0 0 σ1).bind fun q56 =>
            some (q56.1, q56.2))))))))
def fX12_fire (x1 : Int) (σ : Sg) : Option (Int) :=
  rd σ 13 120 x1 fun v1 =>
  rd σ 14 120 x1 fun v3 =>
  rd σ 2 12 v3 fun v5 =>
  ck (v1 - v5) fun v7 =>
  some v7
def fX12_gathers_L7 : Nat → Int → Sg → Option (Sg)
  | 0, _, _ => none
  | n + 1, x1, σ =>
    if x1 < 6 then (
      wr σ 37 6 x1 0 fun σ3 =>
      ck (x1 + 1) fun v5 =>
      fX12_gathers_L7 n v5 σ3)
    else (
      some σ)
def fX12_gathers_L28P83 (rec : Int → Sg → Option (Sg)) (x1 : Int) (σ : Sg) : Option (Sg) :=
  ck (x1 + 1) fun v21 =>
  rec v21 σ
def fX12_gathers_L28 : Nat → Int → Sg → Option (Sg)
  | 0, _, _ => none
  | n + 1, x1, σ =>
    if x1 < (σ 0 32) then (
      rd σ 15 120 x1 fun v10 =>
      if v10 < 0 then (
        wr σ 34 120 (σ 0 47) x1 fun σ12 =>
        ck ((σ12 0 47) + 1) fun v14 =>
        st1 (put σ12 0 47 v14) fun σ16 =>
        fX12_gathers_L28P83 (fX12_gathers_L28 n) x1 σ16)
      else (
        rd σ 15 120 x1 fun v23 =>
        rd σ 37 6 v23 fun v25 =>
        ck (v25 + 1) fun v27 =>
        wr σ 37 6 v23 v27 fun σ29 =>
        fX12_gathers_L28P83 (fX12_gathers_L28 n) x1 σ29))
    else (
      some σ)
def fX12_gathers  (σ : Sg) : Option (Sg) :=
  st1 (put σ 0 47 0) fun σ1 =>
  (fX12_gathers_L7 fu 0 σ1).bind fun q8 =>
  (fX12_gathers_L28 fu 0 q8).bind fun q33 =>
  some q33
def fX12_mayStand_L27 : Nat → Int → Int → Int → Int → Sg → Option ((Unit) ⊕ (Unit))
  | 0, _, _, _, _, _ => none
  | n + 1, x1, x2, x3, x4, σ =>
    if x4 < x3 then (
      rd σ 14 120 x1 fun v7 =>
      rd σ 16 120 x1 fun v9 =>
      (fX12_isSafe v7 x2 v9 x4 σ).bind fun q11 =>
      if q11 = 0 then (
        some (.inl ()))
      else (
        ck (x4 + 1) fun v13 =>
        fX12_mayStand_L27 n x1 x2 x3 v13 σ))
    else (
      some (.inr ()))
def fX12_mayStand_L66P110 (rec : Int → Int → Int → Sg → Option ((Unit) ⊕ (Unit))) (x1 : Int) (x2 : Int) (x4 : Int) (σ : Sg) : Option ((Unit) ⊕ (Unit)) :=
  ck (x4 + 1) fun v25 =>
  rec x1 x2 v25 σ
def fX12_mayStand_L66 : Nat → Int → Int → Int → Sg → Option ((Unit) ⊕ (Unit))
  | 0, _, _, _, _ => none
  | n + 1, x1, x2, x4, σ =>
    if x4 < (σ 0 32) then (
      rd σ 15 120 x4 fun v20 =>
      if v20 = x2 then (
        (fX12_fire x4 σ).bind fun q27 =>
        (fX12_fire x1 σ).bind fun q29 =>
        ck (q27 - q29) fun v31 =>
        (fX12_amount v31 σ).bind fun q33 =>
        if q33 < (σ 0 31) then (
          some (.inl ()))
        else (
          fX12_mayStand_L66P110 (fX12_mayStand_L66 n) x1 x2 x4 σ))
      else (
        fX12_mayStand_L66P110 (fX12_mayStand_L66 n) x1 x2 x4 σ))
    else (
      some (.inr ()))
def fX12_mayStand (x1 : Int) (x2 : Int) (x3 : Int) (σ : Sg) : Option (Int) :=
  (fX12_isBarge x2 σ).bind fun q1 =>
  if q1 = 0 then (
    some 0)
  else (
    rd σ 14 120 x1 fun v3 =>
    (fX12_mayHold x2 v3 σ).bind fun q5 =>
    if q5 = 0 then (
      some 0)
    else (
      (fX12_mayStand_L27 fu x1 x2 x3 0 σ).bind (Sum.elim (fun a18 =>
        some 0) (fun a19 =>
        (fX12_mayStand_L66 fu x1 x2 0 σ).bind (Sum.elim (fun a39 =>
          some 0) (fun a40 =>
          some 1))))))
def fX12_findFits_L12 : Nat → Int → Int → Int → Sg → Option (Sg)
  | 0, _, _, _, _ => none
  | n + 1, x1, x2, x3, σ =>
    if x3 < 6 then (
      ck (6 * x2) fun v1 =>
      ck (v1 + x3) fun v3 =>
      rd σ 34 120 x2 fun v5 =>
      (fX12_mayStand v5 x3 x1 σ).bind fun q7 =>
      wrZ σ 38 48 v3 q7 fun σ9 =>
      ck (x3 + 1) fun v11 =>
      fX12_findFits_L12 n x1 x2 v11 σ9)
    else (
      some σ)
def fX12_findFits_L2 : Nat → Int → Int → Sg → Option (Sg)
  | 0, _, _, _ => none
  | n + 1, x1, x2, σ =>
    if x2 < (σ 0 47) then (
      (fX12_findFits_L12 fu x1 x2 0 σ).bind fun q14 =>
      ck (x2 + 1) fun v16 =>
      fX12_findFits_L2 n x1 v16 q14)
    else (
      some σ)
def fX12_findFits (x1 : Int) (σ : Sg) : Option (Sg) :=
  (fX12_findFits_L2 fu x1 0 σ).bind fun q19 =>
  some q19
def fX12_mayGet_L41P87 (rec : Int → Int → Int → Int → Sg → Option ((Unit) ⊕ (Unit))) (x1 : Int) (x2 : Int) (x3 : Int) (x4 : Int) (σ : Sg) : Option ((Unit) ⊕ (Unit)) :=
  ck (x4 + 1) fun v18 =>
  rec x1 x2 x3 v18 σ
def fX12_mayGet_L41 : Nat → Int → Int → Int → Int → Sg → Option ((Unit) ⊕ (Unit))
  | 0, _, _, _, _, _ => none
  | n + 1, x1, x2, x3, x4, σ =>
    if x4 < x1 then (
      rd σ 35 8 x4 fun v13 =>
      if v13 = x2 then (
        rd σ 34 120 x4 fun v20 =>
        (fX12_fire v20 σ).bind fun q22 =>
        (fX12_fire x3 σ).bind fun q24 =>
        ck (q22 - q24) fun v26 =>
        (fX12_amount v26 σ).bind fun q28 =>
        if q28 < (σ 0 31) then (
          some (.inl ()))
        else (
          fX12_mayGet_L41P87 (fX12_mayGet_L41 n) x1 x2 x3 x4 σ))
      else (
        fX12_mayGet_L41P87 (fX12_mayGet_L41 n) x1 x2 x3 x4 σ))
    else (
      some (.inr ()))
def fX12_mayGet (x1 : Int) (x2 : Int) (σ : Sg) : Option (Int) :=
  rd σ 34 120 x1 fun v1 =>
  rd σ 37 6 x2 fun v3 =>
  rd σ 10 6 x2 fun v5 =>
  if v3 < v5 then (
    ck (6 * x1) fun v7 =>
    ck (v7 + x2) fun v9 =>
    rd σ 38 48 v9 fun v11 =>
    if v11 = 0 then (
      some 0)
    else (
      (fX12_mayGet_L41 fu x1 x2 v1 0 σ).bind (Sum.elim (fun a34 =>
        some 0) (fun a35 =>
        some 1))))
  else (
    some 0)
def fX12_greatest_L4P30 (rec : Int → Int → Sg → Option (Int)) (x2 : Int) (y0 : Int) (σ : Sg) : Option (Int) :=
  ck (x2 + 1) fun v6 =>
  rec y0 v6 σ
def fX12_greatest_L4 : Nat → Int → Int → Sg → Option (Int)
  | 0, _, _, _ => none
  | n + 1, x1, x2, σ =>
    if x2 < 6 then (
      rd σ 37 6 x2 fun v1 =>
      if v1 ≤ x1 then (
        fX12_greatest_L4P30 (fX12_greatest_L4 n) x2 x1 σ)
      else (
        rd σ 37 6 x2 fun v8 =>
        fX12_greatest_L4P30 (fX12_greatest_L4 n) x2 v8 σ))
    else (
      some x1)
def fX12_greatest  (σ : Sg) : Option (Int) :=
  (fX12_greatest_L4 fu 0 0 σ).bind fun q12 =>
  some q12
def fX12_lays_L63P115 (slf : Int → Sg → Option (Sg)) (rec : Int → Int → Sg → Option (Sg)) (x1 : Int) (x2 : Int) (σ : Sg) : Option (Sg) :=
  ck (x2 + 1) fun v25 =>
  rec x1 v25 σ
def fX12_lays_L63 (slf : Int → Sg → Option (Sg)) : Nat → Int → Int → Sg → Option (Sg)
  | 0, _, _, _ => none
  | n + 1, x1, x2, σ =>
    if x2 < 6 then (
      (fX12_mayGet x1 x2 σ).bind fun q2 =>
      if q2 = 0 then (
        fX12_lays_L63P115 slf (fX12_lays_L63 slf n) x1 x2 σ)
      else (
        wr σ 35 8 x1 x2 fun σ4 =>
        rd σ4 37 6 x2 fun v6 =>
        ck (v6 + 1) fun v8 =>
        wr σ4 37 6 x2 v8 fun σ10 =>
        ck (x1 + 1) fun v12 =>
        (slf v12 σ10).bind fun q14 =>
        rd q14 37 6 x2 fun v16 =>
        ck (v16 - 1) fun v18 =>
        wr q14 37 6 x2 v18 fun σ20 =>
        fX12_lays_L63P115 slf (fX12_lays_L63 slf n) x1 x2 σ20))
    else (
      some σ)
def fX12_lays_L37 (slf : Int → Sg → Option (Sg)) : Nat → Int → Int → Sg → Option (Sg)
  | 0, _, _, _ => none
  | n + 1, x1, x2, σ =>
    if x2 < x1 then (
      rd σ 35 8 x2 fun v35 =>
      wr σ 36 8 x2 v35 fun σ37 =>
      ck (x2 + 1) fun v39 =>
      fX12_lays_L37 slf n x1 v39 σ37)
    else (
      some σ)
def fX12_lays_P19 (slf : Int → Sg → Option (Sg)) (x1 : Int) (σ : Sg) : Option (Sg) :=
  if x1 = (σ 0 47) then (
    (fX12_greatest σ).bind fun q47 =>
    st1 (put σ 0 48 q47) fun σ49 =>
    (fX12_lays_L37 slf fu x1 0 σ49).bind fun q51 =>
    some q51)
  else (
    (fX12_lays_L63 slf fu x1 0 σ).bind fun q45 =>
    some q45)
def fX12_lays : Nat → Int → Sg → Option (Sg)
  | 0, _, _ => none
  | d + 1, x1, σ =>
    if (σ 0 48) < 0 then (
      fX12_lays_P19 (fX12_lays d) x1 σ)
    else (
      (fX12_greatest σ).bind fun q54 =>
      if q54 < (σ 0 48) then (
        fX12_lays_P19 (fX12_lays d) x1 σ)
      else (
        some σ))
def fX12_lay_L59 : Nat → Int → Sg → Option (Sg)
  | 0, _, _ => none
  | n + 1, x2, σ =>
    if x2 < (σ 0 47) then (
      rd σ 34 120 x2 fun v13 =>
      rd σ 36 8 x2 fun v15 =>
      wr σ 15 120 v13 v15 fun σ17 =>
      ck (x2 + 1) fun v19 =>
      fX12_lay_L59 n v19 σ17)
    else (
      some σ)
def fX12_lay (x1 : Int) (σ : Sg) : Option (Int × Sg) :=
  st1 (put σ 0 54 0) fun σ1 =>
  (fX12_isIn x1 0 4 σ1).bind fun q3 =>
  if q3 = 0 then (
    some ((-1), σ1))
  else (
    (fX12_gathers σ1).bind fun q5 =>
    if (q5 0 47) ≤ 8 then (
      st1 (put q5 0 48 (-1)) fun σ7 =>
      (fX12_findFits x1 σ7).bind fun q9 =>
      (fX12_lays 10 0 q9).bind fun q11 =>
      if (q11 0 48) < 0 then (
        some ((-3), q11))
      else (
        (fX12_lay_L59 fu 0 q11).bind fun q22 =>
        some ((q22 0 48), q22)))
    else (
      some ((-4), q5)))
def fX12_proof_L54 : Nat → Int → Int → Sg → Option ((Int × Sg) ⊕ (Sg))
  | 0, _, _, _ => none
  | n + 1, x1, x4, σ =>
    if x4 < (σ 0 47) then (
      rd σ 29 6 x1 fun v11 =>
      if x4 < v11 then (
        (fX12_word x1 x4 σ).bind fun q13 =>
        (fX12_isBarge q13 σ).bind fun q15 =>
        if q15 = 0 then (
          some (.inl (x4, σ)))
        else (
          (fX12_mayGet x4 q13 σ).bind fun q17 =>
          if q17 = 0 then (
            some (.inl (x4, σ)))
          else (
            wr σ 35 8 x4 q13 fun σ19 =>
            rd σ19 37 6 q13 fun v21 =>
            ck (v21 + 1) fun v23 =>
            wr σ19 37 6 q13 v23 fun σ25 =>
            ck (x4 + 1) fun v27 =>
            fX12_proof_L54 n x1 v27 σ25)))
      else (
        some (.inr σ)))
    else (
      some (.inr σ))
def fX12_proof (x1 : Int) (x2 : Int) (σ : Sg) : Option (Int × Sg) :=
  (fX12_isTape x1 σ).bind fun q1 =>
  if q1 = 0 then (
    some ((-1), σ))
  else (
    (fX12_isIn x2 0 4 σ).bind fun q3 =>
    if q3 = 0 then (
      some ((-1), σ))
    else (
      (fX12_gathers σ).bind fun q5 =>
      if (q5 0 47) ≤ 8 then (
        (fX12_wrongBytes x1 q5).bind fun q7 =>
        if q7.1 = 0 then (
          (fX12_findFits x2 q7.2).bind fun q9 =>
          (fX12_proof_L54 fu x1 0 q9).bind (Sum.elim (fun a34 =>
            ck ((-100) - a34.1) fun v37 =>
            some (v37, a34.2)) (fun a39 =>
            rd a39 29 6 x1 fun v41 =>
            if v41 < (a39 0 47) then (
              (fX12_host (-13) a39).bind fun q45 =>
              some (q45.1, q45.2))
            else (
              (fX12_greatest a39).bind fun q43 =>
              some (q43, a39)))))
        else (
          some (q7.1, q7.2)))
      else (
        some ((-4), q5))))
def fX12_place_P28 (x1 : Int) (x2 : Int) (σ : Sg) : Option (Int × Sg) :=
  rd σ 15 120 x1 fun v10 =>
  wr σ 15 120 x1 x2 fun σ12 =>
  some (v10, σ12)
def fX12_place (x1 : Int) (x2 : Int) (σ : Sg) : Option (Int × Sg) :=
  st1 (put σ 0 54 0) fun σ1 =>
  (fX12_isCue x1 σ1).bind fun q3 =>
  if q3 = 0 then (
    some ((-1), σ1))
  else (
    if x2 = (-1) then (
      fX12_place_P28 x1 x2 σ1)
    else (
      (fX12_isBarge x2 σ1).bind fun q14 =>
      if q14 = 0 then (
        some ((-1), σ1))
      else (
        fX12_place_P28 x1 x2 σ1)))
def fX12_meter (x1 : Int) (x2 : Int) (x3 : Int) (σ : Sg) : Option (Int × Sg) :=
  st1 (put σ 0 54 0) fun σ1 =>
  (fX12_isIn x1 0 3 σ1).bind fun q3 =>
  if q3 = 0 then (
    some ((-1), σ1))
  else (
    (fX12_isIn x2 0 20000 σ1).bind fun q5 =>
    if q5 = 0 then (
      some ((-1), σ1))
    else (
      (fX12_isIn x3 x2 20000 σ1).bind fun q7 =>
      if q7 = 0 then (
        some ((-1), σ1))
      else (
        if (σ1 0 33) = 20 then (
          some ((-2), σ1))
        else (
          wr σ1 22 20 (σ1 0 33) x1 fun σ9 =>
          wr σ9 23 20 (σ9 0 33) x2 fun σ11 =>
          wr σ11 24 20 (σ11 0 33) x3 fun σ13 =>
          ck ((σ13 0 33) + 1) fun v15 =>
          st1 (put σ13 0 33 v15) fun σ17 =>
          some ((σ17 0 33), σ17)))))
def fX12_knownWind_L4P43 (rec : Int → Int → Int → Sg → Option (Int)) (x1 : Int) (x2 : Int) (x3 : Int) (σ : Sg) : Option (Int) :=
  ck (x3 + 1) fun v6 =>
  rec x1 x2 v6 σ
def fX12_knownWind_L4P41 (rec : Int → Int → Int → Sg → Option (Int)) (x1 : Int) (x3 : Int) (σ : Sg) : Option (Int) :=
  fX12_knownWind_L4P43 rec x1 x3 x3 σ
def fX12_knownWind_L4 : Nat → Int → Int → Int → Sg → Option (Int)
  | 0, _, _, _, _ => none
  | n + 1, x1, x2, x3, σ =>
    if x3 < (σ 0 33) then (
      rd σ 24 20 x3 fun v1 =>
      if v1 ≤ x1 then (
        if x2 < 0 then (
          fX12_knownWind_L4P41 (fX12_knownWind_L4 n) x1 x3 σ)
        else (
          rd σ 23 20 x3 fun v9 =>
          rd σ 23 20 x2 fun v11 =>
          if v9 < v11 then (
            fX12_knownWind_L4P43 (fX12_knownWind_L4 n) x1 x2 x3 σ)
          else (
            fX12_knownWind_L4P41 (fX12_knownWind_L4 n) x1 x3 σ)))
      else (
        fX12_knownWind_L4P43 (fX12_knownWind_L4 n) x1 x2 x3 σ))
    else (
      some x2)
def fX12_knownWind (x1 : Int) (σ : Sg) : Option (Int) :=
  (fX12_knownWind_L4 fu x1 (-1) 0 σ).bind fun q17 =>
  if q17 < 0 then (
    some 0)
  else (
    rd σ 22 20 q17 fun v19 =>
    some v19)
def fX12_knows (x1 : Int) (σ : Sg) : Option (Int) :=
  (fX12_isIn x1 0 20000 σ).bind fun q1 =>
  if q1 = 0 then (
    some (-1))
  else (
    (fX12_knownWind x1 σ).bind fun q3 =>
    some q3)
def fX12_orders_L7P207 (rec : Int → Int → Int → Int → Sg → Option ((Int) ⊕ ((Int) ⊕ (Unit)))) (x1 : Int) (x2 : Int) (x4 : Int) (x6 : Int) (y0 : Int) (y1 : Int) (σ : Sg) : Option ((Int) ⊕ ((Int) ⊕ (Unit))) :=
  ck (y1 + y0) fun v22 =>
  ck (x2 + 1) fun v24 =>
  ck (x6 + 1) fun v26 =>
  ck (x4 + v26) fun v28 =>
  rec x1 v24 v22 v28 σ
def fX12_orders_L7P167 (rec : Int → Int → Int → Int → Sg → Option ((Int) ⊕ ((Int) ⊕ (Unit)))) (x1 : Int) (x2 : Int) (x3 : Int) (x4 : Int) (x5 : Int) (x6 : Int) (x7 : Int) (σ : Sg) : Option ((Int) ⊕ ((Int) ⊕ (Unit))) :=
  if x7 = 0 then (
    some (.inl x4))
  else (
    if x5 = 0 then (
      some (.inr (.inl x2)))
    else (
      if x6 = 1 then (
        fX12_orders_L7P207 rec x1 x2 x4 x6 1 x3 σ)
      else (
        if x5 = 8 then (
          fX12_orders_L7P207 rec x1 x2 x4 x6 0 x3 σ)
        else (
          fX12_orders_L7P207 rec x1 x2 x4 x6 (-1) x3 σ))))
def fX12_orders_L7P165 (rec : Int → Int → Int → Int → Sg → Option ((Int) ⊕ ((Int) ⊕ (Unit)))) (x1 : Int) (x2 : Int) (x3 : Int) (x4 : Int) (x5 : Int) (x6 : Int) (y0 : Int) (σ : Sg) : Option ((Int) ⊕ ((Int) ⊕ (Unit))) :=
  fX12_orders_L7P167 rec x1 x2 x3 x4 x5 x6 y0 σ
def fX12_orders_L7P91 (rec : Int → Int → Int → Int → Sg → Option ((Int) ⊕ ((Int) ⊕ (Unit)))) (x1 : Int) (x2 : Int) (x3 : Int) (x4 : Int) (x5 : Int) (x6 : Int) (y0 : Int) (σ : Sg) : Option ((Int) ⊕ ((Int) ⊕ (Unit))) :=
  if y0 = 0 then (
    fX12_orders_L7P167 rec x1 x2 x3 x4 x5 x6 y0 σ)
  else (
    if x5 = 0 then (
      if x3 = 1 then (
        fX12_orders_L7P165 rec x1 x2 x3 x4 x5 x6 1 σ)
      else (
        fX12_orders_L7P165 rec x1 x2 x3 x4 x5 x6 0 σ))
    else (
      if x6 = 1 then (
        if x3 < 8 then (
          fX12_orders_L7P165 rec x1 x2 x3 x4 x5 x6 1 σ)
        else (
          fX12_orders_L7P165 rec x1 x2 x3 x4 x5 x6 0 σ))
      else (
        if x5 = 8 then (
          if x3 ≤ 0 then (
            fX12_orders_L7P165 rec x1 x2 x3 x4 x5 x6 0 σ)
          else (
            fX12_orders_L7P165 rec x1 x2 x3 x4 x5 x6 1 σ))
        else (
          if x3 ≤ 1 then (
            fX12_orders_L7P165 rec x1 x2 x3 x4 x5 x6 0 σ)
          else (
            fX12_orders_L7P165 rec x1 x2 x3 x4 x5 x6 1 σ)))))
def fX12_orders_L7P90 (rec : Int → Int → Int → Int → Sg → Option ((Int) ⊕ ((Int) ⊕ (Unit)))) (x1 : Int) (x2 : Int) (x3 : Int) (x4 : Int) (x5 : Int) (x6 : Int) (σ : Sg) : Option ((Int) ⊕ ((Int) ⊕ (Unit))) :=
  fX12_orders_L7P91 rec x1 x2 x3 x4 x5 x6 0 σ
def fX12_orders_L7P86 (rec : Int → Int → Int → Int → Sg → Option ((Int) ⊕ ((Int) ⊕ (Unit)))) (x1 : Int) (x2 : Int) (x3 : Int) (x4 : Int) (x5 : Int) (x6 : Int) (σ : Sg) : Option ((Int) ⊕ ((Int) ⊕ (Unit))) :=
  fX12_orders_L7P91 rec x1 x2 x3 x4 x5 x6 1 σ
def fX12_orders_L7P42 (rec : Int → Int → Int → Int → Sg → Option ((Int) ⊕ ((Int) ⊕ (Unit)))) (x1 : Int) (x2 : Int) (x3 : Int) (x4 : Int) (x5 : Int) (y0 : Int) (σ : Sg) : Option ((Int) ⊕ ((Int) ⊕ (Unit))) :=
  (fX12_isIn x5 0 8 σ).bind fun q68 =>
  if q68 = 0 then (
    fX12_orders_L7P90 rec x1 x2 x3 x4 x5 y0 σ)
  else (
    ck (x4 + y0) fun v70 =>
    rd σ 29 6 x1 fun v72 =>
    if v70 < v72 then (
      if y0 = 0 then (
        fX12_orders_L7P86 rec x1 x2 x3 x4 x5 y0 σ)
      else (
        ck (x4 + 1) fun v74 =>
        (fX12_word x1 v74 σ).bind fun q76 =>
        if q76 < 0 then (
          fX12_orders_L7P90 rec x1 x2 x3 x4 x5 y0 σ)
        else (
          fX12_orders_L7P86 rec x1 x2 x3 x4 x5 y0 σ)))
    else (
      fX12_orders_L7P90 rec x1 x2 x3 x4 x5 y0 σ))
def fX12_orders_L7 : Nat → Int → Int → Int → Int → Sg → Option ((Int) ⊕ ((Int) ⊕ (Unit)))
  | 0, _, _, _, _, _ => none
  | n + 1, x1, x2, x3, x4, σ =>
    rd σ 29 6 x1 fun v1 =>
    if x4 < v1 then (
      (fX12_word x1 x4 σ).bind fun q3 =>
      (fX12_isIn q3 1 5 σ).bind fun q5 =>
      if q5 = 0 then (
        fX12_orders_L7P42 (fX12_orders_L7 n) x1 x2 x3 x4 q3 0 σ)
      else (
        fX12_orders_L7P42 (fX12_orders_L7 n) x1 x2 x3 x4 q3 1 σ))
    else (
      some (.inr (.inr ())))
def fX12_orders (x1 : Int) (σ : Sg) : Option (Int) :=
  (fX12_orders_L7 fu x1 0 0 0 σ).bind (Sum.elim (fun a85 =>
    ck ((-1) - a85) fun v87 =>
    some v87) (Sum.elim (fun a89 =>
    some a89) (fun a91 =>
    rd σ 29 6 x1 fun v92 =>
    ck ((-1) - v92) fun v94 =>
    some v94)))
def fX12_hold_L62 : Nat → Int → Int → Sg → Option (Sg)
  | 0, _, _, _ => none
  | n + 1, x1, x4, σ =>
    rd σ 29 6 x1 fun v9 =>
    if x4 < v9 then (
      ck (100 * (σ 0 34)) fun v11 =>
      ck (v11 + x4) fun v13 =>
      (fX12_word x1 x4 σ).bind fun q15 =>
      wr σ 25 800 v13 q15 fun σ17 =>
      ck (x4 + 1) fun v19 =>
      fX12_hold_L62 n x1 v19 σ17)
    else (
      some σ)
def fX12_hold (x1 : Int) (σ : Sg) : Option (Int × Sg) :=
  st1 (put σ 0 54 0) fun σ1 =>
  (fX12_isTape x1 σ1).bind fun q3 =>
  if q3 = 0 then (
    some ((-1), σ1))
  else (
    (fX12_wrongBytes x1 σ1).bind fun q5 =>
    if q5.1 = 0 then (
      (fX12_orders x1 q5.2).bind fun q7 =>
      if q7 < 0 then (
        ck ((-99) + q7) fun v32 =>
        some (v32, q5.2))
      else (
        if (q5.2 0 34) = 8 then (
          some ((-2), q5.2))
        else (
          if q7 ≤ 20 then (
            (fX12_hold_L62 fu x1 0 q5.2).bind fun q22 =>
            ck ((q22 0 34) + 1) fun v24 =>
            st1 (put q22 0 34 v24) fun σ26 =>
            ck ((σ26 0 34) - 1) fun v28 =>
            some (v28, σ26))
          else (
            some ((-2), q5.2)))))
    else (
      some (q5.1, q5.2)))
def fX12_holdless  (σ : Sg) : Option (Int × Sg) :=
  st1 (put σ 0 54 0) fun σ1 =>
  st1 (put σ1 0 34 0) fun σ3 =>
  some ((σ1 0 34), σ3)
def fX12_holdsFor_L9P292 (rec : Int → Int → Int → Int → Sg → Option (Sg)) (x2 : Int) (x3 : Int) (x4 : Int) (x5 : Int) (y0 : Int) (y1 : Int) (σ : Sg) : Option (Sg) :=
  wrZ σ 39 9 y1 y0 fun σ25 =>
  rec x2 x3 x4 x5 σ25
def fX12_holdsFor_L9P287 (rec : Int → Int → Int → Int → Sg → Option (Sg)) (x2 : Int) (x3 : Int) (x4 : Int) (x5 : Int) (y0 : Int) (σ : Sg) : Option (Sg) :=
  fX12_holdsFor_L9P292 rec x2 x3 x4 x5 1 y0 σ
def fX12_holdsFor_L9P261 (rec : Int → Int → Int → Int → Sg → Option (Sg)) (x2 : Int) (x3 : Int) (x4 : Int) (x5 : Int) (y0 : Int) (σ : Sg) : Option (Sg) :=
  fX12_holdsFor_L9P292 rec x2 x3 x4 x5 0 y0 σ
def fX12_holdsFor_L9P213 (rec : Int → Int → Int → Int → Sg → Option (Sg)) (x2 : Int) (x3 : Int) (x4 : Int) (x5 : Int) (y0 : Int) (y1 : Int) (σ : Sg) : Option (Sg) :=
  wrZ σ 39 9 y1 y0 fun σ50 =>
  rec x2 x3 x4 x5 σ50
def fX12_holdsFor_L9P168 (rec : Int → Int → Int → Int → Sg → Option (Sg)) (x2 : Int) (x3 : Int) (x4 : Int) (x5 : Int) (y0 : Int) (y1 : Int) (σ : Sg) : Option (Sg) :=
  wrZ σ 39 9 y1 y0 fun σ63 =>
  ck (x4 + 1) fun v65 =>
  ck (x5 + 2) fun v67 =>
  rec x2 x3 v65 v67 σ63
def fX12_holdsFor_L9 : Nat → Int → Int → Int → Int → Sg → Option (Sg)
  | 0, _, _, _, _, _ => none
  | n + 1, x2, x3, x4, x5, σ =>
    rd σ 25 800 x5 fun v3 =>
    if v3 = 0 then (
      some σ)
    else (
      ck (x5 + 1) fun v5 =>
      rd σ 25 800 v5 fun v7 =>
      rd σ 25 800 x5 fun v9 =>
      if v9 < 6 then (
        if v9 = 1 then (
          (fX12_fire x2 σ).bind fun q82 =>
          ck (10 * v7) fun v84 =>
          if q82 < v84 then (
            fX12_holdsFor_L9P168 (fX12_holdsFor_L9 n) x2 x3 x4 x5 0 x4 σ)
          else (
            fX12_holdsFor_L9P168 (fX12_holdsFor_L9 n) x2 x3 x4 x5 1 x4 σ))
        else (
          if v9 = 2 then (
            if x3 < v7 then (
              fX12_holdsFor_L9P168 (fX12_holdsFor_L9 n) x2 x3 x4 x5 0 x4 σ)
            else (
              fX12_holdsFor_L9P168 (fX12_holdsFor_L9 n) x2 x3 x4 x5 1 x4 σ))
          else (
            if v9 = 3 then (
              (fX12_fire x2 σ).bind fun q74 =>
              (fX12_knownWind q74 σ).bind fun q76 =>
              if q76 = v7 then (
                fX12_holdsFor_L9P168 (fX12_holdsFor_L9 n) x2 x3 x4 x5 1 x4 σ)
              else (
                fX12_holdsFor_L9P168 (fX12_holdsFor_L9 n) x2 x3 x4 x5 0 x4 σ))
            else (
              if v9 = 4 then (
                rd σ 15 120 x2 fun v70 =>
                if v70 = v7 then (
                  fX12_holdsFor_L9P168 (fX12_holdsFor_L9 n) x2 x3 x4 x5 1 x4 σ)
                else (
                  fX12_holdsFor_L9P168 (fX12_holdsFor_L9 n) x2 x3 x4 x5 0 x4 σ))
              else (
                rd σ 14 120 x2 fun v54 =>
                if v54 = v7 then (
                  fX12_holdsFor_L9P168 (fX12_holdsFor_L9 n) x2 x3 x4 x5 1 x4 σ)
                else (
                  fX12_holdsFor_L9P168 (fX12_holdsFor_L9 n) x2 x3 x4 x5 0 x4 σ))))))
      else (
        ck (x5 + 1) fun v11 =>
        if v9 = 8 then (
          ck (x4 - 1) fun v41 =>
          ck (x4 - 1) fun v43 =>
          rd σ 39 9 v43 fun v45 =>
          if v45 = 0 then (
            fX12_holdsFor_L9P213 (fX12_holdsFor_L9 n) x2 x3 x4 v11 1 v41 σ)
          else (
            fX12_holdsFor_L9P213 (fX12_holdsFor_L9 n) x2 x3 x4 v11 0 v41 σ))
        else (
          ck (x4 + (-1)) fun v13 =>
          ck (v13 - 1) fun v15 =>
          if v9 = 6 then (
            ck (v13 - 1) fun v31 =>
            rd σ 39 9 v31 fun v33 =>
            if v33 = 0 then (
              fX12_holdsFor_L9P261 (fX12_holdsFor_L9 n) x2 x3 v13 v11 v15 σ)
            else (
              rd σ 39 9 v13 fun v36 =>
              if v36 = 0 then (
                fX12_holdsFor_L9P261 (fX12_holdsFor_L9 n) x2 x3 v13 v11 v15 σ)
              else (
                fX12_holdsFor_L9P292 (fX12_holdsFor_L9 n) x2 x3 v13 v11 1 v15 σ)))
          else (
            ck (v13 - 1) fun v17 =>
            rd σ 39 9 v17 fun v19 =>
            if v19 = 0 then (
              rd σ 39 9 v13 fun v27 =>
              if v27 = 0 then (
                fX12_holdsFor_L9P292 (fX12_holdsFor_L9 n) x2 x3 v13 v11 0 v15 σ)
              else (
                fX12_holdsFor_L9P287 (fX12_holdsFor_L9 n) x2 x3 v13 v11 v15 σ))
            else (
              fX12_holdsFor_L9P287 (fX12_holdsFor_L9 n) x2 x3 v13 v11 v15 σ)))))
def fX12_holdsFor (x1 : Int) (x2 : Int) (x3 : Int) (σ : Sg) : Option (Int × Sg) :=
  ck (100 * x1) fun v1 =>
  (fX12_holdsFor_L9 fu x2 x3 0 v1 σ).bind fun q90 =>
  rd q90 39 9 0 fun v92 =>
  bl v92 (some (v92, q90))
def fX12_fault (x1 : Int) (x2 : Int) (σ : Sg) : Option (Int × Sg) :=
  st1 (put σ 0 54 0) fun σ1 =>
  (fX12_isCue x1 σ1).bind fun q3 =>
  if q3 = 0 then (
    some ((-1), σ1))
  else (
    (fX12_isIn x2 0 6 σ1).bind fun q5 =>
    if q5 = 0 then (
      some ((-1), σ1))
    else (
      rd σ1 17 120 x1 fun v7 =>
      wr σ1 17 120 x1 x2 fun σ9 =>
      some (v7, σ9)))
def fX12_halt (x1 : Int) (σ : Sg) : Option (Int × Sg) :=
  st1 (put σ 0 54 0) fun σ1 =>
  (fX12_isIn x1 (-1) 20000 σ1).bind fun q3 =>
  if q3 = 0 then (
    some ((-1), σ1))
  else (
    st1 (put σ1 0 35 x1) fun σ5 =>
    some ((σ1 0 35), σ5))
def fX12_otherKind_L2P93 (rec : Int → Int → Int → Sg → Option ((Int) ⊕ (Unit))) (x1 : Int) (x2 : Int) (x3 : Int) (σ : Sg) : Option ((Int) ⊕ (Unit)) :=
  ck (x3 + 1) fun v6 =>
  rec x1 x2 v6 σ
def fX12_otherKind_L2 : Nat → Int → Int → Int → Sg → Option ((Int) ⊕ (Unit))
  | 0, _, _, _, _ => none
  | n + 1, x1, x2, x3, σ =>
    if x3 < 12 then (
      (fX12_isKind x3 σ).bind fun q1 =>
      if q1 = 0 then (
        fX12_otherKind_L2P93 (fX12_otherKind_L2 n) x1 x2 x3 σ)
      else (
        rd σ 6 12 x3 fun v8 =>
        rd σ 14 120 x1 fun v10 =>
        rd σ 6 12 v10 fun v12 =>
        if v8 = v12 then (
          rd σ 2 12 x3 fun v14 =>
          rd σ 14 120 x1 fun v16 =>
          rd σ 2 12 v16 fun v18 =>
          if v14 ≤ v18 then (
            rd σ 15 120 x1 fun v20 =>
            (fX12_mayHold v20 x3 σ).bind fun q22 =>
            if q22 = 0 then (
              fX12_otherKind_L2P93 (fX12_otherKind_L2 n) x1 x2 x3 σ)
            else (
              rd σ 15 120 x1 fun v24 =>
              rd σ 16 120 x1 fun v26 =>
              (fX12_isSafe x3 v24 v26 x2 σ).bind fun q28 =>
              if q28 = 0 then (
                fX12_otherKind_L2P93 (fX12_otherKind_L2 n) x1 x2 x3 σ)
              else (
                some (.inl x3))))
          else (
            fX12_otherKind_L2P93 (fX12_otherKind_L2 n) x1 x2 x3 σ))
        else (
          fX12_otherKind_L2P93 (fX12_otherKind_L2 n) x1 x2 x3 σ)))
    else (
      some (.inr ()))
def fX12_otherKind (x1 : Int) (x2 : Int) (σ : Sg) : Option (Int) :=
  (fX12_otherKind_L2 fu x1 x2 0 σ).bind (Sum.elim (fun a37 =>
    some a37) (fun a39 =>
    some (-1)))
def fX12_fateOf_L38P86 (rec : Int → Int → Int → Int → Sg → Option (Int)) (x1 : Int) (x2 : Int) (x4 : Int) (y0 : Int) (y1 : Int) (σ : Sg) : Option (Int) :=
  ck (y1 + y0) fun v14 =>
  ck (x4 + 1) fun v16 =>
  rec x1 x2 v14 v16 σ
def fX12_fateOf_L38P85 (rec : Int → Int → Int → Int → Sg → Option (Int)) (x1 : Int) (x2 : Int) (x4 : Int) (y0 : Int) (σ : Sg) : Option (Int) :=
  fX12_fateOf_L38P86 rec x1 x2 x4 0 y0 σ
def fX12_fateOf_L38 : Nat → Int → Int → Int → Int → Sg → Option (Int)
  | 0, _, _, _, _, _ => none
  | n + 1, x1, x2, x3, x4, σ =>
    if x4 < x2 then (
      rd σ 40 120 x4 fun v4 =>
      rd σ 41 120 v4 fun v6 =>
      if v6 = 5 then (
        rd σ 40 120 x4 fun v18 =>
        rd σ 13 120 v18 fun v20 =>
        (fX12_fire x1 σ).bind fun q22 =>
        if v20 ≤ q22 then (
          fX12_fateOf_L38P86 (fX12_fateOf_L38 n) x1 x2 x4 1 x3 σ)
        else (
          fX12_fateOf_L38P85 (fX12_fateOf_L38 n) x1 x2 x4 x3 σ))
      else (
        fX12_fateOf_L38P85 (fX12_fateOf_L38 n) x1 x2 x4 x3 σ))
    else (
      some x3)
def fX12_fateOf_L97 : Nat → Int → Int → Int → Sg → Option ((Sg) ⊕ (Sg))
  | 0, _, _, _, _ => none
  | n + 1, x1, x3, x4, σ =>
    if x4 < (σ 0 34) then (
      (fX12_holdsFor x4 x1 x3 σ).bind fun q29 =>
      if q29.1 = 0 then (
        ck (x4 + 1) fun v31 =>
        fX12_fateOf_L97 n x1 x3 v31 q29.2)
      else (
        some (.inl q29.2)))
    else (
      some (.inr σ))
def fX12_fateOf_P180 (x1 : Int) (x5 : Int) (σ : Sg) : Option (Int × Sg) :=
  rd σ 42 120 x1 fun v64 =>
  if v64 < 0 then (
    rd σ 14 120 x1 fun v70 =>
    wr σ 42 120 x1 v70 fun σ72 =>
    some (2, σ72))
  else (
    rd σ 17 120 x1 fun v66 =>
    if v66 = 6 then (
      some (5, σ))
    else (
      if x5 = 0 then (
        some (1, σ))
      else (
        some (0, σ))))
def fX12_fateOf_P33 (x1 : Int) (x2 : Int) (σ : Sg) : Option (Int × Sg) :=
  (fX12_fateOf_L38 fu x1 x2 0 0 σ).bind fun q80 =>
  (fX12_fateOf_L97 fu x1 q80 0 σ).bind (Sum.elim (fun a83 =>
    some (3, a83)) (fun a85 =>
    (fX12_fire x1 a85).bind fun q87 =>
    (fX12_knownWind q87 a85).bind fun q89 =>
    rd a85 14 120 x1 fun v91 =>
    rd a85 15 120 x1 fun v93 =>
    rd a85 16 120 x1 fun v95 =>
    (fX12_isSafe v91 v93 v95 q89 a85).bind fun q97 =>
    if q97 = 0 then (
      (fX12_otherKind x1 q89 a85).bind fun q99 =>
      wr a85 42 120 x1 q99 fun σ101 =>
      fX12_fateOf_P180 x1 q97 σ101)
    else (
      fX12_fateOf_P180 x1 q97 a85)))
def fX12_fateOf (x1 : Int) (x2 : Int) (σ : Sg) : Option (Int × Sg) :=
  rd σ 15 120 x1 fun v1 =>
  if v1 < 0 then (
    some (6, σ))
  else (
    if (σ 0 35) < 0 then (
      fX12_fateOf_P33 x1 x2 σ)
    else (
      (fX12_fire x1 σ).bind fun q104 =>
      if q104 < (σ 0 35) then (
        fX12_fateOf_P33 x1 x2 σ)
      else (
        some (4, σ))))
def fX12_plays_L25 : Nat → Int → Int → Sg → Option (Int × Sg)
  | 0, _, _, _ => none
  | n + 1, x1, x2, σ =>
    if x2 ≤ 0 then (
      some (x2, σ))
    else (
      ck (x2 - 1) fun v3 =>
      rd σ 40 120 v3 fun v5 =>
      (fX12_fire v5 σ).bind fun q7 =>
      (fX12_fire x1 σ).bind fun q9 =>
      if q7 ≤ q9 then (
        some (x2, σ))
      else (
        ck (x2 - 1) fun v11 =>
        rd σ 40 120 v11 fun v13 =>
        wr σ 40 120 x2 v13 fun σ15 =>
        ck (x2 + (-1)) fun v17 =>
        fX12_plays_L25 n x1 v17 σ15))
def fX12_plays_L15 : Nat → Int → Sg → Option (Sg)
  | 0, _, _ => none
  | n + 1, x1, σ =>
    if x1 < (σ 0 32) then (
      (fX12_plays_L25 fu x1 x1 σ).bind fun q21 =>
      wr q21.2 40 120 q21.1 x1 fun σ24 =>
      ck (x1 + 1) fun v26 =>
      fX12_plays_L15 n v26 σ24)
    else (
      some σ)
def fX12_plays_L84 : Nat → Int → Sg → Option (Sg)
  | 0, _, _ => none
  | n + 1, x1, σ =>
    if x1 < (σ 0 32) then (
      rd σ 40 120 x1 fun v31 =>
      rd σ 14 120 v31 fun v33 =>
      wr σ 42 120 v31 v33 fun σ35 =>
      (fX12_fateOf v31 x1 σ35).bind fun q37 =>
      wr q37.2 41 120 v31 q37.1 fun σ39 =>
      ck (x1 + 1) fun v41 =>
      fX12_plays_L84 n v41 σ39)
    else (
      some σ)
def fX12_plays  (σ : Sg) : Option (Sg) :=
  if (σ 0 54) = 0 then (
    st1 (put σ 0 54 1) fun σ1 =>
    (fX12_plays_L15 fu 0 σ1).bind fun q29 =>
    (fX12_plays_L84 fu 0 q29).bind fun q44 =>
    some q44)
  else (
    some σ)
def fX12_fate (x1 : Int) (σ : Sg) : Option (Int × Sg) :=
  (fX12_isCue x1 σ).bind fun q1 =>
  if q1 = 0 then (
    some ((-1), σ))
  else (
    (fX12_plays σ).bind fun q3 =>
    rd q3 41 120 x1 fun v5 =>
    some (v5, q3))
def fX12_goes_P55 (x1 : Int) (x2 : Int) (y0 : Int) (σ : Sg) : Option (Int × Sg) :=
  st1 (put σ 0 38 y0) fun σ33 =>
  if (σ33 0 38) = 0 then (
    if x2 = 0 then (
      rd σ33 42 120 x1 fun v50 =>
      some (v50, σ33))
    else (
      if x2 = 1 then (
        rd σ33 13 120 x1 fun v41 =>
        rd σ33 42 120 x1 fun v43 =>
        rd σ33 2 12 v43 fun v45 =>
        ck (v41 - v45) fun v47 =>
        some (v47, σ33))
      else (
        rd σ33 13 120 x1 fun v35 =>
        rd σ33 17 120 x1 fun v37 =>
        ck (v35 + v37) fun v39 =>
        some (v39, σ33))))
  else (
    some (0, σ33))
def fX12_goes_P23 (x1 : Int) (x2 : Int) (y0 : Int) (σ : Sg) : Option (Int × Sg) :=
  st1 (put σ 0 38 y0) fun σ56 =>
  if (σ56 0 38) = 0 then (
    (fX12_plays σ56).bind fun q58 =>
    rd q58 41 120 x1 fun v60 =>
    if v60 ≤ 1 then (
      fX12_goes_P55 x1 x2 0 q58)
    else (
      fX12_goes_P55 x1 x2 2 q58))
  else (
    some (0, σ56))
def fX12_goes_P18 (x1 : Int) (x2 : Int) (σ : Sg) : Option (Int × Sg) :=
  fX12_goes_P23 x1 x2 1 σ
def fX12_goes (x1 : Int) (x2 : Int) (σ : Sg) : Option (Int × Sg) :=
  (fX12_isCue x1 σ).bind fun q1 =>
  if q1 = 0 then (
    fX12_goes_P18 x1 x2 σ)
  else (
    (fX12_isIn x2 0 2 σ).bind fun q64 =>
    if q64 = 0 then (
      fX12_goes_P18 x1 x2 σ)
    else (
      fX12_goes_P23 x1 x2 0 σ))
def fX12_many_L20P44 (rec : Int → Int → Int → Sg → Option (Int)) (x1 : Int) (x3 : Int) (y0 : Int) (y1 : Int) (σ : Sg) : Option (Int) :=
  ck (y1 + y0) fun v12 =>
  ck (x3 + 1) fun v14 =>
  rec x1 v12 v14 σ
def fX12_many_L20 : Nat → Int → Int → Int → Sg → Option (Int)
  | 0, _, _, _, _ => none
  | n + 1, x1, x2, x3, σ =>
    if x3 < (σ 0 32) then (
      rd σ 41 120 x3 fun v5 =>
      if v5 = x1 then (
        fX12_many_L20P44 (fX12_many_L20 n) x1 x3 1 x2 σ)
      else (
        fX12_many_L20P44 (fX12_many_L20 n) x1 x3 0 x2 σ))
    else (
      some x2)
def fX12_many (x1 : Int) (σ : Sg) : Option (Int × Sg) :=
  (fX12_isIn x1 0 6 σ).bind fun q1 =>
  if q1 = 0 then (
    some ((-1), σ))
  else (
    (fX12_plays σ).bind fun q3 =>
    (fX12_many_L20 fu x1 0 0 q3).bind fun q18 =>
    some (q18, q3))
def fX12_order (x1 : Int) (σ : Sg) : Option (Int × Sg) :=
  (fX12_isCue x1 σ).bind fun q1 =>
  if q1 = 0 then (
    some ((-1), σ))
  else (
    (fX12_plays σ).bind fun q3 =>
    rd q3 40 120 x1 fun v5 =>
    some (v5, q3))
def fX12_seen (x1 : Int) (x2 : Int) (σ : Sg) : Option (Int × Sg) :=
  (fX12_isIn x1 0 20010 σ).bind fun q1 =>
  if q1 = 0 then (
    some ((-1), σ))
  else (
    (fX12_isIn x2 1 9 σ).bind fun q3 =>
    if q3 = 0 then (
      some ((-1), σ))
    else (
      if (σ 0 36) = 60 then (
        some ((-2), σ))
      else (
        wr σ 26 60 (σ 0 36) x1 fun σ5 =>
        wr σ5 27 60 (σ5 0 36) x2 fun σ7 =>
        ck ((σ7 0 36) + 1) fun v9 =>
        st1 (put σ7 0 36 v9) fun σ11 =>
        some ((σ11 0 36), σ11))))
def fX12_unseen  (σ : Sg) : Option (Int × Sg) :=
  st1 (put σ 0 36 0) fun σ1 =>
  some ((σ 0 36), σ1)
def fX12_isShown_P20  (σ : Sg) : Option (Int) :=
  some 1
def fX12_isShown (x1 : Int) (σ : Sg) : Option (Int) :=
  rd σ 41 120 x1 fun v1 =>
  if v1 < 2 then (
    fX12_isShown_P20  σ)
  else (
    rd σ 41 120 x1 fun v4 =>
    if v4 = 5 then (
      fX12_isShown_P20  σ)
    else (
      some 0))
def fX12_mayBe (x1 : Int) (x2 : Int) (σ : Sg) : Option (Int) :=
  rd σ 27 60 x2 fun v1 =>
  rd σ 42 120 x1 fun v3 =>
  rd σ 6 12 v3 fun v5 =>
  if v1 = v5 then (
    rd σ 26 60 x2 fun v7 =>
    rd σ 13 120 x1 fun v9 =>
    ck (v7 - v9) fun v11 =>
    (fX12_amount v11 σ).bind fun q13 =>
    rd σ 42 120 x1 fun v15 =>
    rd σ 7 12 v15 fun v17 =>
    if q13 ≤ v17 then (
      some 1)
    else (
      some 0))
  else (
    some 0)
def fX12_finds_L2P72 (slf : Int → Sg → Option (Int × Sg)) (rec : Int → Int → Sg → Option ((Int × Sg) ⊕ (Sg))) (x1 : Int) (x2 : Int) (σ : Sg) : Option ((Int × Sg) ⊕ (Sg)) :=
  ck (x2 + 1) fun v6 =>
  rec x1 v6 σ
def fX12_finds_L2 (slf : Int → Sg → Option (Int × Sg)) : Nat → Int → Int → Sg → Option ((Int × Sg) ⊕ (Sg))
  | 0, _, _, _ => none
  | n + 1, x1, x2, σ =>
    if x2 < (σ 0 36) then (
      rd σ 44 60 x2 fun v1 =>
      if v1 = 0 then (
        (fX12_mayBe x1 x2 σ).bind fun q8 =>
        if q8 = 0 then (
          fX12_finds_L2P72 slf (fX12_finds_L2 slf n) x1 x2 σ)
        else (
          wrZ σ 44 60 x2 1 fun σ10 =>
          rd σ10 43 60 x2 fun v12 =>
          if v12 < 0 then (
            some (.inl (x2, σ10)))
          else (
            rd σ10 43 60 x2 fun v14 =>
            (slf v14 σ10).bind fun q16 =>
            if q16.1 = 0 then (
              fX12_finds_L2P72 slf (fX12_finds_L2 slf n) x1 x2 q16.2)
            else (
              some (.inl (x2, q16.2))))))
      else (
        fX12_finds_L2P72 slf (fX12_finds_L2 slf n) x1 x2 σ))
    else (
      some (.inr σ))
def fX12_finds : Nat → Int → Sg → Option (Int × Sg)
  | 0, _, _ => none
  | d + 1, x1, σ =>
    (fX12_finds_L2 (fX12_finds d) fu x1 0 σ).bind (Sum.elim (fun a24 =>
      wr a24.2 43 60 a24.1 x1 fun σ27 =>
      some (1, σ27)) (fun a29 =>
      some (0, a29)))
def fX12_matching_L4 : Nat → Int → Int → Int → Sg → Option (Sg)
  | 0, _, _, _, _ => none
  | n + 1, x1, x2, x3, σ =>
    if x3 < (σ 0 36) then (
      wr σ 43 60 x3 (-1) fun σ1 =>
      ck (x3 + 1) fun v3 =>
      fX12_matching_L4 n x1 x2 v3 σ1)
    else (
      some σ)
def fX12_matching_L27P93 (rec : Int → Int → Int → Sg → Option (Int × Sg)) (x1 : Int) (x2 : Int) (x3 : Int) (σ : Sg) : Option (Int × Sg) :=
  ck (x3 + 1) fun v11 =>
  rec x1 x2 v11 σ
def fX12_matching_L54 : Nat → Int → Int → Int → Int → Sg → Option (Sg)
  | 0, _, _, _, _, _ => none
  | n + 1, x1, x2, x3, x4, σ =>
    if x4 < (σ 0 36) then (
      wrZ σ 44 60 x4 0 fun σ15 =>
      ck (x4 + 1) fun v17 =>
      fX12_matching_L54 n x1 x2 x3 v17 σ15)
    else (
      some σ)
def fX12_matching_L27P91 (rec : Int → Int → Int → Sg → Option (Int × Sg)) (x1 : Int) (x3 : Int) (y0 : Int) (y1 : Int) (σ : Sg) : Option (Int × Sg) :=
  ck (y1 + y0) fun v27 =>
  fX12_matching_L27P93 rec x1 v27 x3 σ
def fX12_matching_L27 : Nat → Int → Int → Int → Sg → Option (Int × Sg)
  | 0, _, _, _, _ => none
  | n + 1, x1, x2, x3, σ =>
    if x3 < (σ 0 32) then (
      if x3 = x1 then (
        fX12_matching_L27P93 (fX12_matching_L27 n) x1 x2 x3 σ)
      else (
        (fX12_isShown x3 σ).bind fun q13 =>
        if q13 = 0 then (
          fX12_matching_L27P93 (fX12_matching_L27 n) x1 x2 x3 σ)
        else (
          (fX12_matching_L54 fu x1 x2 x3 0 σ).bind fun q20 =>
          (fX12_finds 62 x3 q20).bind fun q22 =>
          if q22.1 = 0 then (
            fX12_matching_L27P91 (fX12_matching_L27 n) x1 x3 0 x2 q22.2)
          else (
            fX12_matching_L27P91 (fX12_matching_L27 n) x1 x3 1 x2 q22.2))))
    else (
      some (x2, σ))
def fX12_matching (x1 : Int) (σ : Sg) : Option (Int × Sg) :=
  (fX12_matching_L4 fu x1 0 0 σ).bind fun q6 =>
  (fX12_matching_L27 fu x1 0 0 q6).bind fun q33 =>
  some (q33.1, q33.2)
def fX12_duds_L8P30 (rec : Int → Int → Sg → Option (Int)) (x2 : Int) (y0 : Int) (y1 : Int) (σ : Sg) : Option (Int) :=
  ck (y1 + y0) fun v10 =>
  ck (x2 + 1) fun v12 =>
  rec v10 v12 σ
def fX12_duds_L8 : Nat → Int → Int → Sg → Option (Int)
  | 0, _, _, _ => none
  | n + 1, x1, x2, σ =>
    if x2 < (σ 0 32) then (
      (fX12_isShown x2 σ).bind fun q3 =>
      if q3 = 0 then (
        fX12_duds_L8P30 (fX12_duds_L8 n) x2 0 x1 σ)
      else (
        fX12_duds_L8P30 (fX12_duds_L8 n) x2 1 x1 σ))
    else (
      some x1)
def fX12_duds  (σ : Sg) : Option (Int × Sg) :=
  (fX12_plays σ).bind fun q1 =>
  (fX12_duds_L8 fu 0 0 q1).bind fun q16 =>
  (fX12_matching (-1) q1).bind fun q18 =>
  ck (q16 - q18.1) fun v20 =>
  some (v20, q18.2)
def fX12_dud_L29P55 (rec : Int → Int → Int → Sg → Option (Int)) (x1 : Int) (x3 : Int) (y0 : Int) (σ : Sg) : Option (Int) :=
  ck (x3 + 1) fun v11 =>
  rec x1 y0 v11 σ
def fX12_dud_L29P50 (rec : Int → Int → Int → Sg → Option (Int)) (x1 : Int) (x3 : Int) (σ : Sg) : Option (Int) :=
  fX12_dud_L29P55 rec x1 x3 1 σ
def fX12_dud_L29 : Nat → Int → Int → Int → Sg → Option (Int)
  | 0, _, _, _, _ => none
  | n + 1, x1, x2, x3, σ =>
    if x3 < (σ 0 36) then (
      if x2 = 0 then (
        (fX12_mayBe x1 x3 σ).bind fun q13 =>
        if q13 = 0 then (
          fX12_dud_L29P55 (fX12_dud_L29 n) x1 x3 0 σ)
        else (
          fX12_dud_L29P50 (fX12_dud_L29 n) x1 x3 σ))
      else (
        fX12_dud_L29P50 (fX12_dud_L29 n) x1 x3 σ))
    else (
      some x2)
def fX12_dud (x1 : Int) (σ : Sg) : Option (Int × Sg) :=
  (fX12_isCue x1 σ).bind fun q1 =>
  if q1 = 0 then (
    some ((-1), σ))
  else (
    (fX12_plays σ).bind fun q3 =>
    (fX12_isShown x1 q3).bind fun q5 =>
    if q5 = 0 then (
      some ((-2), q3))
    else (
      (fX12_dud_L29 fu x1 0 0 q3).bind fun q18 =>
      if q18 = 0 then (
        some (2, q3))
      else (
        (fX12_matching x1 q3).bind fun q20 =>
        (fX12_matching (-1) q20.2).bind fun q22 =>
        if q20.1 = q22.1 then (
          some (1, q22.2))
        else (
          some (0, q22.2)))))
def fX12_strange  (σ : Sg) : Option (Int × Sg) :=
  (fX12_plays σ).bind fun q1 =>
  (fX12_matching (-1) q1).bind fun q3 =>
  ck ((q1 0 36) - q3.1) fun v5 =>
  some (v5, q3.2)
def fX12_tape_L52 : Nat → Int → Int → Int → Sg → Option (Sg)
  | 0, _, _, _, _ => none
  | n + 1, x1, x3, x4, σ =>
    if x4 < 100 then (
      ck (100 * x1) fun v9 =>
      ck (v9 + x4) fun v11 =>
      wr σ 31 600 v11 0 fun σ13 =>
      ck (x4 + 1) fun v15 =>
      fX12_tape_L52 n x1 x3 v15 σ13)
    else (
      some σ)
def fX12_tape (x1 : Int) (x2 : Int) (x3 : Int) (σ : Sg) : Option (Int × Sg) :=
  (fX12_isTape x1 σ).bind fun q1 =>
  if q1 = 0 then (
    some ((-1), σ))
  else (
    (fX12_isIn x2 1 4 σ).bind fun q3 =>
    if q3 = 0 then (
      some ((-1), σ))
    else (
      if x3 ≤ 100 then (
        if x3 < 0 then (
          (fX12_host (-14) σ).bind fun q20 =>
          some (q20.1, q20.2))
        else (
          wr σ 28 6 x1 x2 fun σ5 =>
          wr σ5 29 6 x1 x3 fun σ7 =>
          (fX12_tape_L52 fu x1 x3 0 σ7).bind fun q18 =>
          some (x3, q18)))
      else (
        some ((-1), σ))))
def fX12_keep_L28 : Nat → Int → Int → Sg → Option (Sg)
  | 0, _, _, _ => none
  | n + 1, x1, x2, σ =>
    if x2 < (σ 0 32) then (
      ck (120 * x1) fun v7 =>
      ck (v7 + x2) fun v9 =>
      ck (4 * v9) fun v11 =>
      rd σ 13 120 x2 fun v13 =>
      wr σ 30 2880 v11 v13 fun σ15 =>
      ck (v11 + 1) fun v17 =>
      rd σ15 14 120 x2 fun v19 =>
      wr σ15 30 2880 v17 v19 fun σ21 =>
      ck (v11 + 2) fun v23 =>
      rd σ21 15 120 x2 fun v25 =>
      wr σ21 30 2880 v23 v25 fun σ27 =>
      ck (v11 + 3) fun v29 =>
      rd σ27 16 120 x2 fun v31 =>
      wr σ27 30 2880 v29 v31 fun σ33 =>
      ck (x2 + 1) fun v35 =>
      fX12_keep_L28 n x1 v35 σ33)
    else (
      some σ)
def fX12_keep (x1 : Int) (σ : Sg) : Option (Int × Sg) :=
  (fX12_isTape x1 σ).bind fun q1 =>
  if q1 = 0 then (
    some ((-1), σ))
  else (
    wr σ 28 6 x1 5 fun σ3 =>
    wr σ3 29 6 x1 (σ3 0 32) fun σ5 =>
    (fX12_keep_L28 fu x1 0 σ5).bind fun q38 =>
    some ((q38 0 32), q38))
def fX12_wrongShow (x1 : Int) (σ : Sg) : Option (Int × Sg) :=
  (fX12_isTape x1 σ).bind fun q1 =>
  if q1 = 0 then (
    some ((-1), σ))
  else (
    rd σ 28 6 x1 fun v3 =>
    if v3 = 0 then (
      (fX12_host (-11) σ).bind fun q10 =>
      some (q10.1, q10.2))
    else (
      rd σ 28 6 x1 fun v5 =>
      if v5 = 5 then (
        some (0, σ))
      else (
        (fX12_host (-12) σ).bind fun q7 =>
        some (q7.1, q7.2))))
def fX12_back_L26P96 (rec : Int → Int → Int → Sg → Option ((Unit) ⊕ (Unit))) (x1 : Int) (x3 : Int) (x4 : Int) (σ : Sg) : Option ((Unit) ⊕ (Unit)) :=
  ck (x4 + 1) fun v30 =>
  rec x1 x3 v30 σ
def fX12_back_L26 : Nat → Int → Int → Int → Sg → Option ((Unit) ⊕ (Unit))
  | 0, _, _, _, _ => none
  | n + 1, x1, x3, x4, σ =>
    rd σ 29 6 x1 fun v7 =>
    if x4 < v7 then (
      ck (4 * x4) fun v9 =>
      ck (x3 + v9) fun v11 =>
      ck (v11 + 1) fun v13 =>
      rd σ 30 2880 v13 fun v15 =>
      (fX12_isKind v15 σ).bind fun q17 =>
      if q17 = 0 then (
        some (.inl ()))
      else (
        ck (4 * x4) fun v19 =>
        ck (x3 + v19) fun v21 =>
        ck (v21 + 2) fun v23 =>
        rd σ 30 2880 v23 fun v25 =>
        if v25 < 0 then (
          fX12_back_L26P96 (fX12_back_L26 n) x1 x3 x4 σ)
        else (
          ck (4 * x4) fun v32 =>
          ck (x3 + v32) fun v34 =>
          ck (v34 + 2) fun v36 =>
          rd σ 30 2880 v36 fun v38 =>
          (fX12_isBarge v38 σ).bind fun q40 =>
          if q40 = 0 then (
            some (.inl ()))
          else (
            fX12_back_L26P96 (fX12_back_L26 n) x1 x3 x4 σ))))
    else (
      some (.inr ()))
def fX12_back_L105 : Nat → Int → Int → Int → Sg → Option ((Unit) ⊕ (Unit))
  | 0, _, _, _, _ => none
  | n + 1, x1, x3, x4, σ =>
    rd σ 29 6 x1 fun v49 =>
    if x4 < v49 then (
      ck (4 * x4) fun v51 =>
      ck (x3 + v51) fun v53 =>
      rd σ 30 2880 v53 fun v55 =>
      ck (4 * x4) fun v57 =>
      ck (x3 + v57) fun v59 =>
      ck (v59 + 1) fun v61 =>
      rd σ 30 2880 v61 fun v63 =>
      rd σ 2 12 v63 fun v65 =>
      if v55 < v65 then (
        some (.inl ()))
      else (
        ck (x4 + 1) fun v67 =>
        fX12_back_L105 n x1 x3 v67 σ))
    else (
      some (.inr ()))
def fX12_back_L170 : Nat → Int → Int → Sg → Option (Sg)
  | 0, _, _, _ => none
  | n + 1, x3, x4, σ =>
    if x4 < (σ 0 32) then (
      ck (4 * x4) fun v78 =>
      ck (x3 + v78) fun v80 =>
      rd σ 30 2880 v80 fun v82 =>
      wr σ 13 120 x4 v82 fun σ84 =>
      ck (4 * x4) fun v86 =>
      ck (x3 + v86) fun v88 =>
      ck (v88 + 1) fun v90 =>
      rd σ84 30 2880 v90 fun v92 =>
      wr σ84 14 120 x4 v92 fun σ94 =>
      ck (4 * x4) fun v96 =>
      ck (x3 + v96) fun v98 =>
      ck (v98 + 2) fun v100 =>
      rd σ94 30 2880 v100 fun v102 =>
      wr σ94 15 120 x4 v102 fun σ104 =>
      ck (4 * x4) fun v106 =>
      ck (x3 + v106) fun v108 =>
      ck (v108 + 3) fun v110 =>
      rd σ104 30 2880 v110 fun v112 =>
      wr σ104 16 120 x4 v112 fun σ114 =>
      ck (x4 + 1) fun v116 =>
      fX12_back_L170 n x3 v116 σ114)
    else (
      some σ)
def fX12_back (x1 : Int) (σ : Sg) : Option (Int × Sg) :=
  st1 (put σ 0 54 0) fun σ1 =>
  (fX12_wrongShow x1 σ1).bind fun q3 =>
  if q3.1 = 0 then (
    ck (480 * x1) fun v5 =>
    (fX12_back_L26 fu x1 v5 0 q3.2).bind (Sum.elim (fun a47 =>
      some ((-3), q3.2)) (fun a48 =>
      (fX12_back_L105 fu x1 v5 0 q3.2).bind (Sum.elim (fun a72 =>
        some ((-5), q3.2)) (fun a73 =>
        rd q3.2 29 6 x1 fun v74 =>
        (fX12_comes v74 q3.2).bind fun q76 =>
        (fX12_back_L170 fu v5 0 q76).bind fun q119 =>
        some ((q119 0 32), q119))))))
  else (
    some (q3.1, q3.2))
def fX12_toss_L17P53 (rec : Int → Int → Int → Sg → Option (Int)) (x1 : Int) (x4 : Int) (y0 : Int) (y1 : Int) (σ : Sg) : Option (Int) :=
  ck (y1 + y0) fun v20 =>
  ck (x4 + 1) fun v22 =>
  rec x1 v20 v22 σ
def fX12_toss_L17 : Nat → Int → Int → Int → Sg → Option (Int)
  | 0, _, _, _, _ => none
  | n + 1, x1, x3, x4, σ =>
    rd σ 29 6 x1 fun v3 =>
    if x4 < v3 then (
      ck (120 * x1) fun v5 =>
      ck (v5 + x4) fun v7 =>
      ck (4 * v7) fun v9 =>
      ck (v9 + 2) fun v11 =>
      rd σ 30 2880 v11 fun v13 =>
      if v13 < 0 then (
        fX12_toss_L17P53 (fX12_toss_L17 n) x1 x4 1 x3 σ)
      else (
        fX12_toss_L17P53 (fX12_toss_L17 n) x1 x4 0 x3 σ))
    else (
      some x3)
def fX12_toss (x1 : Int) (σ : Sg) : Option (Int × Sg) :=
  (fX12_wrongShow x1 σ).bind fun q1 =>
  if q1.1 = 0 then (
    (fX12_toss_L17 fu x1 0 0 q1.2).bind fun q26 =>
    if q26 = 0 then (
      (fX12_host (-15) q1.2).bind fun q28 =>
      some (q28.1, q28.2))
    else (
      some (q26, q1.2)))
  else (
    some (q1.1, q1.2))
def fX12_clear (x1 : Int) (σ : Sg) : Option (Int × Sg) :=
  (fX12_isTape x1 σ).bind fun q1 =>
  if q1 = 0 then (
    some ((-1), σ))
  else (
    rd σ 28 6 x1 fun v3 =>
    wr σ 28 6 x1 0 fun σ5 =>
    wr σ5 29 6 x1 0 fun σ7 =>
    some (v3, σ7))
def fX12_narrow (x0 : Int) (x1 : Int) (σ : Sg) : Option (Int) :=
  if x0 = 1 then (
    some (toB (toI x1)))
  else (
    if x0 = 2 then (
      some (toS (toI x1)))
    else (
      if x0 = 3 then (
        some (toI x1))
      else (
        some x1)))
def fX12_put (x1 : Int) (x2 : Int) (x3 : Int) (σ : Sg) : Option (Int × Sg) :=
  (fX12_isTape x1 σ).bind fun q1 =>
  if q1 = 0 then (
    some ((-1), σ))
  else (
    rd σ 28 6 x1 fun v3 =>
    if v3 = 0 then (
      (fX12_host (-11) σ).bind fun q29 =>
      some (q29.1, q29.2))
    else (
      rd σ 28 6 x1 fun v5 =>
      if v5 = 5 then (
        (fX12_host (-12) σ).bind fun q26 =>
        some (q26.1, q26.2))
      else (
        rd σ 29 6 x1 fun v7 =>
        ck (v7 - 1) fun v9 =>
        (fX12_isIn x2 0 v9 σ).bind fun q11 =>
        if q11 = 0 then (
          (fX12_host (-13) σ).bind fun q23 =>
          some (q23.1, q23.2))
        else (
          ck (100 * x1) fun v13 =>
          ck (v13 + x2) fun v15 =>
          rd σ 28 6 x1 fun v17 =>
          (fX12_narrow v17 x3 σ).bind fun q19 =>
          wr σ 31 600 v15 q19 fun σ21 =>
          some (1, σ21)))))
def fX12_at_P60 (x1 : Int) (x2 : Int) (σ : Sg) : Option (Int × Sg) :=
  if (σ 0 38) = 0 then (
    ck (100 * x1) fun v18 =>
    ck (v18 + x2) fun v20 =>
    rd σ 31 600 v20 fun v22 =>
    some (v22, σ))
  else (
    some (0, σ))
def fX12_at_P55 (x1 : Int) (x2 : Int) (σ : Sg) : Option (Int × Sg) :=
  st1 (put σ 0 38 2) fun σ25 =>
  fX12_at_P60 x1 x2 σ25
def fX12_at (x1 : Int) (x2 : Int) (σ : Sg) : Option (Int × Sg) :=
  st1 (put σ 0 38 0) fun σ1 =>
  (fX12_isTape x1 σ1).bind fun q3 =>
  if q3 = 0 then (
    st1 (put σ1 0 38 1) fun σ38 =>
    fX12_at_P60 x1 x2 σ38)
  else (
    rd σ1 28 6 x1 fun v5 =>
    if v5 = 0 then (
      fX12_at_P55 x1 x2 σ1)
    else (
      rd σ1 28 6 x1 fun v27 =>
      if v27 = 5 then (
        fX12_at_P55 x1 x2 σ1)
      else (
        rd σ1 29 6 x1 fun v29 =>
        ck (v29 - 1) fun v31 =>
        (fX12_isIn x2 0 v31 σ1).bind fun q33 =>
        if q33 = 0 then (
          fX12_at_P55 x1 x2 σ1)
        else (
          fX12_at_P60 x1 x2 σ1))))
def fX12_copy_P34  (σ : Sg) : Option (Int × Sg) :=
  (fX12_host (-11) σ).bind fun q10 =>
  some (q10.1, q10.2)
def fX12_copy_P66  (σ : Sg) : Option (Int × Sg) :=
  (fX12_host (-12) σ).bind fun q19 =>
  some (q19.1, q19.2)
def fX12_copy_P114  (σ : Sg) : Option (Int × Sg) :=
  (fX12_host (-13) σ).bind fun q28 =>
  some (q28.1, q28.2)
def fX12_copy_L124P149 (rec : Int → Int → Int → Int → Int → Int → Sg → Option (Sg)) (x1 : Int) (x2 : Int) (x3 : Int) (x4 : Int) (x5 : Int) (x6 : Int) (y0 : Int) (σ : Sg) : Option (Sg) :=
  ck (100 * x3) fun v61 =>
  ck (v61 + x4) fun v63 =>
  ck (v63 + y0) fun v65 =>
  ck (100 * x1) fun v67 =>
  ck (v67 + x2) fun v69 =>
  ck (v69 + y0) fun v71 =>
  rd σ 31 600 v71 fun v73 =>
  wr σ 31 600 v65 v73 fun σ75 =>
  ck (x6 + 1) fun v77 =>
  rec x1 x2 x3 x4 x5 v77 σ75
def fX12_copy_L124 : Nat → Int → Int → Int → Int → Int → Int → Sg → Option (Sg)
  | 0, _, _, _, _, _, _, _ => none
  | n + 1, x1, x2, x3, x4, x5, x6, σ =>
    if x6 < x5 then (
      if x2 ≤ x4 then (
        ck (x5 - 1) fun v38 =>
        ck (v38 - x6) fun v40 =>
        fX12_copy_L124P149 (fX12_copy_L124 n) x1 x2 x3 x4 x5 x6 v40 σ)
      else (
        fX12_copy_L124P149 (fX12_copy_L124 n) x1 x2 x3 x4 x5 x6 x6 σ))
    else (
      some σ)
def fX12_copy (x1 : Int) (x2 : Int) (x3 : Int) (x4 : Int) (x5 : Int) (σ : Sg) : Option (Int × Sg) :=
  (fX12_isTape x1 σ).bind fun q1 =>
  if q1 = 0 then (
    some ((-1), σ))
  else (
    (fX12_isTape x3 σ).bind fun q3 =>
    if q3 = 0 then (
      some ((-1), σ))
    else (
      rd σ 28 6 x1 fun v5 =>
      if v5 = 0 then (
        fX12_copy_P34  σ)
      else (
        rd σ 28 6 x3 fun v12 =>
        if v12 = 0 then (
          fX12_copy_P34  σ)
        else (
          rd σ 28 6 x1 fun v14 =>
          if v14 = 5 then (
            fX12_copy_P66  σ)
          else (
            rd σ 28 6 x1 fun v21 =>
            rd σ 28 6 x3 fun v23 =>
            if v21 = v23 then (
              if x5 < 0 then (
                fX12_copy_P114  σ)
              else (
                if x2 < 0 then (
                  fX12_copy_P114  σ)
                else (
                  if x4 < 0 then (
                    fX12_copy_P114  σ)
                  else (
                    rd σ 29 6 x1 fun v30 =>
                    ck (v30 - x2) fun v32 =>
                    if x5 ≤ v32 then (
                      rd σ 29 6 x3 fun v34 =>
                      ck (v34 - x4) fun v36 =>
                      if x5 ≤ v36 then (
                        (fX12_copy_L124 fu x1 x2 x3 x4 x5 0 σ).bind fun q81 =>
                        some (x5, q81))
                      else (
                        fX12_copy_P114  σ))
                    else (
                      fX12_copy_P114  σ)))))
            else (
              fX12_copy_P66  σ))))))
def fX12_count_L119P142 (rec : Int → Int → Sg → Option (Int)) (x3 : Int) (y0 : Int) (y1 : Int) (σ : Sg) : Option (Int) :=
  ck (y1 + y0) fun v16 =>
  ck (x3 + 1) fun v18 =>
  rec v16 v18 σ
def fX12_count_L119 : Nat → Int → Int → Sg → Option (Int)
  | 0, _, _, _ => none
  | n + 1, x2, x3, σ =>
    if x3 < (σ 0 32) then (
      rd σ 15 120 x3 fun v9 =>
      if v9 < 0 then (
        fX12_count_L119P142 (fX12_count_L119 n) x3 1 x2 σ)
      else (
        fX12_count_L119P142 (fX12_count_L119 n) x3 0 x2 σ))
    else (
      some x2)
def fX12_count_L82P102 (rec : Int → Int → Sg → Option (Int)) (x3 : Int) (y0 : Int) (y1 : Int) (σ : Sg) : Option (Int) :=
  ck (y1 + y0) fun v31 =>
  ck (x3 + 1) fun v33 =>
  rec v31 v33 σ
def fX12_count_L82 : Nat → Int → Int → Sg → Option (Int)
  | 0, _, _, _ => none
  | n + 1, x2, x3, σ =>
    if x3 < 6 then (
      (fX12_isBarge x3 σ).bind fun q24 =>
      if q24 = 0 then (
        fX12_count_L82P102 (fX12_count_L82 n) x3 0 x2 σ)
      else (
        fX12_count_L82P102 (fX12_count_L82 n) x3 1 x2 σ))
    else (
      some x2)
def fX12_count_L50P70 (rec : Int → Int → Sg → Option (Int)) (x3 : Int) (y0 : Int) (y1 : Int) (σ : Sg) : Option (Int) :=
  ck (y1 + y0) fun v46 =>
  ck (x3 + 1) fun v48 =>
  rec v46 v48 σ
def fX12_count_L50 : Nat → Int → Int → Sg → Option (Int)
  | 0, _, _, _ => none
  | n + 1, x2, x3, σ =>
    if x3 < 12 then (
      (fX12_isKind x3 σ).bind fun q39 =>
      if q39 = 0 then (
        fX12_count_L50P70 (fX12_count_L50 n) x3 0 x2 σ)
      else (
        fX12_count_L50P70 (fX12_count_L50 n) x3 1 x2 σ))
    else (
      some x2)
def fX12_count (x1 : Int) (σ : Sg) : Option (Int) :=
  if x1 = 0 then (
    (fX12_count_L50 fu 0 0 σ).bind fun q52 =>
    some q52)
  else (
    if x1 = 1 then (
      (fX12_count_L82 fu 0 0 σ).bind fun q37 =>
      some q37)
    else (
      if x1 = 2 then (
        some (σ 0 32))
      else (
        if x1 = 3 then (
          (fX12_count_L119 fu 0 0 σ).bind fun q22 =>
          some q22)
        else (
          if x1 = 4 then (
            some (σ 0 33))
          else (
            if x1 = 5 then (
              some (σ 0 34))
            else (
              if x1 = 6 then (
                some (σ 0 36))
              else (
                if x1 = 7 then (
                  some (σ 0 37))
                else (
                  some (-1)))))))))
