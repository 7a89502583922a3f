/-! THE REFERENCE, PURE: printed by wip/whole/gen.py out of the bytecode -/
def f_Md_thrown (st : pu_St) : Option Int32 :=
  some (st.1 0)
def f_Md_is (st : pu_St) (x1 x2 : Int32) : Option Int32 :=
  if x1 < (100 * x2) then
    some 0
  else
    (pu_ld (st.2 0) 10 x2).bind fun v2 =>
    if ((100 * x2) + v2) ≤ x1 then
      some 0
    else
      some 1
def f_Md_may (st : pu_St) (x1 x2 : Int32) : Option Int32 :=
  (pu_ld (st.2 1) 6 (x1 - 100)).bind fun v1 =>
  if (v1 &&& x2) ≤ 0 then
    some 0
  else
    some 1
def f_Md_first (st : pu_St) (x1 x2 x3 x4 : Int32) : Option Int32 :=
  if x1 = 0 then
    some 1
  else
    (f_Md_is st x2 1).bind fun v2 =>
    if v2 = 0 then
      some 1
    else
      (f_Md_may st x2 x3).bind fun v4 =>
      if v4 = 0 then
        some 2
      else
        if x4 = 0 then
          some 3
        else
          some 0
def f_Md_lies (st : pu_St) (x0 x1 x2 : Int32) : Option Int32 :=
  if x0 < x1 then
    some 0
  else
    if x2 < x0 then
      some 0
    else
      some 1
def f_Md_then (st : pu_St) (x0 x1 x2 : Int32) : Option Int32 :=
  if 0 < x0 then
    some x0
  else
    if x1 = 0 then
      some x2
    else
      some x0
def f_Md_holds_b44 (st : pu_St) (x1 z0 : Int32) : Option (Int32 × pu_St) :=
  if x1 = 0 then
    some (1, (va_up st.1 0 z0, st.2))
  else
    some (0, (va_up st.1 0 z0, st.2))
def f_Md_holds_b13 (st : pu_St) (x1 z0 : Int32) : Option (Int32 × pu_St) :=
  if x1 = 0 then
    f_Md_holds_b44 (va_up st.1 1 z0, st.2) x1 0
  else
    if x1 = 1 then
      f_Md_holds_b44 (va_up st.1 1 z0, st.2) x1 1
    else
      if 4 ≤ x1 then
        f_Md_holds_b44 (va_up st.1 1 z0, st.2) x1 3
      else
        f_Md_holds_b44 (va_up st.1 1 z0, st.2) x1 2
def f_Md_holds (st : pu_St) (x1 : Int32) : Option (Int32 × pu_St) :=
  if x1 = 0 then
    f_Md_holds_b13 st x1 (st.1 1)
  else
    f_Md_holds_b13 st x1 x1
def f_Md_made (st : pu_St) (x1 : Int32) : Option (Int32 × pu_St) :=
  (pu_ld (st.2 0) 10 x1).bind fun v1 =>
  (pu_sd (st.2 0) 10 x1 (v1 + 1)).bind fun g2 =>
  (pu_ld g2 10 x1).bind fun v3 =>
  some ((((100 * x1) + v3) - 1), (st.1, va_up st.2 0 g2))
def f_Md_desk_b63 (st : pu_St) (x1 x2 x3 z0 z1 : Int32) : Option (Int32 × pu_St) :=
  (f_Md_then st z1 z0 5).bind fun v9 =>
  (f_Md_holds st v9).bind fun q10 =>
  if q10.1 = 0 then
    some (0, q10.2)
  else
    (pu_ld (q10.2.2 0) 10 1).bind fun v12 =>
    (pu_sd (q10.2.2 1) 6 v12 x2).bind fun g13 =>
    (f_Md_made (q10.2.1, va_up q10.2.2 1 g13) 1).bind fun q14 =>
    some (q14.1, q14.2)
def f_Md_desk_b58 (st : pu_St) (x1 x2 x3 z0 : Int32) : Option (Int32 × pu_St) :=
  f_Md_desk_b63 st x1 x2 x3 1 z0
def f_Md_desk_b20 (st : pu_St) (x1 x2 z0 z1 z2 z3 : Int32) : Option (Int32 × pu_St) :=
  (f_Md_first st z3 z2 z1 z0).bind fun v3 =>
  (f_Md_lies st x2 0 63).bind fun v4 =>
  (f_Md_then st v3 v4 4).bind fun v5 =>
  if 0 < v5 then
    f_Md_desk_b58 st x1 x2 v5 v5
  else
    (pu_ld (st.2 1) 6 (x1 - 100)).bind fun v7 =>
    if (x2 &&& (v7 ^^^ (-1))) = 0 then
      f_Md_desk_b58 st x1 x2 v5 v5
    else
      f_Md_desk_b63 st x1 x2 v5 0 v5
def f_Md_desk (st : pu_St) (x1 x2 : Int32) : Option (Int32 × pu_St) :=
  (pu_ld (st.2 0) 10 1).bind fun v1 =>
  if 6 ≤ v1 then
    f_Md_desk_b20 st x1 x2 0 1 x1 1
  else
    f_Md_desk_b20 st x1 x2 1 1 x1 1
def f_Md_day_b76 (st : pu_St) (x1 x2 z0 : Int32) : Option (Int32 × pu_St) :=
  if x2 = 0 then
    some (0, (va_up st.1 2 z0, st.2))
  else
    some (z0, (va_up st.1 2 z0, st.2))
def f_Md_day_b55 (st : pu_St) (x1 x2 z0 : Int32) : Option (Int32 × pu_St) :=
  if x2 = 0 then
    f_Md_day_b76 (va_up st.1 0 z0, st.2) x1 x2 (st.1 2)
  else
    f_Md_day_b76 (va_up st.1 0 z0, st.2) x1 x2 ((st.1 2) + x1)
def f_Md_day_b42 (st : pu_St) (x1 x2 z0 : Int32) : Option (Int32 × pu_St) :=
  if x2 = 0 then
    f_Md_day_b55 (va_up st.1 1 z0, st.2) x1 x2 1
  else
    f_Md_day_b55 (va_up st.1 1 z0, st.2) x1 x2 0
def f_Md_day_b28 (st : pu_St) (x1 z0 : Int32) : Option (Int32 × pu_St) :=
  if z0 = 0 then
    f_Md_day_b42 st x1 z0 4
  else
    f_Md_day_b42 st x1 z0 (st.1 1)
def f_Md_day_b27 (st : pu_St) (x1 : Int32) : Option (Int32 × pu_St) :=
  f_Md_day_b28 st x1 0
def f_Md_day (st : pu_St) (x1 : Int32) : Option (Int32 × pu_St) :=
  (f_Md_lies st x1 0 1000).bind fun v1 =>
  if v1 = 0 then
    f_Md_day_b27 st x1
  else
    if 9999 < ((st.1 2) + x1) then
      f_Md_day_b27 st x1
    else
      f_Md_day_b28 st x1 1
def f_Md_site_b20 (st : pu_St) (x1 z0 z1 z2 z3 : Int32) : Option (Int32 × pu_St) :=
  (f_Md_first st z3 z2 z1 z0).bind fun v3 =>
  (f_Md_holds st v3).bind fun q4 =>
  if q4.1 = 0 then
    some (0, q4.2)
  else
    (f_Md_made q4.2 2).bind fun q6 =>
    some (q6.1, q6.2)
def f_Md_site (st : pu_St) (x1 : Int32) : Option (Int32 × pu_St) :=
  (pu_ld (st.2 0) 10 2).bind fun v1 =>
  if 4 ≤ v1 then
    f_Md_site_b20 st x1 0 2 x1 1
  else
    f_Md_site_b20 st x1 1 2 x1 1
def f_Md_context_b26 (st : pu_St) (x1 x2 z0 z1 z2 z3 : Int32) : Option (Int32 × pu_St) :=
  (f_Md_first st z3 z2 z1 z0).bind fun v4 =>
  (f_Md_holds st v4).bind fun q5 =>
  if q5.1 = 0 then
    some (0, q5.2)
  else
    (pu_ld (q5.2.2 0) 10 3).bind fun v7 =>
    (pu_sd (q5.2.2 2) 20 v7 x2).bind fun g8 =>
    (pu_ld (q5.2.2 0) 10 3).bind fun v9 =>
    (pu_sd (q5.2.2 3) 20 v9 0).bind fun g10 =>
    (pu_ld (q5.2.2 0) 10 3).bind fun v11 =>
    (pu_sd (q5.2.2 4) 20 v11 999).bind fun g12 =>
    (f_Md_made (((q5.2.1, va_up q5.2.2 2 g8).1, va_up (q5.2.1, va_up q5.2.2 2 g8).2 3 g10).1, va_up ((q5.2.1, va_up q5.2.2 2 g8).1, va_up (q5.2.1, va_up q5.2.2 2 g8).2 3 g10).2 4 g12) 3).bind fun q13 =>
    some (q13.1, q13.2)
def f_Md_context (st : pu_St) (x1 x2 : Int32) : Option (Int32 × pu_St) :=
  (f_Md_is st x2 2).bind fun v1 =>
  (pu_ld (st.2 0) 10 3).bind fun v2 =>
  if 20 ≤ v2 then
    f_Md_context_b26 st x1 x2 0 2 x1 v1
  else
    f_Md_context_b26 st x1 x2 1 2 x1 v1
def f_Md_follow_b37 (k : pu_St → Int32 → Option (Int32 × pu_St)) : Nat → pu_St → Int32 → Int32 → Option (Int32 × pu_St)
  | 0, _, _, _ => none
  | n + 1, st, x1, x2 =>
    if 8000 ≤ x2 then
      k st x1
    else
      (pu_ld (st.2 6) 400 ((20 * (x2 / 400)) + ((x2 / 20) - (x2 / 20) / 20 * 20))).bind fun v7 =>
      if v7 = 0 then
        f_Md_follow_b37 k n st x1 (x2 + 1)
      else
        (pu_ld (st.2 6) 400 ((20 * ((x2 / 20) - (x2 / 20) / 20 * 20)) + (x2 - x2 / 20 * 20))).bind fun v9 =>
        if v9 = 0 then
          f_Md_follow_b37 k n st x1 (x2 + 1)
        else
          (pu_ld (st.2 6) 400 ((20 * (x2 / 400)) + (x2 - x2 / 20 * 20))).bind fun v11 =>
          if v11 = 0 then
            (pu_sd (st.2 6) 400 ((20 * (x2 / 400)) + (x2 - x2 / 20 * 20)) 1).bind fun g13 =>
            f_Md_follow_b37 k n (st.1, va_up st.2 6 g13) 1 (x2 + 1)
          else
            f_Md_follow_b37 k n st x1 (x2 + 1)
def f_Md_follow_b29 : Nat → pu_St → Int32 → Option (Int32 × pu_St)
  | 0, _, _ => none
  | n + 1, st, x1 =>
    if x1 = 0 then
      some (0, st)
    else
      f_Md_follow_b37 (f_Md_follow_b29 n) pu_fu st 0 0
def f_Md_follow_b2 : Nat → pu_St → Int32 → Option (Int32 × pu_St)
  | 0, _, _ => none
  | n + 1, st, x1 =>
    if 400 ≤ x1 then
      f_Md_follow_b29 pu_fu st 1
    else
      (pu_ld (st.2 5) 400 x1).bind fun v2 =>
      (pu_bo v2).bind fun b3 =>
      (pu_sd (st.2 6) 400 x1 b3).bind fun g4 =>
      f_Md_follow_b2 n (st.1, va_up st.2 6 g4) (x1 + 1)
def f_Md_follow (st : pu_St) : Option (Int32 × pu_St) :=
  f_Md_follow_b2 pu_fu st 0
def f_Md_earliest_b9 : Nat → pu_St → Int32 → Int32 → Int32 → Option Int32
  | 0, _, _, _, _ => none
  | n + 1, st, x1, x2, x3 =>
    (pu_ld (st.2 0) 10 3).bind fun v2 =>
    if v2 ≤ x3 then
      some x2
    else
      (pu_ld (st.2 6) 400 ((20 * x1) + x3)).bind fun v4 =>
      if v4 = 0 then
        f_Md_earliest_b9 n st x1 x2 (x3 + 1)
      else
        (pu_ld (st.2 3) 20 x3).bind fun v6 =>
        if v6 ≤ x2 then
          f_Md_earliest_b9 n st x1 x2 (x3 + 1)
        else
          (pu_ld (st.2 3) 20 x3).bind fun v8 =>
          f_Md_earliest_b9 n st x1 v8 (x3 + 1)
def f_Md_earliest (st : pu_St) (x1 : Int32) : Option Int32 :=
  (pu_ld (st.2 3) 20 x1).bind fun v1 =>
  f_Md_earliest_b9 pu_fu st x1 v1 0
def f_Md_latest_b9 : Nat → pu_St → Int32 → Int32 → Int32 → Option Int32
  | 0, _, _, _, _ => none
  | n + 1, st, x1, x2, x3 =>
    (pu_ld (st.2 0) 10 3).bind fun v2 =>
    if v2 ≤ x3 then
      some x2
    else
      (pu_ld (st.2 6) 400 ((20 * x3) + x1)).bind fun v4 =>
      if v4 = 0 then
        f_Md_latest_b9 n st x1 x2 (x3 + 1)
      else
        (pu_ld (st.2 4) 20 x3).bind fun v6 =>
        if x2 ≤ v6 then
          f_Md_latest_b9 n st x1 x2 (x3 + 1)
        else
          (pu_ld (st.2 4) 20 x3).bind fun v8 =>
          f_Md_latest_b9 n st x1 v8 (x3 + 1)
def f_Md_latest (st : pu_St) (x1 : Int32) : Option Int32 :=
  (pu_ld (st.2 4) 20 x1).bind fun v1 =>
  f_Md_latest_b9 pu_fu st x1 v1 0
def f_Md_fits_b8 : Nat → pu_St → Int32 → Int32 → Option (Int32 × pu_St)
  | 0, _, _, _ => none
  | n + 1, st, x1, x2 =>
    (pu_ld (st.2 0) 10 3).bind fun v2 =>
    if v2 ≤ x2 then
      (pu_bo x1).bind fun b4 =>
      some (b4, st)
    else
      if x1 = 0 then
        f_Md_fits_b8 n st 0 (x2 + 1)
      else
        (f_Md_earliest st x2).bind fun v6 =>
        (f_Md_latest st x2).bind fun v7 =>
        if v7 < v6 then
          f_Md_fits_b8 n st 0 (x2 + 1)
        else
          f_Md_fits_b8 n st 1 (x2 + 1)
def f_Md_fits (st : pu_St) : Option (Int32 × pu_St) :=
  (f_Md_follow st).bind fun q1 =>
  f_Md_fits_b8 pu_fu q1.2 1 0
def f_Md_above_b224 (st : pu_St) (x1 x2 x3 x4 x5 x6 x7 : Int32) : Option (Int32 × pu_St) :=
  (f_Md_holds st x4).bind fun q23 =>
  if q23.1 = 0 then
    some (0, q23.2)
  else
    if x7 = 0 then
      some (1, q23.2)
    else
      some (0, q23.2)
def f_Md_above_b223 (st : pu_St) (x1 x2 x3 x4 x5 x6 x7 x8 z0 z1 : Int32) : Option (Int32 × pu_St) :=
  (pu_bo z0).bind fun b28 =>
  (pu_sd (st.2 5) 400 z1 b28).bind fun g29 =>
  f_Md_above_b224 (st.1, va_up st.2 5 g29) x1 x2 x3 x4 x5 x6 x7
def f_Md_above_b218 (st : pu_St) (x1 x2 x3 x4 x5 x6 x7 x8 z0 : Int32) : Option (Int32 × pu_St) :=
  f_Md_above_b223 st x1 x2 x3 x4 x5 x6 x7 x8 1 z0
def f_Md_above_b194 (st : pu_St) (x1 x2 x3 x4 x5 x6 x7 x8 z0 : Int32) : Option (Int32 × pu_St) :=
  if z0 = 0 then
    f_Md_above_b218 st x1 x2 x3 z0 x5 x6 x7 x8 ((20 * x5) + x6)
  else
    if x8 = 0 then
      f_Md_above_b223 st x1 x2 x3 z0 x5 x6 x7 x8 0 ((20 * x5) + x6)
    else
      f_Md_above_b218 st x1 x2 x3 z0 x5 x6 x7 x8 ((20 * x5) + x6)
def f_Md_above_b140 (st : pu_St) (x1 x2 x3 x4 x5 x6 x7 z0 z1 : Int32) : Option (Int32 × pu_St) :=
  (f_Md_then st z1 z0 7).bind fun v17 =>
  if v17 = 0 then
    (pu_ld (st.2 5) 400 ((20 * x5) + x6)).bind fun v19 =>
    (pu_sd (st.2 5) 400 ((20 * x5) + x6) 1).bind fun g20 =>
    (f_Md_fits (st.1, va_up st.2 5 g20)).bind fun q21 =>
    if q21.1 = 0 then
      f_Md_above_b194 q21.2 x1 x2 x3 v17 x5 x6 x7 v19 8
    else
      f_Md_above_b194 q21.2 x1 x2 x3 v17 x5 x6 x7 v19 0
  else
    f_Md_above_b224 st x1 x2 x3 v17 x5 x6 x7
def f_Md_above_b139 (st : pu_St) (x1 x2 x3 x4 x5 x6 x7 z0 : Int32) : Option (Int32 × pu_St) :=
  f_Md_above_b140 st x1 x2 x3 x4 x5 x6 x7 0 z0
def f_Md_above_b103 (st : pu_St) (x1 x2 x3 x4 x5 x6 x7 z0 z1 : Int32) : Option (Int32 × pu_St) :=
  (f_Md_then st z1 z0 6).bind fun v13 =>
  if x5 = x6 then
    f_Md_above_b139 st x1 x2 x3 v13 x5 x6 x7 v13
  else
    (pu_ld (st.2 6) 400 ((20 * x6) + x5)).bind fun v15 =>
    if v15 = 0 then
      f_Md_above_b140 st x1 x2 x3 v13 x5 x6 x7 1 v13
    else
      f_Md_above_b139 st x1 x2 x3 v13 x5 x6 x7 v13
def f_Md_above_b24 (st : pu_St) (x1 x2 x3 z0 : Int32) : Option (Int32 × pu_St) :=
  (f_Md_first st z0 x1 2 1).bind fun v5 =>
  if v5 ≤ 0 then
    (f_Md_follow st).bind fun q7 =>
    (pu_ld (q7.2.2 6) 400 ((20 * (x2 - 300)) + (x3 - 300))).bind fun v8 =>
    (pu_ld (q7.2.2 2) 20 (x2 - 300)).bind fun v9 =>
    (pu_ld (q7.2.2 2) 20 (x3 - 300)).bind fun v10 =>
    if v9 = v10 then
      f_Md_above_b103 q7.2 x1 x2 x3 v5 (x2 - 300) (x3 - 300) v8 1 v5
    else
      f_Md_above_b103 q7.2 x1 x2 x3 v5 (x2 - 300) (x3 - 300) v8 0 v5
  else
    (f_Md_holds st v5).bind fun q12 =>
    some (0, q12.2)
def f_Md_above_b23 (st : pu_St) (x1 x2 x3 : Int32) : Option (Int32 × pu_St) :=
  f_Md_above_b24 st x1 x2 x3 0
def f_Md_above (st : pu_St) (x1 x2 x3 : Int32) : Option (Int32 × pu_St) :=
  (f_Md_is st x2 3).bind fun v1 =>
  if v1 = 0 then
    f_Md_above_b23 st x1 x2 x3
  else
    (f_Md_is st x3 3).bind fun v3 =>
    if v3 = 0 then
      f_Md_above_b23 st x1 x2 x3
    else
      f_Md_above_b24 st x1 x2 x3 1
def f_Md_span_b153 (st : pu_St) (x1 x2 x3 x4 x5 x6 x7 x8 z0 z1 : Int32) : Option (Int32 × pu_St) :=
  (pu_sd (st.2 4) 20 z1 z0).bind fun g18 =>
  (f_Md_holds (st.1, va_up st.2 4 g18) x5).bind fun q19 =>
  if q19.1 = 0 then
    some (0, q19.2)
  else
    (f_Md_earliest q19.2 x6).bind fun v21 =>
    some (v21, q19.2)
def f_Md_span_b134 (st : pu_St) (x1 x2 x3 x4 x5 x6 x7 x8 z0 z1 : Int32) : Option (Int32 × pu_St) :=
  (pu_sd (st.2 3) 20 z1 z0).bind fun g16 =>
  if x5 = 0 then
    f_Md_span_b153 (st.1, va_up st.2 3 g16) x1 x2 x3 x4 x5 x6 x7 x8 x4 x6
  else
    f_Md_span_b153 (st.1, va_up st.2 3 g16) x1 x2 x3 x4 x5 x6 x7 x8 x8 x6
def f_Md_span_b115 (st : pu_St) (x1 x2 x3 x4 x5 x6 x7 x8 z0 : Int32) : Option (Int32 × pu_St) :=
  if z0 = 0 then
    f_Md_span_b134 st x1 x2 x3 x4 z0 x6 x7 x8 x3 x6
  else
    f_Md_span_b134 st x1 x2 x3 x4 z0 x6 x7 x8 x7 x6
def f_Md_span_b40 (st : pu_St) (x1 x2 x3 x4 x5 z0 z1 : Int32) : Option (Int32 × pu_St) :=
  (f_Md_then st z1 z0 4).bind fun v6 =>
  if v6 ≤ 0 then
    (pu_ld (st.2 3) 20 (x2 - 300)).bind fun v8 =>
    (pu_ld (st.2 4) 20 (x2 - 300)).bind fun v9 =>
    (pu_sd (st.2 3) 20 (x2 - 300) x3).bind fun g10 =>
    (pu_sd (st.2 4) 20 (x2 - 300) x4).bind fun g11 =>
    (f_Md_fits ((st.1, va_up st.2 3 g10).1, va_up (st.1, va_up st.2 3 g10).2 4 g11)).bind fun q12 =>
    if q12.1 = 0 then
      f_Md_span_b115 q12.2 x1 x2 x3 x4 v6 (x2 - 300) v8 v9 8
    else
      f_Md_span_b115 q12.2 x1 x2 x3 x4 v6 (x2 - 300) v8 v9 0
  else
    (f_Md_holds st v6).bind fun q14 =>
    some (0, q14.2)
def f_Md_span_b39 (st : pu_St) (x1 x2 x3 x4 x5 z0 : Int32) : Option (Int32 × pu_St) :=
  f_Md_span_b40 st x1 x2 x3 x4 x5 0 z0
def f_Md_span (st : pu_St) (x1 x2 x3 x4 : Int32) : Option (Int32 × pu_St) :=
  (f_Md_is st x2 3).bind fun v1 =>
  (f_Md_first st v1 x1 2 1).bind fun v2 =>
  if x3 < 0 then
    f_Md_span_b39 st x1 x2 x3 x4 v2 v2
  else
    if x4 < x3 then
      f_Md_span_b39 st x1 x2 x3 x4 v2 v2
    else
      if 999 < x4 then
        f_Md_span_b39 st x1 x2 x3 x4 v2 v2
      else
        f_Md_span_b40 st x1 x2 x3 x4 v2 1 v2
def f_Md_isAbove_b24 (st : pu_St) (x1 x2 z0 : Int32) : Option (Int32 × pu_St) :=
  (f_Md_holds st z0).bind fun q5 =>
  if q5.1 = 0 then
    some (0, q5.2)
  else
    (f_Md_follow q5.2).bind fun q7 =>
    (pu_ld (q7.2.2 6) 400 (((20 * (x1 - 300)) + x2) - 300)).bind fun v8 =>
    (pu_bo v8).bind fun b9 =>
    some (b9, q7.2)
def f_Md_isAbove_b23 (st : pu_St) (x1 x2 : Int32) : Option (Int32 × pu_St) :=
  f_Md_isAbove_b24 st x1 x2 1
def f_Md_isAbove (st : pu_St) (x1 x2 : Int32) : Option (Int32 × pu_St) :=
  (f_Md_is st x1 3).bind fun v1 =>
  if v1 = 0 then
    f_Md_isAbove_b23 st x1 x2
  else
    (f_Md_is st x2 3).bind fun v3 =>
    if v3 = 0 then
      f_Md_isAbove_b23 st x1 x2
    else
      f_Md_isAbove_b24 st x1 x2 0
def f_Md_holdsShort_b35 (st : pu_St) (x1 z0 : Int32) : Option (Int32 × pu_St) :=
  if x1 = 0 then
    some (1, (va_up st.1 0 z0, st.2))
  else
    some (0, (va_up st.1 0 z0, st.2))
def f_Md_holdsShort_b13 (st : pu_St) (x1 z0 : Int32) : Option (Int32 × pu_St) :=
  if x1 = 0 then
    f_Md_holdsShort_b35 (va_up st.1 1 z0, st.2) x1 0
  else
    if x1 = 1 then
      f_Md_holdsShort_b35 (va_up st.1 1 z0, st.2) x1 1
    else
      f_Md_holdsShort_b35 (va_up st.1 1 z0, st.2) x1 2
def f_Md_holdsShort (st : pu_St) (x1 : Int32) : Option (Int32 × pu_St) :=
  if x1 = 0 then
    f_Md_holdsShort_b13 st x1 (st.1 1)
  else
    f_Md_holdsShort_b13 st x1 x1
def f_Md_year_b14 (st : pu_St) (x1 x2 z0 : Int32) : Option (Int32 × pu_St) :=
  (f_Md_lies st x2 0 1).bind fun v3 =>
  (f_Md_then st z0 v3 4).bind fun v4 =>
  (f_Md_holdsShort st v4).bind fun q5 =>
  if q5.1 = 0 then
    some (0, q5.2)
  else
    (f_Md_follow q5.2).bind fun q7 =>
    if x2 = 0 then
      (f_Md_earliest q7.2 (x1 - 300)).bind fun v10 =>
      some (v10, q7.2)
    else
      (f_Md_latest q7.2 (x1 - 300)).bind fun v9 =>
      some (v9, q7.2)
def f_Md_year (st : pu_St) (x1 x2 : Int32) : Option (Int32 × pu_St) :=
  (f_Md_is st x1 3).bind fun v1 =>
  if v1 = 0 then
    f_Md_year_b14 st x1 x2 1
  else
    f_Md_year_b14 st x1 x2 0
def f_Md_find_b25 (st : pu_St) (x1 x2 x3 z0 z1 z2 z3 : Int32) : Option (Int32 × pu_St) :=
  (f_Md_first st z3 z2 z1 z0).bind fun v4 =>
  (f_Md_lies st x3 0 (st.1 2)).bind fun v5 =>
  (f_Md_then st v4 v5 4).bind fun v6 =>
  (f_Md_holds st v6).bind fun q7 =>
  if q7.1 = 0 then
    some (0, q7.2)
  else
    (pu_ld (q7.2.2 0) 10 4).bind fun v9 =>
    (pu_sd (q7.2.2 7) 30 v9 x2).bind fun g10 =>
    (pu_ld (q7.2.2 0) 10 4).bind fun v11 =>
    (pu_sd (q7.2.2 8) 30 v11 x3).bind fun g12 =>
    (f_Md_made ((q7.2.1, va_up q7.2.2 7 g10).1, va_up (q7.2.1, va_up q7.2.2 7 g10).2 8 g12) 4).bind fun q13 =>
    some (q13.1, q13.2)
def f_Md_find (st : pu_St) (x1 x2 x3 : Int32) : Option (Int32 × pu_St) :=
  (f_Md_is st x2 3).bind fun v1 =>
  (pu_ld (st.2 0) 10 4).bind fun v2 =>
  if 30 ≤ v2 then
    f_Md_find_b25 st x1 x2 x3 0 2 x1 v1
  else
    f_Md_find_b25 st x1 x2 x3 1 2 x1 v1
def f_Md_object_b87 (st : pu_St) (x1 x2 x3 x4 x5 z0 z1 : Int32) : Option (Int32 × pu_St) :=
  (f_Md_then st z1 z0 9).bind fun v11 =>
  (f_Md_holds st v11).bind fun q12 =>
  if q12.1 = 0 then
    some (0, q12.2)
  else
    (pu_ld (q12.2.2 0) 10 5).bind fun v14 =>
    (pu_sd (q12.2.2 9) 30 v14 x2).bind fun g15 =>
    (f_Md_made (q12.2.1, va_up q12.2.2 9 g15) 5).bind fun q16 =>
    some (q16.1, q16.2)
def f_Md_object_b35 : Nat → pu_St → Int32 → Int32 → Int32 → Int32 → Int32 → Option (Int32 × pu_St)
  | 0, _, _, _, _, _, _ => none
  | n + 1, st, x1, x2, x3, x4, x5 =>
    (pu_ld (st.2 0) 10 5).bind fun v5 =>
    if v5 ≤ x5 then
      if x4 = 0 then
        f_Md_object_b87 st x1 x2 x3 x4 x5 1 x3
      else
        f_Md_object_b87 st x1 x2 x3 x4 x5 0 x3
    else
      if x4 = 0 then
        (pu_ld (st.2 9) 30 x5).bind fun v9 =>
        if v9 = x2 then
          f_Md_object_b35 n st x1 x2 x3 1 (x5 + 1)
        else
          f_Md_object_b35 n st x1 x2 x3 0 (x5 + 1)
      else
        f_Md_object_b35 n st x1 x2 x3 1 (x5 + 1)
def f_Md_object_b25 (st : pu_St) (x1 x2 z0 z1 z2 z3 : Int32) : Option (Int32 × pu_St) :=
  (f_Md_first st z3 z2 z1 z0).bind fun v4 =>
  f_Md_object_b35 pu_fu st x1 x2 v4 0 0
def f_Md_object (st : pu_St) (x1 x2 : Int32) : Option (Int32 × pu_St) :=
  (f_Md_is st x2 4).bind fun v1 =>
  (pu_ld (st.2 0) 10 5).bind fun v2 =>
  if 30 ≤ v2 then
    f_Md_object_b25 st x1 x2 0 4 x1 v1
  else
    f_Md_object_b25 st x1 x2 1 4 x1 v1
def f_Md_store_b75 (st : pu_St) (x1 x2 z0 z1 : Int32) : Option (Int32 × pu_St) :=
  (pu_sd (st.2 10) 16 z1 z0).bind fun g11 =>
  (f_Md_made (st.1, va_up st.2 10 g11) 6).bind fun q12 =>
  some (q12.1, q12.2)
def f_Md_store_b40 (st : pu_St) (x1 x2 z0 z1 z2 z3 : Int32) : Option (Int32 × pu_St) :=
  (f_Md_first st z3 z2 z1 z0).bind fun v6 =>
  (f_Md_holds st v6).bind fun q7 =>
  if q7.1 = 0 then
    some (0, q7.2)
  else
    (pu_ld (q7.2.2 0) 10 6).bind fun v9 =>
    if x2 = 0 then
      f_Md_store_b75 q7.2 x1 x2 (-1) v9
    else
      f_Md_store_b75 q7.2 x1 x2 (x2 - 600) v9
def f_Md_store_b21 (st : pu_St) (x1 x2 z0 : Int32) : Option (Int32 × pu_St) :=
  (pu_ld (st.2 0) 10 6).bind fun v4 =>
  if 16 ≤ v4 then
    f_Md_store_b40 st x1 x2 0 4 x1 z0
  else
    f_Md_store_b40 st x1 x2 1 4 x1 z0
def f_Md_store_b16 (st : pu_St) (x1 x2 : Int32) : Option (Int32 × pu_St) :=
  f_Md_store_b21 st x1 x2 1
def f_Md_store (st : pu_St) (x1 x2 : Int32) : Option (Int32 × pu_St) :=
  if x2 = 0 then
    f_Md_store_b16 st x1 x2
  else
    (f_Md_is st x2 6).bind fun v2 =>
    if v2 = 0 then
      f_Md_store_b21 st x1 x2 0
    else
      f_Md_store_b16 st x1 x2
def f_Md_isIn_b27 (st : pu_St) (x1 x2 x3 : Int32) : Option Int32 :=
  if x3 = (-1) then
    some 0
  else
    some 1
def f_Md_isIn_b7 : Nat → pu_St → Int32 → Int32 → Int32 → Option Int32
  | 0, _, _, _, _ => none
  | n + 1, st, x1, x2, x3 =>
    if x3 = (-1) then
      f_Md_isIn_b27 st x1 x2 x3
    else
      if x3 = x2 then
        f_Md_isIn_b27 st x1 x2 x3
      else
        (pu_ld (st.2 10) 16 x3).bind fun v4 =>
        f_Md_isIn_b7 n st x1 x2 v4
def f_Md_isIn (st : pu_St) (x1 x2 : Int32) : Option Int32 :=
  (pu_ld (st.2 10) 16 x1).bind fun v1 =>
  f_Md_isIn_b7 pu_fu st x1 x2 v1
def f_Md_carry_b105 (st : pu_St) (x1 x2 x3 x4 x5 x6 z0 : Int32) : Option (Int32 × pu_St) :=
  (f_Md_holds st z0).bind fun q14 =>
  if q14.1 = 0 then
    some (0, q14.2)
  else
    (pu_ld (q14.2.2 10) 16 x5).bind fun v16 =>
    (pu_sd (q14.2.2 10) 16 x5 x6).bind fun g17 =>
    if v16 = x6 then
      some (0, (q14.2.1, va_up q14.2.2 10 g17))
    else
      some (1, (q14.2.1, va_up q14.2.2 10 g17))
def f_Md_carry_b104 (st : pu_St) (x1 x2 x3 x4 x5 x6 : Int32) : Option (Int32 × pu_St) :=
  f_Md_carry_b105 st x1 x2 x3 x4 x5 x6 0
def f_Md_carry_b99 (st : pu_St) (x1 x2 x3 x4 x5 x6 : Int32) : Option (Int32 × pu_St) :=
  f_Md_carry_b105 st x1 x2 x3 x4 x5 x6 10
def f_Md_carry_b72 (st : pu_St) (x1 x2 x3 x4 x5 z0 : Int32) : Option (Int32 × pu_St) :=
  if z0 = x5 then
    f_Md_carry_b99 st x1 x2 x3 x4 x5 z0
  else
    if z0 = (-1) then
      f_Md_carry_b104 st x1 x2 x3 x4 x5 z0
    else
      (f_Md_isIn st z0 x5).bind fun v12 =>
      if v12 = 0 then
        f_Md_carry_b104 st x1 x2 x3 x4 x5 z0
      else
        f_Md_carry_b99 st x1 x2 x3 x4 x5 z0
def f_Md_carry_b30 (st : pu_St) (x1 x2 x3 z0 : Int32) : Option (Int32 × pu_St) :=
  (f_Md_first st z0 x1 4 1).bind fun v6 =>
  if v6 ≤ 0 then
    if x3 = 0 then
      f_Md_carry_b72 st x1 x2 x3 v6 (x2 - 600) (-1)
    else
      f_Md_carry_b72 st x1 x2 x3 v6 (x2 - 600) (x3 - 600)
  else
    (f_Md_holds st v6).bind fun q9 =>
    some (0, q9.2)
def f_Md_carry_b29 (st : pu_St) (x1 x2 x3 : Int32) : Option (Int32 × pu_St) :=
  f_Md_carry_b30 st x1 x2 x3 0
def f_Md_carry_b25 (st : pu_St) (x1 x2 x3 : Int32) : Option (Int32 × pu_St) :=
  f_Md_carry_b30 st x1 x2 x3 1
def f_Md_carry (st : pu_St) (x1 x2 x3 : Int32) : Option (Int32 × pu_St) :=
  (f_Md_is st x2 6).bind fun v1 =>
  if v1 = 0 then
    f_Md_carry_b29 st x1 x2 x3
  else
    if x3 = 0 then
      f_Md_carry_b25 st x1 x2 x3
    else
      (f_Md_is st x3 6).bind fun v4 =>
      if v4 = 0 then
        f_Md_carry_b29 st x1 x2 x3
      else
        f_Md_carry_b25 st x1 x2 x3
def f_Md_within_b26 (st : pu_St) (x1 x2 z0 : Int32) : Option (Int32 × pu_St) :=
  (f_Md_holds st z0).bind fun q5 =>
  if q5.1 = 0 then
    some (0, q5.2)
  else
    (f_Md_isIn q5.2 (x1 - 600) (x2 - 600)).bind fun v7 =>
    if v7 = 0 then
      some (0, q5.2)
    else
      some (1, q5.2)
def f_Md_within_b25 (st : pu_St) (x1 x2 : Int32) : Option (Int32 × pu_St) :=
  f_Md_within_b26 st x1 x2 1
def f_Md_within (st : pu_St) (x1 x2 : Int32) : Option (Int32 × pu_St) :=
  (f_Md_is st x1 6).bind fun v1 =>
  if v1 = 0 then
    f_Md_within_b25 st x1 x2
  else
    (f_Md_is st x2 6).bind fun v3 =>
    if v3 = 0 then
      f_Md_within_b25 st x1 x2
    else
      f_Md_within_b26 st x1 x2 0
def f_Md_loanAt_b6 : Nat → pu_St → Int32 → Int32 → Int32 → Int32 → Int32 → Option Int32
  | 0, _, _, _, _, _, _ => none
  | n + 1, st, x1, x2, x3, x4, x5 =>
    (pu_ld (st.2 0) 10 7).bind fun v1 =>
    if v1 ≤ x5 then
      some x4
    else
      (pu_ld (st.2 14) 40 x5).bind fun v3 =>
      if v3 = x1 then
        (pu_ld (st.2 15) 40 x5).bind fun v5 =>
        if x3 < v5 then
          f_Md_loanAt_b6 n st x1 x2 x3 x4 (x5 + 1)
        else
          (pu_ld (st.2 16) 40 x5).bind fun v7 =>
          if v7 < x2 then
            f_Md_loanAt_b6 n st x1 x2 x3 x4 (x5 + 1)
          else
            f_Md_loanAt_b6 n st x1 x2 x3 (700 + x5) (x5 + 1)
      else
        f_Md_loanAt_b6 n st x1 x2 x3 x4 (x5 + 1)
def f_Md_loanAt (st : pu_St) (x1 x2 x3 : Int32) : Option Int32 :=
  f_Md_loanAt_b6 pu_fu st x1 x2 x3 0 0
def f_Md_dayOf (st : pu_St) (x1 : Int32) : Option Int32 :=
  (pu_ld (st.2 9) 30 (x1 - 500)).bind fun v1 =>
  (pu_ld (st.2 8) 30 (v1 - 400)).bind fun v2 =>
  some v2
def f_Md_moveAt_b8 : Nat → pu_St → Int32 → Int32 → Int32 → Int32 → Option Int32
  | 0, _, _, _, _, _ => none
  | n + 1, st, x1, x2, x3, x4 =>
    (pu_ld (st.2 11) 30 x1).bind fun v1 =>
    if ((12 * x1) + v1) ≤ x4 then
      some x3
    else
      (pu_ld (st.2 12) 360 x4).bind fun v3 =>
      if v3 = x2 then
        f_Md_moveAt_b8 n st x1 x2 x4 (x4 + 1)
      else
        f_Md_moveAt_b8 n st x1 x2 x3 (x4 + 1)
def f_Md_moveAt (st : pu_St) (x1 x2 : Int32) : Option Int32 :=
  f_Md_moveAt_b8 pu_fu st x1 x2 (-1) (12 * x1)
def f_Md_move_b240 (st : pu_St) (x1 x2 x3 x4 x5 x6 x7 x8 x9 z0 z1 : Int32) : Option (Int32 × pu_St) :=
  (pu_sd (st.2 11) 30 z1 z0).bind fun g29 =>
  (pu_sd (st.2 12) 360 x9 x4).bind fun g30 =>
  (pu_sd (st.2 13) 360 x9 x3).bind fun g31 =>
  if x7 = (-1) then
    some (1, (((st.1, va_up st.2 11 g29).1, va_up (st.1, va_up st.2 11 g29).2 12 g30).1, va_up ((st.1, va_up st.2 11 g29).1, va_up (st.1, va_up st.2 11 g29).2 12 g30).2 13 g31))
  else
    some (0, (((st.1, va_up st.2 11 g29).1, va_up (st.1, va_up st.2 11 g29).2 12 g30).1, va_up ((st.1, va_up st.2 11 g29).1, va_up (st.1, va_up st.2 11 g29).2 12 g30).2 13 g31))
def f_Md_move_b207 (st : pu_St) (x1 x2 x3 x4 x5 x6 x7 x8 z0 : Int32) : Option (Int32 × pu_St) :=
  if x7 = (-1) then
    (pu_ld (st.2 11) 30 x6).bind fun v28 =>
    f_Md_move_b240 st x1 x2 x3 x4 x5 x6 x7 x8 z0 (v28 + 1) x6
  else
    (pu_ld (st.2 11) 30 x6).bind fun v27 =>
    f_Md_move_b240 st x1 x2 x3 x4 x5 x6 x7 x8 z0 v27 x6
def f_Md_move_b165 (st : pu_St) (x1 x2 x3 x4 x5 x6 x7 x8 z0 z1 : Int32) : Option (Int32 × pu_St) :=
  (f_Md_then st z1 z0 12).bind fun v21 =>
  (f_Md_holds st v21).bind fun q22 =>
  if q22.1 = 0 then
    some (0, q22.2)
  else
    if x7 = (-1) then
      (pu_ld (q22.2.2 11) 30 x6).bind fun v25 =>
      f_Md_move_b207 q22.2 x1 x2 x3 x4 x5 x6 x7 v21 ((12 * x6) + v25)
    else
      f_Md_move_b207 q22.2 x1 x2 x3 x4 x5 x6 x7 v21 x7
def f_Md_move_b160 (st : pu_St) (x1 x2 x3 x4 x5 x6 x7 x8 z0 : Int32) : Option (Int32 × pu_St) :=
  f_Md_move_b165 st x1 x2 x3 x4 x5 x6 x7 x8 1 z0
def f_Md_move_b134 (st : pu_St) (x1 x2 x3 x4 x5 x6 x7 x8 z0 z1 : Int32) : Option (Int32 × pu_St) :=
  (f_Md_then st z1 z0 11).bind fun v17 =>
  if 0 < v17 then
    f_Md_move_b160 st x1 x2 x3 x4 x5 x6 x7 v17 v17
  else
    (f_Md_loanAt st x2 x4 x4).bind fun v19 =>
    if v19 = 0 then
      f_Md_move_b160 st x1 x2 x3 x4 x5 x6 x7 v17 v17
    else
      f_Md_move_b165 st x1 x2 x3 x4 x5 x6 x7 v17 0 v17
def f_Md_move_b129 (st : pu_St) (x1 x2 x3 x4 x5 x6 x7 x8 z0 : Int32) : Option (Int32 × pu_St) :=
  f_Md_move_b134 st x1 x2 x3 x4 x5 x6 x7 x8 1 z0
def f_Md_move_b89 (st : pu_St) (x1 x2 x3 x4 x5 x6 x7 z0 z1 z2 z3 : Int32) : Option (Int32 × pu_St) :=
  (f_Md_first st z3 z2 z1 z0).bind fun v11 =>
  (f_Md_lies st x4 0 (st.1 2)).bind fun v12 =>
  (f_Md_then st v11 v12 4).bind fun v13 =>
  if 0 < v13 then
    f_Md_move_b129 st x1 x2 x3 x4 x5 x6 x7 v13 v13
  else
    (f_Md_dayOf st x2).bind fun v15 =>
    if x4 < v15 then
      f_Md_move_b134 st x1 x2 x3 x4 x5 x6 x7 v13 0 v13
    else
      f_Md_move_b129 st x1 x2 x3 x4 x5 x6 x7 v13 v13
def f_Md_move_b84 (st : pu_St) (x1 x2 x3 x4 x5 x6 x7 z0 z1 z2 : Int32) : Option (Int32 × pu_St) :=
  f_Md_move_b89 st x1 x2 x3 x4 x5 x6 x7 1 z0 z1 z2
def f_Md_move_b59 (st : pu_St) (x1 x2 x3 x4 x5 x6 z0 : Int32) : Option (Int32 × pu_St) :=
  if z0 = (-1) then
    (pu_ld (st.2 11) 30 x6).bind fun v9 =>
    if 12 ≤ v9 then
      f_Md_move_b89 st x1 x2 x3 x4 x5 x6 z0 0 4 x1 x5
    else
      f_Md_move_b84 st x1 x2 x3 x4 x5 x6 z0 4 x1 x5
  else
    f_Md_move_b84 st x1 x2 x3 x4 x5 x6 z0 4 x1 x5
def f_Md_move_b40 (st : pu_St) (x1 x2 x3 x4 x5 z0 : Int32) : Option (Int32 × pu_St) :=
  if x5 = 0 then
    f_Md_move_b59 st x1 x2 x3 x4 x5 z0 (-1)
  else
    (f_Md_moveAt st z0 x4).bind fun v7 =>
    f_Md_move_b59 st x1 x2 x3 x4 x5 z0 v7
def f_Md_move_b24 (st : pu_St) (x1 x2 x3 x4 z0 : Int32) : Option (Int32 × pu_St) :=
  if z0 = 0 then
    f_Md_move_b40 st x1 x2 x3 x4 z0 0
  else
    f_Md_move_b40 st x1 x2 x3 x4 z0 (x2 - 500)
def f_Md_move_b23 (st : pu_St) (x1 x2 x3 x4 : Int32) : Option (Int32 × pu_St) :=
  f_Md_move_b24 st x1 x2 x3 x4 0
def f_Md_move (st : pu_St) (x1 x2 x3 x4 : Int32) : Option (Int32 × pu_St) :=
  (f_Md_is st x2 5).bind fun v1 =>
  if v1 = 0 then
    f_Md_move_b23 st x1 x2 x3 x4
  else
    (f_Md_is st x3 6).bind fun v3 =>
    if v3 = 0 then
      f_Md_move_b23 st x1 x2 x3 x4
    else
      f_Md_move_b24 st x1 x2 x3 x4 1
def f_Md_isDay (st : pu_St) (x0 : Int32) : Option Int32 :=
  (f_Md_lies st x0 0 9999).bind fun v1 =>
  pu_bo v1
def f_Md_placeOf_b8 : Nat → pu_St → Int32 → Int32 → Int32 → Int32 → Option Int32
  | 0, _, _, _, _, _ => none
  | n + 1, st, x1, x2, x3, x4 =>
    (pu_ld (st.2 11) 30 x1).bind fun v1 =>
    if ((12 * x1) + v1) ≤ x4 then
      if x3 = (-1) then
        some 0
      else
        (pu_ld (st.2 13) 360 x3).bind fun v4 =>
        some v4
    else
      (pu_ld (st.2 12) 360 x4).bind fun v5 =>
      if x2 < v5 then
        f_Md_placeOf_b8 n st x1 x2 x3 (x4 + 1)
      else
        if x3 = (-1) then
          f_Md_placeOf_b8 n st x1 x2 x4 (x4 + 1)
        else
          (pu_ld (st.2 12) 360 x4).bind fun v8 =>
          (pu_ld (st.2 12) 360 x3).bind fun v9 =>
          if v8 ≤ v9 then
            f_Md_placeOf_b8 n st x1 x2 x3 (x4 + 1)
          else
            f_Md_placeOf_b8 n st x1 x2 x4 (x4 + 1)
def f_Md_placeOf (st : pu_St) (x1 x2 : Int32) : Option Int32 :=
  f_Md_placeOf_b8 pu_fu st x1 x2 (-1) (12 * x1)
def f_Md_place_b15 (st : pu_St) (x1 x2 z0 : Int32) : Option (Int32 × pu_St) :=
  (f_Md_isDay st x2).bind fun v3 =>
  (f_Md_then st z0 v3 4).bind fun v4 =>
  (f_Md_holdsShort st v4).bind fun q5 =>
  if q5.1 = 0 then
    some (0, q5.2)
  else
    (f_Md_placeOf q5.2 (x1 - 500) x2).bind fun v7 =>
    some (v7, q5.2)
def f_Md_place (st : pu_St) (x1 x2 : Int32) : Option (Int32 × pu_St) :=
  (f_Md_is st x1 5).bind fun v1 =>
  if v1 = 0 then
    f_Md_place_b15 st x1 x2 1
  else
    f_Md_place_b15 st x1 x2 0
def f_Md_stored_b37 : Nat → pu_St → Int32 → Int32 → Int32 → Int32 → Option (Int32 × pu_St)
  | 0, _, _, _, _, _ => none
  | n + 1, st, x1, x2, x3, x4 =>
    (pu_ld (st.2 0) 10 5).bind fun v7 =>
    if v7 ≤ x4 then
      some (x3, st)
    else
      (f_Md_placeOf st x4 x2).bind fun v9 =>
      if v9 = x1 then
        f_Md_stored_b37 n st x1 x2 (x3 + 1) (x4 + 1)
      else
        if v9 ≤ 0 then
          f_Md_stored_b37 n st x1 x2 x3 (x4 + 1)
        else
          (f_Md_isIn st (v9 - 600) (x1 - 600)).bind fun v12 =>
          if v12 = 0 then
            f_Md_stored_b37 n st x1 x2 x3 (x4 + 1)
          else
            f_Md_stored_b37 n st x1 x2 (x3 + 1) (x4 + 1)
def f_Md_stored_b16 (st : pu_St) (x1 x2 z0 : Int32) : Option (Int32 × pu_St) :=
  (f_Md_isDay st x2).bind fun v3 =>
  (f_Md_then st z0 v3 4).bind fun v4 =>
  (f_Md_holdsShort st v4).bind fun q5 =>
  if q5.1 = 0 then
    some (0, q5.2)
  else
    f_Md_stored_b37 pu_fu q5.2 x1 x2 0 0
def f_Md_stored (st : pu_St) (x1 x2 : Int32) : Option (Int32 × pu_St) :=
  (f_Md_is st x1 6).bind fun v1 =>
  if v1 = 0 then
    f_Md_stored_b16 st x1 x2 1
  else
    f_Md_stored_b16 st x1 x2 0
def f_Md_isSpan (st : pu_St) (x0 x1 : Int32) : Option Int32 :=
  if x0 < 0 then
    some 0
  else
    if x1 < x0 then
      some 0
    else
      if 9999 < x1 then
        some 0
      else
        some 1
def f_Md_showAt_b6 : Nat → pu_St → Int32 → Int32 → Int32 → Int32 → Int32 → Int32 → Option Int32
  | 0, _, _, _, _, _, _, _ => none
  | n + 1, st, x1, x2, x3, x4, x5, x6 =>
    (pu_ld (st.2 0) 10 8).bind fun v1 =>
    if v1 ≤ x6 then
      some x5
    else
      if x6 = x4 then
        f_Md_showAt_b6 n st x1 x2 x3 x4 x5 (x6 + 1)
      else
        (pu_ld (st.2 20) 300 (((30 * x6) + x1) - 500)).bind fun v4 =>
        if v4 = 0 then
          f_Md_showAt_b6 n st x1 x2 x3 x4 x5 (x6 + 1)
        else
          (pu_ld (st.2 18) 10 x6).bind fun v6 =>
          if x3 < v6 then
            f_Md_showAt_b6 n st x1 x2 x3 x4 x5 (x6 + 1)
          else
            (pu_ld (st.2 19) 10 x6).bind fun v8 =>
            if v8 < x2 then
              f_Md_showAt_b6 n st x1 x2 x3 x4 x5 (x6 + 1)
            else
              f_Md_showAt_b6 n st x1 x2 x3 x4 (800 + x6) (x6 + 1)
def f_Md_showAt (st : pu_St) (x1 x2 x3 x4 : Int32) : Option Int32 :=
  f_Md_showAt_b6 pu_fu st x1 x2 x3 x4 0 0
def f_Md_isClaimed_b4 : Nat → pu_St → Int32 → Int32 → Int32 → Option Int32
  | 0, _, _, _, _ => none
  | n + 1, st, x1, x2, x3 =>
    (pu_ld (st.2 0) 10 9).bind fun v1 =>
    if v1 ≤ x3 then
      pu_bo x2
    else
      if x2 = 0 then
        (pu_ld (st.2 23) 20 x3).bind fun v4 =>
        if v4 = 0 then
          f_Md_isClaimed_b4 n st x1 0 (x3 + 1)
        else
          (pu_ld (st.2 21) 20 x3).bind fun v6 =>
          if v6 = x1 then
            f_Md_isClaimed_b4 n st x1 1 (x3 + 1)
          else
            f_Md_isClaimed_b4 n st x1 0 (x3 + 1)
      else
        f_Md_isClaimed_b4 n st x1 1 (x3 + 1)
def f_Md_isClaimed (st : pu_St) (x1 : Int32) : Option Int32 :=
  f_Md_isClaimed_b4 pu_fu st x1 0 0
def f_Md_loan_b136 (st : pu_St) (x1 x2 x3 x4 x5 z0 z1 : Int32) : Option (Int32 × pu_St) :=
  (f_Md_then st z1 z0 14).bind fun v20 =>
  (f_Md_holds st v20).bind fun q21 =>
  if q21.1 = 0 then
    some (0, q21.2)
  else
    (pu_ld (q21.2.2 0) 10 7).bind fun v23 =>
    (pu_sd (q21.2.2 14) 40 v23 x2).bind fun g24 =>
    (pu_ld (q21.2.2 0) 10 7).bind fun v25 =>
    (pu_sd (q21.2.2 15) 40 v25 x3).bind fun g26 =>
    (pu_ld (q21.2.2 0) 10 7).bind fun v27 =>
    (pu_sd (q21.2.2 16) 40 v27 x4).bind fun g28 =>
    (f_Md_made (((q21.2.1, va_up q21.2.2 14 g24).1, va_up (q21.2.1, va_up q21.2.2 14 g24).2 15 g26).1, va_up ((q21.2.1, va_up q21.2.2 14 g24).1, va_up (q21.2.1, va_up q21.2.2 14 g24).2 15 g26).2 16 g28) 7).bind fun q29 =>
    some (q29.1, q29.2)
def f_Md_loan_b131 (st : pu_St) (x1 x2 x3 x4 x5 z0 : Int32) : Option (Int32 × pu_St) :=
  f_Md_loan_b136 st x1 x2 x3 x4 x5 1 z0
def f_Md_loan_b135 (st : pu_St) (x1 x2 x3 x4 x5 z0 : Int32) : Option (Int32 × pu_St) :=
  f_Md_loan_b136 st x1 x2 x3 x4 x5 0 z0
def f_Md_loan_b94 (st : pu_St) (x1 x2 x3 x4 x5 z0 z1 : Int32) : Option (Int32 × pu_St) :=
  (f_Md_then st z1 z0 13).bind fun v14 =>
  if 0 < v14 then
    f_Md_loan_b131 st x1 x2 x3 x4 v14 v14
  else
    (f_Md_loanAt st x2 x3 x4).bind fun v16 =>
    if v16 = 0 then
      (f_Md_showAt st x2 x3 x4 (-1)).bind fun v18 =>
      if v18 = 0 then
        f_Md_loan_b131 st x1 x2 x3 x4 v14 v14
      else
        f_Md_loan_b135 st x1 x2 x3 x4 v14 v14
    else
      f_Md_loan_b135 st x1 x2 x3 x4 v14 v14
def f_Md_loan_b89 (st : pu_St) (x1 x2 x3 x4 x5 z0 : Int32) : Option (Int32 × pu_St) :=
  f_Md_loan_b94 st x1 x2 x3 x4 x5 1 z0
def f_Md_loan_b67 (st : pu_St) (x1 x2 x3 x4 x5 z0 z1 : Int32) : Option (Int32 × pu_St) :=
  (f_Md_then st z1 z0 11).bind fun v10 =>
  if 0 < v10 then
    f_Md_loan_b89 st x1 x2 x3 x4 v10 v10
  else
    (f_Md_isClaimed st x2).bind fun v12 =>
    if v12 = 0 then
      f_Md_loan_b89 st x1 x2 x3 x4 v10 v10
    else
      f_Md_loan_b94 st x1 x2 x3 x4 v10 0 v10
def f_Md_loan_b62 (st : pu_St) (x1 x2 x3 x4 x5 z0 : Int32) : Option (Int32 × pu_St) :=
  f_Md_loan_b67 st x1 x2 x3 x4 x5 1 z0
def f_Md_loan_b27 (st : pu_St) (x1 x2 x3 x4 z0 z1 z2 z3 : Int32) : Option (Int32 × pu_St) :=
  (f_Md_first st z3 z2 z1 z0).bind fun v4 =>
  (f_Md_isSpan st x3 x4).bind fun v5 =>
  (f_Md_then st v4 v5 4).bind fun v6 =>
  if 0 < v6 then
    f_Md_loan_b62 st x1 x2 x3 x4 v6 v6
  else
    (f_Md_dayOf st x2).bind fun v8 =>
    if x3 < v8 then
      f_Md_loan_b67 st x1 x2 x3 x4 v6 0 v6
    else
      f_Md_loan_b62 st x1 x2 x3 x4 v6 v6
def f_Md_loan (st : pu_St) (x1 x2 x3 x4 : Int32) : Option (Int32 × pu_St) :=
  (f_Md_is st x2 5).bind fun v1 =>
  (pu_ld (st.2 0) 10 7).bind fun v2 =>
  if 40 ≤ v2 then
    f_Md_loan_b27 st x1 x2 x3 x4 0 8 x1 v1
  else
    f_Md_loan_b27 st x1 x2 x3 x4 1 8 x1 v1
def f_Md_back_b23 (st : pu_St) (x1 x2 x3 x4 z0 : Int32) : Option (Int32 × pu_St) :=
  (f_Md_first st x4 x1 8 1).bind fun v3 =>
  (f_Md_isDay st x3).bind fun v4 =>
  (f_Md_then st v3 v4 4).bind fun v5 =>
  (pu_ld (st.2 15) 40 z0).bind fun v6 =>
  (pu_ld (st.2 16) 40 z0).bind fun v7 =>
  (f_Md_lies st x3 v6 v7).bind fun v8 =>
  (f_Md_then st v5 v8 15).bind fun v9 =>
  (f_Md_holds st v9).bind fun q10 =>
  if q10.1 = 0 then
    some (0, q10.2)
  else
    (pu_ld (q10.2.2 16) 40 z0).bind fun v12 =>
    (pu_sd (q10.2.2 16) 40 z0 x3).bind fun g13 =>
    some (v12, (q10.2.1, va_up q10.2.2 16 g13))
def f_Md_back (st : pu_St) (x1 x2 x3 : Int32) : Option (Int32 × pu_St) :=
  (f_Md_is st x2 7).bind fun v1 =>
  if v1 = 0 then
    f_Md_back_b23 st x1 x2 x3 v1 0
  else
    f_Md_back_b23 st x1 x2 x3 v1 (x2 - 700)
def f_Md_show_b28 (st : pu_St) (x1 x2 x3 x4 z0 z1 z2 z3 : Int32) : Option (Int32 × pu_St) :=
  (f_Md_first st z3 z2 z1 z0).bind fun v4 =>
  (f_Md_isSpan st x3 x4).bind fun v5 =>
  (f_Md_then st v4 v5 4).bind fun v6 =>
  (f_Md_holds st v6).bind fun q7 =>
  if q7.1 = 0 then
    some (0, q7.2)
  else
    (pu_ld (q7.2.2 0) 10 8).bind fun v9 =>
    (pu_sd (q7.2.2 17) 10 v9 x2).bind fun g10 =>
    (pu_ld (q7.2.2 0) 10 8).bind fun v11 =>
    (pu_sd (q7.2.2 18) 10 v11 x3).bind fun g12 =>
    (pu_ld (q7.2.2 0) 10 8).bind fun v13 =>
    (pu_sd (q7.2.2 19) 10 v13 x4).bind fun g14 =>
    (f_Md_made (((q7.2.1, va_up q7.2.2 17 g10).1, va_up (q7.2.1, va_up q7.2.2 17 g10).2 18 g12).1, va_up ((q7.2.1, va_up q7.2.2 17 g10).1, va_up (q7.2.1, va_up q7.2.2 17 g10).2 18 g12).2 19 g14) 8).bind fun q15 =>
    some (q15.1, q15.2)
def f_Md_show (st : pu_St) (x1 x2 x3 x4 : Int32) : Option (Int32 × pu_St) :=
  (f_Md_is st x2 6).bind fun v1 =>
  (pu_ld (st.2 0) 10 8).bind fun v2 =>
  if 10 ≤ v2 then
    f_Md_show_b28 st x1 x2 x3 x4 0 16 x1 v1
  else
    f_Md_show_b28 st x1 x2 x3 x4 1 16 x1 v1
def f_Md_hang_b205 (st : pu_St) (x1 x2 x3 x4 x5 x6 z0 z1 : Int32) : Option (Int32 × pu_St) :=
  (f_Md_then st z1 z0 14).bind fun v29 =>
  (f_Md_holds st v29).bind fun q30 =>
  if q30.1 = 0 then
    some (0, q30.2)
  else
    (pu_sd (q30.2.2 20) 300 (((30 * x6) + x3) - 500) 1).bind fun g32 =>
    some (1, (q30.2.1, va_up q30.2.2 20 g32))
def f_Md_hang_b200 (st : pu_St) (x1 x2 x3 x4 x5 x6 z0 : Int32) : Option (Int32 × pu_St) :=
  f_Md_hang_b205 st x1 x2 x3 x4 x5 x6 1 z0
def f_Md_hang_b204 (st : pu_St) (x1 x2 x3 x4 x5 x6 z0 : Int32) : Option (Int32 × pu_St) :=
  f_Md_hang_b205 st x1 x2 x3 x4 x5 x6 0 z0
def f_Md_hang_b140 (st : pu_St) (x1 x2 x3 x4 x5 x6 z0 z1 : Int32) : Option (Int32 × pu_St) :=
  (f_Md_then st z1 z0 13).bind fun v19 =>
  if 0 < v19 then
    f_Md_hang_b200 st x1 x2 x3 x4 v19 x6 v19
  else
    (pu_ld (st.2 18) 10 x6).bind fun v21 =>
    (pu_ld (st.2 19) 10 x6).bind fun v22 =>
    (f_Md_loanAt st x3 v21 v22).bind fun v23 =>
    if v23 = 0 then
      (pu_ld (st.2 18) 10 x6).bind fun v25 =>
      (pu_ld (st.2 19) 10 x6).bind fun v26 =>
      (f_Md_showAt st x3 v25 v26 x6).bind fun v27 =>
      if v27 = 0 then
        f_Md_hang_b200 st x1 x2 x3 x4 v19 x6 v19
      else
        f_Md_hang_b204 st x1 x2 x3 x4 v19 x6 v19
    else
      f_Md_hang_b204 st x1 x2 x3 x4 v19 x6 v19
def f_Md_hang_b135 (st : pu_St) (x1 x2 x3 x4 x5 x6 z0 : Int32) : Option (Int32 × pu_St) :=
  f_Md_hang_b140 st x1 x2 x3 x4 x5 x6 1 z0
def f_Md_hang_b113 (st : pu_St) (x1 x2 x3 x4 x5 x6 z0 z1 : Int32) : Option (Int32 × pu_St) :=
  (f_Md_then st z1 z0 11).bind fun v15 =>
  if 0 < v15 then
    f_Md_hang_b135 st x1 x2 x3 x4 v15 x6 v15
  else
    (f_Md_isClaimed st x3).bind fun v17 =>
    if v17 = 0 then
      f_Md_hang_b135 st x1 x2 x3 x4 v15 x6 v15
    else
      f_Md_hang_b140 st x1 x2 x3 x4 v15 x6 0 v15
def f_Md_hang_b108 (st : pu_St) (x1 x2 x3 x4 x5 x6 z0 : Int32) : Option (Int32 × pu_St) :=
  f_Md_hang_b113 st x1 x2 x3 x4 x5 x6 1 z0
def f_Md_hang_b86 (st : pu_St) (x1 x2 x3 x4 x5 x6 : Int32) : Option (Int32 × pu_St) :=
  if 0 < x5 then
    f_Md_hang_b108 st x1 x2 x3 x4 x5 x6 x5
  else
    (pu_ld (st.2 18) 10 x6).bind fun v12 =>
    (f_Md_dayOf st x3).bind fun v13 =>
    if v12 < v13 then
      f_Md_hang_b113 st x1 x2 x3 x4 x5 x6 0 x5
    else
      f_Md_hang_b108 st x1 x2 x3 x4 x5 x6 x5
def f_Md_hang_b52 (st : pu_St) (x1 x2 x3 x4 x5 z0 : Int32) : Option (Int32 × pu_St) :=
  if x5 = 0 then
    (pu_ld (st.2 20) 300 (((30 * z0) + x3) - 500)).bind fun v8 =>
    if v8 = 0 then
      f_Md_hang_b86 st x1 x2 x3 x4 x5 z0
    else
      (f_Md_holds st 0).bind fun q10 =>
      some (0, q10.2)
  else
    f_Md_hang_b86 st x1 x2 x3 x4 x5 z0
def f_Md_hang_b24 (st : pu_St) (x1 x2 x3 z0 : Int32) : Option (Int32 × pu_St) :=
  (f_Md_first st z0 x1 16 1).bind fun v5 =>
  if z0 = 0 then
    f_Md_hang_b52 st x1 x2 x3 z0 v5 0
  else
    f_Md_hang_b52 st x1 x2 x3 z0 v5 (x2 - 800)
def f_Md_hang_b23 (st : pu_St) (x1 x2 x3 : Int32) : Option (Int32 × pu_St) :=
  f_Md_hang_b24 st x1 x2 x3 0
def f_Md_hang (st : pu_St) (x1 x2 x3 : Int32) : Option (Int32 × pu_St) :=
  (f_Md_is st x2 8).bind fun v1 =>
  if v1 = 0 then
    f_Md_hang_b23 st x1 x2 x3
  else
    (f_Md_is st x3 5).bind fun v3 =>
    if v3 = 0 then
      f_Md_hang_b23 st x1 x2 x3
    else
      f_Md_hang_b24 st x1 x2 x3 1
def f_Md_take_b26 (st : pu_St) (x1 x2 x3 z0 : Int32) : Option (Int32 × pu_St) :=
  (f_Md_first st z0 x1 16 1).bind fun v5 =>
  (f_Md_holds st v5).bind fun q6 =>
  if q6.1 = 0 then
    some (0, q6.2)
  else
    (pu_ld (q6.2.2 20) 300 (((30 * (x2 - 800)) + x3) - 500)).bind fun v8 =>
    (pu_sd (q6.2.2 20) 300 (((30 * (x2 - 800)) + x3) - 500) 0).bind fun g9 =>
    (pu_bo v8).bind fun b10 =>
    some (b10, (q6.2.1, va_up q6.2.2 20 g9))
def f_Md_take_b25 (st : pu_St) (x1 x2 x3 : Int32) : Option (Int32 × pu_St) :=
  f_Md_take_b26 st x1 x2 x3 0
def f_Md_take (st : pu_St) (x1 x2 x3 : Int32) : Option (Int32 × pu_St) :=
  (f_Md_is st x2 8).bind fun v1 =>
  if v1 = 0 then
    f_Md_take_b25 st x1 x2 x3
  else
    (f_Md_is st x3 5).bind fun v3 =>
    if v3 = 0 then
      f_Md_take_b25 st x1 x2 x3
    else
      f_Md_take_b26 st x1 x2 x3 1
def f_Md_claim_b128 (st : pu_St) (x1 x2 x3 x4 x5 x6 z0 z1 : Int32) : Option (Int32 × pu_St) :=
  (f_Md_then st z1 z0 16).bind fun v17 =>
  (f_Md_holds st v17).bind fun q18 =>
  if q18.1 = 0 then
    some (0, q18.2)
  else
    (pu_ld (q18.2.2 0) 10 9).bind fun v20 =>
    (pu_sd (q18.2.2 21) 20 v20 x2).bind fun g21 =>
    (pu_ld (q18.2.2 0) 10 9).bind fun v22 =>
    (pu_sd (q18.2.2 22) 20 v22 x3).bind fun g23 =>
    (pu_ld (q18.2.2 0) 10 9).bind fun v24 =>
    (pu_sd (q18.2.2 23) 20 v24 1).bind fun g25 =>
    (f_Md_made (((q18.2.1, va_up q18.2.2 21 g21).1, va_up (q18.2.1, va_up q18.2.2 21 g21).2 22 g23).1, va_up ((q18.2.1, va_up q18.2.2 21 g21).1, va_up (q18.2.1, va_up q18.2.2 21 g21).2 22 g23).2 23 g25) 9).bind fun q26 =>
    some (q26.1, q26.2)
def f_Md_claim_b38 : Nat → pu_St → Int32 → Int32 → Int32 → Int32 → Int32 → Int32 → Option (Int32 × pu_St)
  | 0, _, _, _, _, _, _, _ => none
  | n + 1, st, x1, x2, x3, x4, x5, x6 =>
    (pu_ld (st.2 0) 10 9).bind fun v5 =>
    if v5 ≤ x6 then
      (f_Md_lies st x3 0 9).bind fun v7 =>
      (f_Md_then st x4 v7 4).bind fun v8 =>
      if x5 = 0 then
        f_Md_claim_b128 st x1 x2 x3 v8 x5 x6 1 v8
      else
        f_Md_claim_b128 st x1 x2 x3 v8 x5 x6 0 v8
    else
      if x5 = 0 then
        (pu_ld (st.2 23) 20 x6).bind fun v11 =>
        if v11 = 0 then
          f_Md_claim_b38 n st x1 x2 x3 x4 0 (x6 + 1)
        else
          (pu_ld (st.2 21) 20 x6).bind fun v13 =>
          if v13 = x2 then
            (pu_ld (st.2 22) 20 x6).bind fun v15 =>
            if v15 = x3 then
              f_Md_claim_b38 n st x1 x2 x3 x4 1 (x6 + 1)
            else
              f_Md_claim_b38 n st x1 x2 x3 x4 0 (x6 + 1)
          else
            f_Md_claim_b38 n st x1 x2 x3 x4 0 (x6 + 1)
      else
        f_Md_claim_b38 n st x1 x2 x3 x4 1 (x6 + 1)
def f_Md_claim_b27 (st : pu_St) (x1 x2 x3 z0 z1 z2 z3 : Int32) : Option (Int32 × pu_St) :=
  (f_Md_first st z3 z2 z1 z0).bind fun v4 =>
  f_Md_claim_b38 pu_fu st x1 x2 x3 v4 0 0
def f_Md_claim (st : pu_St) (x1 x2 x3 : Int32) : Option (Int32 × pu_St) :=
  (f_Md_is st x2 5).bind fun v1 =>
  (pu_ld (st.2 0) 10 9).bind fun v2 =>
  if 20 ≤ v2 then
    f_Md_claim_b27 st x1 x2 x3 0 32 x1 v1
  else
    f_Md_claim_b27 st x1 x2 x3 1 32 x1 v1
def f_Md_close_b70 : Nat → pu_St → Int32 → Int32 → Int32 → Int32 → Int32 → Int32 → Option (Int32 × pu_St)
  | 0, _, _, _, _, _, _, _ => none
  | n + 1, st, x1, x2, x3, x4, x5, x6 =>
    (pu_ld (st.2 0) 10 9).bind fun v9 =>
    if v9 ≤ x6 then
      some (x5, st)
    else
      (pu_ld (st.2 23) 20 x6).bind fun v11 =>
      if v11 = 0 then
        f_Md_close_b70 n st x1 x2 x3 x4 x5 (x6 + 1)
      else
        (pu_ld (st.2 21) 20 x6).bind fun v13 =>
        (pu_ld (st.2 21) 20 (x2 - 900)).bind fun v14 =>
        if v13 = v14 then
          f_Md_close_b70 n st x1 x2 x3 x4 (x5 + 1) (x6 + 1)
        else
          f_Md_close_b70 n st x1 x2 x3 x4 x5 (x6 + 1)
def f_Md_close_b39 (st : pu_St) (x1 x2 x3 x4 z0 z2 : Int32) : Option (Int32 × pu_St) :=
  (pu_ld (st.2 23) 20 z0).bind fun v4 =>
  (f_Md_then st z2 v4 17).bind fun v5 =>
  (f_Md_holds st v5).bind fun q6 =>
  if q6.1 = 0 then
    some (0, q6.2)
  else
    (pu_sd (q6.2.2 23) 20 (x2 - 900) 0).bind fun g8 =>
    f_Md_close_b70 pu_fu (q6.2.1, va_up q6.2.2 23 g8) x1 x2 x3 x4 0 0
def f_Md_close (st : pu_St) (x1 x2 : Int32) : Option (Int32 × pu_St) :=
  (f_Md_is st x2 9).bind fun v1 =>
  (f_Md_first st v1 x1 32 1).bind fun v2 =>
  if v1 = 0 then
    f_Md_close_b39 st x1 x2 v1 v2 0 v2
  else
    f_Md_close_b39 st x1 x2 v1 v2 (x2 - 900) v2
def f_Md_where_b15 (st : pu_St) (x1 x2 z0 : Int32) : Option (Int32 × pu_St) :=
  (f_Md_isDay st x2).bind fun v3 =>
  (f_Md_then st z0 v3 4).bind fun v4 =>
  (f_Md_holdsShort st v4).bind fun q5 =>
  if q5.1 = 0 then
    some (0, q5.2)
  else
    (f_Md_dayOf q5.2 x1).bind fun v7 =>
    if v7 ≤ x2 then
      (f_Md_loanAt q5.2 x1 x2 x2).bind fun v9 =>
      (f_Md_showAt q5.2 x1 x2 x2 (-1)).bind fun v10 =>
      (f_Md_placeOf q5.2 (x1 - 500) x2).bind fun v11 =>
      if v9 ≤ 0 then
        if v10 ≤ 0 then
          if v11 ≤ 0 then
            some (1, q5.2)
          else
            some (v11, q5.2)
        else
          some (v10, q5.2)
      else
        some (v9, q5.2)
    else
      some (0, q5.2)
def f_Md_where (st : pu_St) (x1 x2 : Int32) : Option (Int32 × pu_St) :=
  (f_Md_is st x1 5).bind fun v1 =>
  if v1 = 0 then
    f_Md_where_b15 st x1 x2 1
  else
    f_Md_where_b15 st x1 x2 0
def f_Md_origin_b33 (st : pu_St) (x1 z0 : Int32) : Option (Int32 × pu_St) :=
  (f_Md_holds st z0).bind fun q7 =>
  if q7.1 = 0 then
    some (0, q7.2)
  else
    if 400 ≤ x1 then
      if 500 ≤ x1 then
        (pu_ld (q7.2.2 9) 30 (x1 - 500)).bind fun v11 =>
        some (v11, q7.2)
      else
        (pu_ld (q7.2.2 7) 30 (x1 - 400)).bind fun v12 =>
        some (v12, q7.2)
    else
      (pu_ld (q7.2.2 2) 20 (x1 - 300)).bind fun v13 =>
      some (v13, q7.2)
def f_Md_origin_b28 (st : pu_St) (x1 : Int32) : Option (Int32 × pu_St) :=
  f_Md_origin_b33 st x1 0
def f_Md_origin (st : pu_St) (x1 : Int32) : Option (Int32 × pu_St) :=
  (f_Md_is st x1 3).bind fun v1 =>
  if v1 = 0 then
    (f_Md_is st x1 4).bind fun v3 =>
    if v3 = 0 then
      (f_Md_is st x1 5).bind fun v5 =>
      if v5 = 0 then
        f_Md_origin_b33 st x1 1
      else
        f_Md_origin_b28 st x1
    else
      f_Md_origin_b28 st x1
  else
    f_Md_origin_b28 st x1
def f_Md_hall_b16 (st : pu_St) (x1 z0 : Int32) : Option (Int32 × pu_St) :=
  (f_Md_holds st z0).bind fun q3 =>
  if q3.1 = 0 then
    some (0, q3.2)
  else
    (pu_ld (q3.2.2 17) 10 (x1 - 800)).bind fun v5 =>
    some (v5, q3.2)
def f_Md_hall (st : pu_St) (x1 : Int32) : Option (Int32 × pu_St) :=
  (f_Md_is st x1 8).bind fun v1 =>
  if v1 = 0 then
    f_Md_hall_b16 st x1 1
  else
    f_Md_hall_b16 st x1 0
def f_Md_rule (st : pu_St) : Option (Int32 × pu_St) :=
  some ((st.1 1), (va_up st.1 0 0, st.2))
def f_Md_count_b16 (st : pu_St) (x1 z0 : Int32) : Option (Int32 × pu_St) :=
  if z0 = 0 then
    (pu_ld (st.2 0) 10 x1).bind fun v4 =>
    some (v4, (va_up st.1 0 z0, st.2))
  else
    some (0, (va_up st.1 0 z0, st.2))
def f_Md_count (st : pu_St) (x1 : Int32) : Option (Int32 × pu_St) :=
  (f_Md_lies st x1 1 9).bind fun v1 =>
  if v1 = 0 then
    f_Md_count_b16 st x1 1
  else
    f_Md_count_b16 st x1 0
