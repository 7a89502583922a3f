/-! THE HOUSE, PURE: printed by wip/whole/gen.py out of the bytecode -/
def f_Rg_numberFor_De_b23 (st : pu_St) (x1 x2 : Int32) : Option Int32 :=
  some (-1)
def f_Rg_numberFor_De (st : pu_St) (x1 : Int32) : Option Int32 :=
  if (x1 - 100) < 0 then
    f_Rg_numberFor_De_b23 st x1 (x1 - 100)
  else
    if (st.1 2) ≤ (x1 - 100) then
      f_Rg_numberFor_De_b23 st x1 (x1 - 100)
    else
      some (x1 - 100)
def f_H_numberOf_De (st : pu_St) (x2 : Int32) : pu_R :=
  (f_Rg_numberFor_De st x2).bind fun v1 =>
  if v1 = (-1) then
    some (.inr 1, (va_up st.1 1 1, st.2))
  else
    some (.inl v1, st)
def f_De_hasAll (st : pu_St) (x1 x2 : Int32) : Option Int32 :=
  (pu_ld (st.2 0) 6 x1).bind fun v1 =>
  if (v1 &&& x2) = x2 then
    some 1
  else
    some 0
def f_H_askRight (st : pu_St) (x1 x2 : Int32) : pu_R :=
  (f_De_hasAll st x1 x2).bind fun v1 =>
  if v1 = 0 then
    some (.inr 2, (va_up st.1 1 2, st.2))
  else
    some (.inl 0, st)
def f_Rg_isFull_De (st : pu_St) : Option Int32 :=
  if (st.1 2) < 6 then
    some 0
  else
    some 1
def f_H_askRoom (st : pu_St) (x1 : Int32) : pu_R :=
  if x1 = 0 then
    some (.inr 2, (va_up st.1 1 3, st.2))
  else
    some (.inl 0, st)
def f_H_ask (st : pu_St) (x1 x2 : Int32) : pu_R :=
  if x2 = 0 then
    some (.inr 3, (va_up st.1 1 x1, st.2))
  else
    some (.inl 0, st)
def f_Rg_enter_De (st : pu_St) : Option (Int32 × pu_St) :=
  some ((st.1 2), (va_up st.1 2 ((st.1 2) + 1), st.2))
def f_Rg_handleOf_De (st : pu_St) (x1 : Int32) : Option Int32 :=
  some (100 + x1)
def f_De_open (st : pu_St) (x1 : Int32) : Option (Int32 × pu_St) :=
  (f_Rg_enter_De st).bind fun q1 =>
  (pu_sd (q1.2.2 0) 6 q1.1 x1).bind fun g2 =>
  (f_Rg_handleOf_De (q1.2.1, va_up q1.2.2 0 g2) q1.1).bind fun v3 =>
  some (v3, (q1.2.1, va_up q1.2.2 0 g2))
def f_H_desk_b52 (st : pu_St) (x1 x2 x3 z0 z1 : Int32) : pu_R :=
  pu_xb (f_H_ask st z1 z0) fun v11 st12 =>
  (f_De_hasAll st12 x3 x2).bind fun v13 =>
  pu_xb (f_H_ask st12 5 v13) fun v14 st15 =>
  (f_De_open st15 x2).bind fun q16 =>
  some (.inl q16.1, q16.2)
def f_H_desk_b51 (st : pu_St) (x1 x2 x3 z0 : Int32) : pu_R :=
  f_H_desk_b52 st x1 x2 x3 0 z0
def f_H_desk_b32 (st : pu_St) (x1 x2 x3 z0 : Int32) : pu_R :=
  pu_xb (f_H_askRoom st z0) fun v7 st8 =>
  if x2 < 0 then
    f_H_desk_b51 st8 x1 x2 x3 4
  else
    if 63 < x2 then
      f_H_desk_b51 st8 x1 x2 x3 4
    else
      f_H_desk_b52 st8 x1 x2 x3 1 4
def f_H_desk (st : pu_St) (x1 x2 : Int32) : pu_R :=
  pu_xb (f_H_numberOf_De st x1) fun v1 st2 =>
  pu_xb (f_H_askRight st2 v1 1) fun v3 st4 =>
  (f_Rg_isFull_De st4).bind fun v5 =>
  if v5 = 0 then
    f_H_desk_b32 st4 x1 x2 v1 1
  else
    f_H_desk_b32 st4 x1 x2 v1 0
def f_H_day_b30 (st : pu_St) (x1 z0 z1 : Int32) : pu_R :=
  pu_xb (f_H_ask st z1 z0) fun v4 st5 =>
  some (.inl ((st5.1 0) + x1), (va_up st5.1 0 ((st5.1 0) + x1), st5.2))
def f_H_day_b29 (st : pu_St) (x1 z0 : Int32) : pu_R :=
  f_H_day_b30 st x1 0 z0
def f_H_day (st : pu_St) (x1 : Int32) : pu_R :=
  if x1 < 0 then
    f_H_day_b29 st x1 4
  else
    if 1000 < x1 then
      f_H_day_b29 st x1 4
    else
      if (9999 - (st.1 0)) < x1 then
        f_H_day_b29 st x1 4
      else
        f_H_day_b30 st x1 1 4
def f_Rg_isFull_Si (st : pu_St) : Option Int32 :=
  if (st.1 3) < 4 then
    some 0
  else
    some 1
def f_Rg_enter_Si (st : pu_St) : Option (Int32 × pu_St) :=
  some ((st.1 3), (va_up st.1 3 ((st.1 3) + 1), st.2))
def f_Rg_handleOf_Si (st : pu_St) (x1 : Int32) : Option Int32 :=
  some (200 + x1)
def f_Si_stakeOut (st : pu_St) : Option (Int32 × pu_St) :=
  (f_Rg_enter_Si st).bind fun q1 =>
  (f_Rg_handleOf_Si q1.2 q1.1).bind fun v2 =>
  some (v2, q1.2)
def f_H_site_b32 (st : pu_St) (x1 x2 z0 : Int32) : pu_R :=
  pu_xb (f_H_askRoom st z0) fun v7 st8 =>
  (f_Si_stakeOut st8).bind fun q9 =>
  some (.inl q9.1, q9.2)
def f_H_site (st : pu_St) (x1 : Int32) : pu_R :=
  pu_xb (f_H_numberOf_De st x1) fun v1 st2 =>
  pu_xb (f_H_askRight st2 v1 2) fun v3 st4 =>
  (f_Rg_isFull_Si st4).bind fun v5 =>
  if v5 = 0 then
    f_H_site_b32 st4 x1 v1 1
  else
    f_H_site_b32 st4 x1 v1 0
def f_Rg_numberFor_Si_b23 (st : pu_St) (x1 x2 : Int32) : Option Int32 :=
  some (-1)
def f_Rg_numberFor_Si (st : pu_St) (x1 : Int32) : Option Int32 :=
  if (x1 - 200) < 0 then
    f_Rg_numberFor_Si_b23 st x1 (x1 - 200)
  else
    if (st.1 3) ≤ (x1 - 200) then
      f_Rg_numberFor_Si_b23 st x1 (x1 - 200)
    else
      some (x1 - 200)
def f_H_numberOf_Si (st : pu_St) (x2 : Int32) : pu_R :=
  (f_Rg_numberFor_Si st x2).bind fun v1 =>
  if v1 = (-1) then
    some (.inr 1, (va_up st.1 1 1, st.2))
  else
    some (.inl v1, st)
def f_Rg_isFull_Co (st : pu_St) : Option Int32 :=
  if (st.1 4) < 20 then
    some 0
  else
    some 1
def f_Rg_enter_Co (st : pu_St) : Option (Int32 × pu_St) :=
  some ((st.1 4), (va_up st.1 4 ((st.1 4) + 1), st.2))
def f_Rg_handleOf_Co (st : pu_St) (x1 : Int32) : Option Int32 :=
  some (300 + x1)
def f_Co_dig (st : pu_St) (x1 : Int32) : Option (Int32 × pu_St) :=
  (f_Rg_enter_Co st).bind fun q1 =>
  (pu_sd (q1.2.2 1) 20 q1.1 x1).bind fun g2 =>
  (pu_sd (q1.2.2 2) 20 q1.1 0).bind fun g3 =>
  (pu_sd (q1.2.2 3) 20 q1.1 999).bind fun g4 =>
  (pu_sd (q1.2.2 4) 20 q1.1 0).bind fun g5 =>
  (f_Rg_handleOf_Co ((((q1.2.1, va_up q1.2.2 1 g2).1, va_up (q1.2.1, va_up q1.2.2 1 g2).2 2 g3).1, va_up ((q1.2.1, va_up q1.2.2 1 g2).1, va_up (q1.2.1, va_up q1.2.2 1 g2).2 2 g3).2 3 g4).1, va_up (((q1.2.1, va_up q1.2.2 1 g2).1, va_up (q1.2.1, va_up q1.2.2 1 g2).2 2 g3).1, va_up ((q1.2.1, va_up q1.2.2 1 g2).1, va_up (q1.2.1, va_up q1.2.2 1 g2).2 2 g3).2 3 g4).2 4 g5) q1.1).bind fun v6 =>
  some (v6, ((((q1.2.1, va_up q1.2.2 1 g2).1, va_up (q1.2.1, va_up q1.2.2 1 g2).2 2 g3).1, va_up ((q1.2.1, va_up q1.2.2 1 g2).1, va_up (q1.2.1, va_up q1.2.2 1 g2).2 2 g3).2 3 g4).1, va_up (((q1.2.1, va_up q1.2.2 1 g2).1, va_up (q1.2.1, va_up q1.2.2 1 g2).2 2 g3).1, va_up ((q1.2.1, va_up q1.2.2 1 g2).1, va_up (q1.2.1, va_up q1.2.2 1 g2).2 2 g3).2 3 g4).2 4 g5))
def f_H_context_b43 (st : pu_St) (x1 x2 x3 x4 z0 : Int32) : pu_R :=
  pu_xb (f_H_askRoom st z0) fun v9 st10 =>
  (f_Co_dig st10 x4).bind fun q11 =>
  some (.inl q11.1, q11.2)
def f_H_context (st : pu_St) (x1 x2 : Int32) : pu_R :=
  pu_xb (f_H_numberOf_De st x1) fun v1 st2 =>
  pu_xb (f_H_numberOf_Si st2 x2) fun v3 st4 =>
  pu_xb (f_H_askRight st4 v1 2) fun v5 st6 =>
  (f_Rg_isFull_Co st6).bind fun v7 =>
  if v7 = 0 then
    f_H_context_b43 st6 x1 x2 v1 v3 1
  else
    f_H_context_b43 st6 x1 x2 v1 v3 0
def f_Rg_numberFor_Co_b23 (st : pu_St) (x1 x2 : Int32) : Option Int32 :=
  some (-1)
def f_Rg_numberFor_Co (st : pu_St) (x1 : Int32) : Option Int32 :=
  if (x1 - 300) < 0 then
    f_Rg_numberFor_Co_b23 st x1 (x1 - 300)
  else
    if (st.1 4) ≤ (x1 - 300) then
      f_Rg_numberFor_Co_b23 st x1 (x1 - 300)
    else
      some (x1 - 300)
def f_H_numberOf_Co (st : pu_St) (x2 : Int32) : pu_R :=
  (f_Rg_numberFor_Co st x2).bind fun v1 =>
  if v1 = (-1) then
    some (.inr 1, (va_up st.1 1 1, st.2))
  else
    some (.inl v1, st)
def f_Co_siteOf (st : pu_St) (x1 : Int32) : Option Int32 :=
  (pu_ld (st.2 1) 20 x1).bind fun v1 =>
  some v1
def f_Rg_size_Co (st : pu_St) : Option Int32 :=
  some (st.1 4)
def f_Co_isOver (st : pu_St) (x1 x2 : Int32) : Option Int32 :=
  (pu_ld (st.2 4) 20 x1).bind fun v1 =>
  if (v1 &&& (1 <<< (x2 &&& 31))) = 0 then
    some 0
  else
    some 1
def f_Co_greatestFirstBelow_b4 : Nat → pu_St → Int32 → Int32 → Int32 → Option Int32
  | 0, _, _, _, _ => none
  | n + 1, st, x1, x2, x3 =>
    (f_Rg_size_Co st).bind fun v1 =>
    if v1 ≤ x3 then
      some x2
    else
      (f_Co_isOver st x1 x3).bind fun v3 =>
      if v3 = 0 then
        f_Co_greatestFirstBelow_b4 n st x1 x2 (x3 + 1)
      else
        (pu_ld (st.2 2) 20 x3).bind fun v5 =>
        f_Co_greatestFirstBelow_b4 n st x1 (if x2 < v5 then v5 else x2) (x3 + 1)
def f_Co_greatestFirstBelow (st : pu_St) (x1 : Int32) : Option Int32 :=
  f_Co_greatestFirstBelow_b4 pu_fu st x1 0 0
def f_Co_earliest (st : pu_St) (x1 : Int32) : Option Int32 :=
  (pu_ld (st.2 2) 20 x1).bind fun v1 =>
  (f_Co_greatestFirstBelow st x1).bind fun v2 =>
  some (if v1 < v2 then v2 else v1)
def f_Co_leastLastAbove_b6 : Nat → pu_St → Int32 → Int32 → Int32 → Option Int32
  | 0, _, _, _, _ => none
  | n + 1, st, x1, x2, x3 =>
    (f_Rg_size_Co st).bind fun v1 =>
    if v1 ≤ x3 then
      some x2
    else
      (f_Co_isOver st x3 x1).bind fun v3 =>
      if v3 = 0 then
        f_Co_leastLastAbove_b6 n st x1 x2 (x3 + 1)
      else
        (pu_ld (st.2 3) 20 x3).bind fun v5 =>
        f_Co_leastLastAbove_b6 n st x1 (if v5 < x2 then v5 else x2) (x3 + 1)
def f_Co_leastLastAbove (st : pu_St) (x1 : Int32) : Option Int32 :=
  f_Co_leastLastAbove_b6 pu_fu st x1 999 0
def f_Co_latest (st : pu_St) (x1 : Int32) : Option Int32 :=
  (pu_ld (st.2 3) 20 x1).bind fun v1 =>
  (f_Co_leastLastAbove st x1).bind fun v2 =>
  some (if v2 < v1 then v2 else v1)
def f_Co_yearsLetOver (st : pu_St) (x1 x2 : Int32) : Option Int32 :=
  (f_Co_earliest st x2).bind fun v1 =>
  (f_Co_latest st x1).bind fun v2 =>
  if v2 < v1 then
    some 0
  else
    some 1
def f_Co_putOver_b14 : Nat → pu_St → Int32 → Int32 → Int32 → Int32 → Option (Int32 × pu_St)
  | 0, _, _, _, _, _ => none
  | n + 1, st, x1, x2, x3, x4 =>
    (f_Rg_size_Co st).bind fun v2 =>
    if v2 ≤ x4 then
      some (0, st)
    else
      if x4 = x1 then
        (pu_ld (st.2 4) 20 x4).bind fun v5 =>
        (pu_sd (st.2 4) 20 x4 (v5 ||| x3)).bind fun g6 =>
        f_Co_putOver_b14 n (st.1, va_up st.2 4 g6) x1 x2 x3 (x4 + 1)
      else
        (f_Co_isOver st x4 x1).bind fun v7 =>
        if v7 = 0 then
          f_Co_putOver_b14 n st x1 x2 x3 (x4 + 1)
        else
          (pu_ld (st.2 4) 20 x4).bind fun v9 =>
          (pu_sd (st.2 4) 20 x4 (v9 ||| x3)).bind fun g10 =>
          f_Co_putOver_b14 n (st.1, va_up st.2 4 g10) x1 x2 x3 (x4 + 1)
def f_Co_putOver (st : pu_St) (x1 x2 : Int32) : Option (Int32 × pu_St) :=
  (pu_ld (st.2 4) 20 x2).bind fun v1 =>
  f_Co_putOver_b14 pu_fu st x1 x2 (v1 ||| (1 <<< (x2 &&& 31))) 0
def f_H_above_b140 (st : pu_St) (x1 x2 x3 x4 x5 x6 z0 : Int32) : pu_R :=
  (f_Co_putOver st x5 x6).bind fun q24 =>
  (pu_bo z0).bind fun b25 =>
  some (.inl b25, q24.2)
def f_H_above_b101 (st : pu_St) (x1 x2 x3 x4 x5 x6 z0 z1 : Int32) : pu_R :=
  pu_xb (f_H_ask st z1 z0) fun v17 st18 =>
  (f_Co_yearsLetOver st18 x5 x6).bind fun v19 =>
  pu_xb (f_H_ask st18 8 v19) fun v20 st21 =>
  (f_Co_isOver st21 x5 x6).bind fun v22 =>
  if v22 = 0 then
    f_H_above_b140 st21 x1 x2 x3 x4 x5 x6 1
  else
    f_H_above_b140 st21 x1 x2 x3 x4 x5 x6 0
def f_H_above_b100 (st : pu_St) (x1 x2 x3 x4 x5 x6 z0 : Int32) : pu_R :=
  f_H_above_b101 st x1 x2 x3 x4 x5 x6 0 z0
def f_H_above_b69 (st : pu_St) (x1 x2 x3 x4 x5 x6 z0 z1 : Int32) : pu_R :=
  pu_xb (f_H_ask st z1 z0) fun v12 st13 =>
  if x5 = x6 then
    f_H_above_b100 st13 x1 x2 x3 x4 x5 x6 7
  else
    (f_Co_isOver st13 x6 x5).bind fun v15 =>
    if v15 = 0 then
      f_H_above_b101 st13 x1 x2 x3 x4 x5 x6 1 7
    else
      f_H_above_b100 st13 x1 x2 x3 x4 x5 x6 7
def f_H_above (st : pu_St) (x1 x2 x3 : Int32) : pu_R :=
  pu_xb (f_H_numberOf_De st x1) fun v1 st2 =>
  pu_xb (f_H_numberOf_Co st2 x2) fun v3 st4 =>
  pu_xb (f_H_numberOf_Co st4 x3) fun v5 st6 =>
  pu_xb (f_H_askRight st6 v1 2) fun v7 st8 =>
  (f_Co_siteOf st8 v3).bind fun v9 =>
  (f_Co_siteOf st8 v5).bind fun v10 =>
  if v9 = v10 then
    f_H_above_b69 st8 x1 x2 x3 v1 v3 v5 1 6
  else
    f_H_above_b69 st8 x1 x2 x3 v1 v3 v5 0 6
def f_Co_yearsLetSpan (st : pu_St) (x1 x2 x3 : Int32) : Option Int32 :=
  (f_Co_greatestFirstBelow st x1).bind fun v1 =>
  if x3 < v1 then
    some 0
  else
    (f_Co_leastLastAbove st x1).bind fun v3 =>
    if v3 < x2 then
      some 0
    else
      some 1
def f_Co_setSpan (st : pu_St) (x1 x2 x3 : Int32) : Option (Int32 × pu_St) :=
  (pu_sd (st.2 2) 20 x1 x2).bind fun g1 =>
  (pu_sd (st.2 3) 20 x1 x3).bind fun g2 =>
  some (0, ((st.1, va_up st.2 2 g1).1, va_up (st.1, va_up st.2 2 g1).2 3 g2))
def f_H_span_b54 (st : pu_St) (x1 x2 x3 x4 x5 x6 z0 z1 : Int32) : pu_R :=
  pu_xb (f_H_ask st z1 z0) fun v10 st11 =>
  (f_Co_yearsLetSpan st11 x6 x3 x4).bind fun v12 =>
  pu_xb (f_H_ask st11 8 v12) fun v13 st14 =>
  (f_Co_setSpan st14 x6 x3 x4).bind fun q15 =>
  (f_Co_earliest q15.2 x6).bind fun v16 =>
  some (.inl v16, q15.2)
def f_H_span_b53 (st : pu_St) (x1 x2 x3 x4 x5 x6 z0 : Int32) : pu_R :=
  f_H_span_b54 st x1 x2 x3 x4 x5 x6 0 z0
def f_H_span (st : pu_St) (x1 x2 x3 x4 : Int32) : pu_R :=
  pu_xb (f_H_numberOf_De st x1) fun v1 st2 =>
  pu_xb (f_H_numberOf_Co st2 x2) fun v3 st4 =>
  pu_xb (f_H_askRight st4 v1 2) fun v5 st6 =>
  if x3 < 0 then
    f_H_span_b53 st6 x1 x2 x3 x4 v1 v3 4
  else
    if x4 < x3 then
      f_H_span_b53 st6 x1 x2 x3 x4 v1 v3 4
    else
      if 999 < x4 then
        f_H_span_b53 st6 x1 x2 x3 x4 v1 v3 4
      else
        f_H_span_b54 st6 x1 x2 x3 x4 v1 v3 1 4
def f_H_isAbove (st : pu_St) (x1 x2 : Int32) : pu_R :=
  pu_xb (f_H_numberOf_Co st x1) fun v1 st2 =>
  pu_xb (f_H_numberOf_Co st2 x2) fun v3 st4 =>
  (f_Co_isOver st4 v1 v3).bind fun v5 =>
  (pu_bo v5).bind fun b6 =>
  some (.inl b6, st4)
def f_H_year_b26 (st : pu_St) (x1 x2 x3 z0 z1 : Int32) : pu_R :=
  pu_xb (f_H_ask st z1 z0) fun v5 st6 =>
  if x2 = 0 then
    (f_Co_earliest st6 x3).bind fun v9 =>
    some (.inl v9, st6)
  else
    (f_Co_latest st6 x3).bind fun v8 =>
    some (.inl v8, st6)
def f_H_year_b21 (st : pu_St) (x1 x2 x3 z0 : Int32) : pu_R :=
  f_H_year_b26 st x1 x2 x3 1 z0
def f_H_year (st : pu_St) (x1 x2 : Int32) : pu_R :=
  pu_xb (f_H_numberOf_Co st x1) fun v1 st2 =>
  if x2 = 0 then
    f_H_year_b21 st2 x1 x2 v1 4
  else
    if x2 = 1 then
      f_H_year_b21 st2 x1 x2 v1 4
    else
      f_H_year_b26 st2 x1 x2 v1 0 4
def f_Rg_isFull_Fi (st : pu_St) : Option Int32 :=
  if (st.1 5) < 30 then
    some 0
  else
    some 1
def f_H_isDay (st : pu_St) (x0 : Int32) : Option Int32 :=
  if x0 < 0 then
    some 0
  else
    if 9999 < x0 then
      some 0
    else
      some 1
def f_Rg_enter_Fi (st : pu_St) : Option (Int32 × pu_St) :=
  some ((st.1 5), (va_up st.1 5 ((st.1 5) + 1), st.2))
def f_Rg_handleOf_Fi (st : pu_St) (x1 : Int32) : Option Int32 :=
  some (400 + x1)
def f_Fi_bringUp (st : pu_St) (x1 x2 : Int32) : Option (Int32 × pu_St) :=
  (f_Rg_enter_Fi st).bind fun q1 =>
  (pu_sd (q1.2.2 5) 30 q1.1 x1).bind fun g2 =>
  (pu_sd (q1.2.2 6) 30 q1.1 x2).bind fun g3 =>
  (f_Rg_handleOf_Fi ((q1.2.1, va_up q1.2.2 5 g2).1, va_up (q1.2.1, va_up q1.2.2 5 g2).2 6 g3) q1.1).bind fun v4 =>
  some (v4, ((q1.2.1, va_up q1.2.2 5 g2).1, va_up (q1.2.1, va_up q1.2.2 5 g2).2 6 g3))
def f_H_find_b70 (st : pu_St) (x1 x2 x3 x4 x5 z0 z1 : Int32) : pu_R :=
  pu_xb (f_H_ask st z1 z0) fun v14 st15 =>
  (f_Fi_bringUp st15 x5 x3).bind fun q16 =>
  some (.inl q16.1, q16.2)
def f_H_find_b69 (st : pu_St) (x1 x2 x3 x4 x5 z0 : Int32) : pu_R :=
  f_H_find_b70 st x1 x2 x3 x4 x5 0 z0
def f_H_find_b45 (st : pu_St) (x1 x2 x3 x4 x5 z0 : Int32) : pu_R :=
  pu_xb (f_H_askRoom st z0) fun v9 st10 =>
  (f_H_isDay st10 x3).bind fun v11 =>
  if v11 = 0 then
    f_H_find_b69 st10 x1 x2 x3 x4 x5 4
  else
    if (st10.1 0) < x3 then
      f_H_find_b69 st10 x1 x2 x3 x4 x5 4
    else
      f_H_find_b70 st10 x1 x2 x3 x4 x5 1 4
def f_H_find (st : pu_St) (x1 x2 x3 : Int32) : pu_R :=
  pu_xb (f_H_numberOf_De st x1) fun v1 st2 =>
  pu_xb (f_H_numberOf_Co st2 x2) fun v3 st4 =>
  pu_xb (f_H_askRight st4 v1 2) fun v5 st6 =>
  (f_Rg_isFull_Fi st6).bind fun v7 =>
  if v7 = 0 then
    f_H_find_b45 st6 x1 x2 x3 v1 v3 1
  else
    f_H_find_b45 st6 x1 x2 x3 v1 v3 0
def f_Rg_numberFor_Fi_b23 (st : pu_St) (x1 x2 : Int32) : Option Int32 :=
  some (-1)
def f_Rg_numberFor_Fi (st : pu_St) (x1 : Int32) : Option Int32 :=
  if (x1 - 400) < 0 then
    f_Rg_numberFor_Fi_b23 st x1 (x1 - 400)
  else
    if (st.1 5) ≤ (x1 - 400) then
      f_Rg_numberFor_Fi_b23 st x1 (x1 - 400)
    else
      some (x1 - 400)
def f_H_numberOf_Fi (st : pu_St) (x2 : Int32) : pu_R :=
  (f_Rg_numberFor_Fi st x2).bind fun v1 =>
  if v1 = (-1) then
    some (.inr 1, (va_up st.1 1 1, st.2))
  else
    some (.inl v1, st)
def f_Rg_isFull_It (st : pu_St) : Option Int32 :=
  if (st.1 6) < 30 then
    some 0
  else
    some 1
def f_Rg_size_It (st : pu_St) : Option Int32 :=
  some (st.1 6)
def f_It_hasFind_b2 : Nat → pu_St → Int32 → Int32 → Option Int32
  | 0, _, _, _ => none
  | n + 1, st, x1, x2 =>
    (f_Rg_size_It st).bind fun v1 =>
    if v1 ≤ x2 then
      some 0
    else
      (pu_ld (st.2 7) 30 x2).bind fun v3 =>
      if v3 = x1 then
        some 1
      else
        f_It_hasFind_b2 n st x1 (x2 + 1)
def f_It_hasFind (st : pu_St) (x1 : Int32) : Option Int32 :=
  f_It_hasFind_b2 pu_fu st x1 0
def f_Fi_dayOf (st : pu_St) (x1 : Int32) : Option Int32 :=
  (pu_ld (st.2 6) 30 x1).bind fun v1 =>
  some v1
def f_Rg_enter_It (st : pu_St) : Option (Int32 × pu_St) :=
  some ((st.1 6), (va_up st.1 6 ((st.1 6) + 1), st.2))
def f_Rg_handleOf_It (st : pu_St) (x1 : Int32) : Option Int32 :=
  some (500 + x1)
def f_It_accept (st : pu_St) (x1 x2 : Int32) : Option (Int32 × pu_St) :=
  (f_Rg_enter_It st).bind fun q1 =>
  (pu_sd (q1.2.2 7) 30 q1.1 x1).bind fun g2 =>
  (pu_sd (q1.2.2 8) 30 q1.1 x2).bind fun g3 =>
  (f_Rg_handleOf_It ((q1.2.1, va_up q1.2.2 7 g2).1, va_up (q1.2.1, va_up q1.2.2 7 g2).2 8 g3) q1.1).bind fun v4 =>
  some (v4, ((q1.2.1, va_up q1.2.2 7 g2).1, va_up (q1.2.1, va_up q1.2.2 7 g2).2 8 g3))
def f_H_object_b66 (st : pu_St) (x1 x2 x3 x4 z0 z1 : Int32) : pu_R :=
  pu_xb (f_H_ask st z1 z0) fun v13 st14 =>
  (f_Fi_dayOf st14 x4).bind fun v15 =>
  (f_It_accept st14 x4 v15).bind fun q16 =>
  some (.inl q16.1, q16.2)
def f_H_object_b43 (st : pu_St) (x1 x2 x3 x4 z0 : Int32) : pu_R :=
  pu_xb (f_H_askRoom st z0) fun v9 st10 =>
  (f_It_hasFind st10 x4).bind fun v11 =>
  if v11 = 0 then
    f_H_object_b66 st10 x1 x2 x3 x4 1 9
  else
    f_H_object_b66 st10 x1 x2 x3 x4 0 9
def f_H_object (st : pu_St) (x1 x2 : Int32) : pu_R :=
  pu_xb (f_H_numberOf_De st x1) fun v1 st2 =>
  pu_xb (f_H_numberOf_Fi st2 x2) fun v3 st4 =>
  pu_xb (f_H_askRight st4 v1 4) fun v5 st6 =>
  (f_Rg_isFull_It st6).bind fun v7 =>
  if v7 = 0 then
    f_H_object_b43 st6 x1 x2 v1 v3 1
  else
    f_H_object_b43 st6 x1 x2 v1 v3 0
def f_Rg_numberFor_So_b23 (st : pu_St) (x1 x2 : Int32) : Option Int32 :=
  some (-1)
def f_Rg_numberFor_So (st : pu_St) (x1 : Int32) : Option Int32 :=
  if (x1 - 600) < 0 then
    f_Rg_numberFor_So_b23 st x1 (x1 - 600)
  else
    if (st.1 7) ≤ (x1 - 600) then
      f_Rg_numberFor_So_b23 st x1 (x1 - 600)
    else
      some (x1 - 600)
def f_H_numberOf_So (st : pu_St) (x2 : Int32) : pu_R :=
  (f_Rg_numberFor_So st x2).bind fun v1 =>
  if v1 = (-1) then
    some (.inr 1, (va_up st.1 1 1, st.2))
  else
    some (.inl v1, st)
def f_H_parentNumberOf (st : pu_St) (x1 : Int32) : pu_R :=
  if x1 = 0 then
    some (.inl (-1), st)
  else
    pu_xb (f_H_numberOf_So st x1) fun v2 st3 =>
    some (.inl v2, st3)
def f_Rg_isFull_So (st : pu_St) : Option Int32 :=
  if (st.1 7) < 16 then
    some 0
  else
    some 1
def f_Rg_enter_So (st : pu_St) : Option (Int32 × pu_St) :=
  some ((st.1 7), (va_up st.1 7 ((st.1 7) + 1), st.2))
def f_Rg_handleOf_So (st : pu_St) (x1 : Int32) : Option Int32 :=
  some (600 + x1)
def f_So_build (st : pu_St) (x1 : Int32) : Option (Int32 × pu_St) :=
  (f_Rg_enter_So st).bind fun q1 =>
  (pu_sd (q1.2.2 12) 16 q1.1 x1).bind fun g2 =>
  (f_Rg_handleOf_So (q1.2.1, va_up q1.2.2 12 g2) q1.1).bind fun v3 =>
  some (v3, (q1.2.1, va_up q1.2.2 12 g2))
def f_H_store_b39 (st : pu_St) (x1 x2 x3 x4 z0 : Int32) : pu_R :=
  pu_xb (f_H_askRoom st z0) fun v9 st10 =>
  (f_So_build st10 x4).bind fun q11 =>
  some (.inl q11.1, q11.2)
def f_H_store (st : pu_St) (x1 x2 : Int32) : pu_R :=
  pu_xb (f_H_numberOf_De st x1) fun v1 st2 =>
  pu_xb (f_H_parentNumberOf st2 x2) fun v3 st4 =>
  pu_xb (f_H_askRight st4 v1 4) fun v5 st6 =>
  (f_Rg_isFull_So st6).bind fun v7 =>
  if v7 = 0 then
    f_H_store_b39 st6 x1 x2 v1 v3 1
  else
    f_H_store_b39 st6 x1 x2 v1 v3 0
def f_So_parentOf (st : pu_St) (x1 : Int32) : Option Int32 :=
  (pu_ld (st.2 12) 16 x1).bind fun v1 =>
  some v1
def f_So_setParent (st : pu_St) (x1 x2 : Int32) : Option (Int32 × pu_St) :=
  (pu_sd (st.2 12) 16 x1 x2).bind fun g1 =>
  some (0, (st.1, va_up st.2 12 g1))
def f_So_isIn_b10 : Nat → pu_St → Int32 → Int32 → Int32 → Int32 → Option Int32
  | 0, _, _, _, _, _ => none
  | n + 1, st, x1, x2, x3, x4 =>
    if 16 ≤ x4 then
      some 0
    else
      if x3 = (-1) then
        some 0
      else
        if x3 = x2 then
          some 1
        else
          (pu_ld (st.2 12) 16 x3).bind fun v5 =>
          f_So_isIn_b10 n st x1 x2 v5 (x4 + 1)
def f_So_isIn (st : pu_St) (x1 x2 : Int32) : Option Int32 :=
  (pu_ld (st.2 12) 16 x1).bind fun v1 =>
  f_So_isIn_b10 pu_fu st x1 x2 v1 0
def f_So_isAtOrIn (st : pu_St) (x1 x2 : Int32) : Option Int32 :=
  if x1 = x2 then
    some 1
  else
    (f_So_isIn st x1 x2).bind fun v2 =>
    if v2 = 0 then
      some 0
    else
      some 1
def f_H_carry_b86 (st : pu_St) (x1 x2 x3 x4 x5 x6 z0 : Int32) : pu_R :=
  (f_So_setParent st x5 x6).bind fun q16 =>
  (pu_bo z0).bind fun b17 =>
  some (.inl b17, q16.2)
def f_H_carry_b64 (st : pu_St) (x1 x2 x3 x4 x5 x6 z0 z1 : Int32) : pu_R :=
  pu_xb (f_H_ask st z1 z0) fun v12 st13 =>
  (f_So_parentOf st13 x5).bind fun v14 =>
  if v14 = x6 then
    f_H_carry_b86 st13 x1 x2 x3 x4 x5 x6 0
  else
    f_H_carry_b86 st13 x1 x2 x3 x4 x5 x6 1
def f_H_carry_b59 (st : pu_St) (x1 x2 x3 x4 x5 x6 z0 : Int32) : pu_R :=
  f_H_carry_b64 st x1 x2 x3 x4 x5 x6 1 z0
def f_H_carry (st : pu_St) (x1 x2 x3 : Int32) : pu_R :=
  pu_xb (f_H_numberOf_De st x1) fun v1 st2 =>
  pu_xb (f_H_numberOf_So st2 x2) fun v3 st4 =>
  pu_xb (f_H_parentNumberOf st4 x3) fun v5 st6 =>
  pu_xb (f_H_askRight st6 v1 4) fun v7 st8 =>
  if v5 = (-1) then
    f_H_carry_b59 st8 x1 x2 x3 v1 v3 v5 10
  else
    (f_So_isAtOrIn st8 v5 v3).bind fun v10 =>
    if v10 = 0 then
      f_H_carry_b59 st8 x1 x2 x3 v1 v3 v5 10
    else
      f_H_carry_b64 st8 x1 x2 x3 v1 v3 v5 0 10
def f_H_within (st : pu_St) (x1 x2 : Int32) : pu_R :=
  pu_xb (f_H_numberOf_So st x1) fun v1 st2 =>
  pu_xb (f_H_numberOf_So st2 x2) fun v3 st4 =>
  (f_So_isIn st4 v1 v3).bind fun v5 =>
  (pu_bo v5).bind fun b6 =>
  some (.inl b6, st4)
def f_Rg_numberFor_It_b23 (st : pu_St) (x1 x2 : Int32) : Option Int32 :=
  some (-1)
def f_Rg_numberFor_It (st : pu_St) (x1 : Int32) : Option Int32 :=
  if (x1 - 500) < 0 then
    f_Rg_numberFor_It_b23 st x1 (x1 - 500)
  else
    if (st.1 6) ≤ (x1 - 500) then
      f_Rg_numberFor_It_b23 st x1 (x1 - 500)
    else
      some (x1 - 500)
def f_H_numberOf_It (st : pu_St) (x2 : Int32) : pu_R :=
  (f_Rg_numberFor_It st x2).bind fun v1 =>
  if v1 = (-1) then
    some (.inr 1, (va_up st.1 1 1, st.2))
  else
    some (.inl v1, st)
def f_Mo_firstSlot (st : pu_St) (x1 : Int32) : Option Int32 :=
  some (x1 * 12)
def f_Mo_endOfSlots (st : pu_St) (x1 : Int32) : Option Int32 :=
  (f_Mo_firstSlot st x1).bind fun v1 =>
  (pu_ld (st.2 11) 30 x1).bind fun v2 =>
  some (v1 + v2)
def f_Mo_slotOf_b13 : Nat → pu_St → Int32 → Int32 → Int32 → Int32 → Option Int32
  | 0, _, _, _, _, _ => none
  | n + 1, st, x1, x2, x3, x4 =>
    if x3 ≤ x4 then
      some (-1)
    else
      (pu_ld (st.2 9) 360 x4).bind fun v4 =>
      if v4 = x2 then
        some x4
      else
        f_Mo_slotOf_b13 n st x1 x2 x3 (x4 + 1)
def f_Mo_slotOf (st : pu_St) (x1 x2 : Int32) : Option Int32 :=
  (f_Mo_endOfSlots st x1).bind fun v1 =>
  (f_Mo_firstSlot st x1).bind fun v2 =>
  f_Mo_slotOf_b13 pu_fu st x1 x2 v1 v2
def f_Mo_hasDay (st : pu_St) (x1 x2 : Int32) : Option Int32 :=
  (f_Mo_slotOf st x1 x2).bind fun v1 =>
  if v1 = (-1) then
    some 0
  else
    some 1
def f_It_dayOf (st : pu_St) (x1 : Int32) : Option Int32 :=
  (pu_ld (st.2 8) 30 x1).bind fun v1 =>
  some v1
def f_Rg_size_Lo (st : pu_St) : Option Int32 :=
  some (st.1 8)
def f_H_daysMeet (st : pu_St) (x0 x1 x2 x3 : Int32) : Option Int32 :=
  if x3 < x0 then
    some 0
  else
    if x1 < x2 then
      some 0
    else
      some 1
def f_Lo_having_b3 : Nat → pu_St → Int32 → Int32 → Int32 → Int32 → Option Int32
  | 0, _, _, _, _, _ => none
  | n + 1, st, x1, x2, x3, x4 =>
    (f_Rg_size_Lo st).bind fun v1 =>
    if v1 ≤ x4 then
      some (-1)
    else
      (pu_ld (st.2 13) 40 x4).bind fun v3 =>
      if v3 = x1 then
        (pu_ld (st.2 14) 40 x4).bind fun v5 =>
        (pu_ld (st.2 15) 40 x4).bind fun v6 =>
        (f_H_daysMeet st v5 v6 x2 x3).bind fun v7 =>
        if v7 = 0 then
          f_Lo_having_b3 n st x1 x2 x3 (x4 + 1)
        else
          some x4
      else
        f_Lo_having_b3 n st x1 x2 x3 (x4 + 1)
def f_Lo_having (st : pu_St) (x1 x2 x3 : Int32) : Option Int32 :=
  f_Lo_having_b3 pu_fu st x1 x2 x3 0
def f_Mo_tell_b31 (st : pu_St) (x1 x2 x3 x4 : Int32) : Option (Int32 × pu_St) :=
  (pu_sd (st.2 9) 360 x4 x3).bind fun g6 =>
  (pu_sd (st.2 10) 360 x4 x2).bind fun g7 =>
  some (0, ((st.1, va_up st.2 9 g6).1, va_up (st.1, va_up st.2 9 g6).2 10 g7))
def f_Mo_tell (st : pu_St) (x1 x2 x3 : Int32) : Option (Int32 × pu_St) :=
  (f_Mo_slotOf st x1 x3).bind fun v1 =>
  if v1 = (-1) then
    (f_Mo_endOfSlots st x1).bind fun v3 =>
    (pu_ld (st.2 11) 30 x1).bind fun v4 =>
    (pu_sd (st.2 11) 30 x1 (v4 + 1)).bind fun g5 =>
    f_Mo_tell_b31 (st.1, va_up st.2 11 g5) x1 x2 x3 v3
  else
    f_Mo_tell_b31 st x1 x2 x3 v1
def f_Mo_isFullFor (st : pu_St) (x1 : Int32) : Option Int32 :=
  (pu_ld (st.2 11) 30 x1).bind fun v1 =>
  if v1 < 12 then
    some 0
  else
    some 1
def f_H_move_b164 (st : pu_St) (x1 x2 x3 x4 x5 x6 x7 x8 z0 z1 : Int32) : pu_R :=
  pu_xb (f_H_ask st z1 z0) fun v27 st28 =>
  (f_Mo_tell st28 x6 x7 x4).bind fun q29 =>
  (pu_bo x8).bind fun b30 =>
  some (.inl b30, q29.2)
def f_H_move_b136 (st : pu_St) (x1 x2 x3 x4 x5 x6 x7 x8 z0 z1 : Int32) : pu_R :=
  pu_xb (f_H_ask st z1 z0) fun v23 st24 =>
  (f_Lo_having st24 x6 x4 x4).bind fun v25 =>
  if v25 = (-1) then
    f_H_move_b164 st24 x1 x2 x3 x4 x5 x6 x7 x8 1 12
  else
    f_H_move_b164 st24 x1 x2 x3 x4 x5 x6 x7 x8 0 12
def f_H_move_b111 (st : pu_St) (x1 x2 x3 x4 x5 x6 x7 x8 z0 z1 : Int32) : pu_R :=
  pu_xb (f_H_ask st z1 z0) fun v19 st20 =>
  (f_It_dayOf st20 x6).bind fun v21 =>
  if x4 < v21 then
    f_H_move_b136 st20 x1 x2 x3 x4 x5 x6 x7 x8 0 11
  else
    f_H_move_b136 st20 x1 x2 x3 x4 x5 x6 x7 x8 1 11
def f_H_move_b110 (st : pu_St) (x1 x2 x3 x4 x5 x6 x7 x8 z0 : Int32) : pu_R :=
  f_H_move_b111 st x1 x2 x3 x4 x5 x6 x7 x8 0 z0
def f_H_move_b84 (st : pu_St) (x1 x2 x3 x4 x5 x6 x7 x8 z0 : Int32) : pu_R :=
  pu_xb (f_H_askRoom st z0) fun v14 st15 =>
  (f_H_isDay st15 x4).bind fun v16 =>
  if v16 = 0 then
    f_H_move_b110 st15 x1 x2 x3 x4 x5 x6 x7 x8 4
  else
    if (st15.1 0) < x4 then
      f_H_move_b110 st15 x1 x2 x3 x4 x5 x6 x7 x8 4
    else
      f_H_move_b111 st15 x1 x2 x3 x4 x5 x6 x7 x8 1 4
def f_H_move_b79 (st : pu_St) (x1 x2 x3 x4 x5 x6 x7 x8 : Int32) : pu_R :=
  f_H_move_b84 st x1 x2 x3 x4 x5 x6 x7 x8 1
def f_H_move_b59 (st : pu_St) (x1 x2 x3 x4 x5 x6 x7 z0 : Int32) : pu_R :=
  if z0 = 0 then
    f_H_move_b79 st x1 x2 x3 x4 x5 x6 x7 z0
  else
    (f_Mo_isFullFor st x6).bind fun v12 =>
    if v12 = 0 then
      f_H_move_b79 st x1 x2 x3 x4 x5 x6 x7 z0
    else
      f_H_move_b84 st x1 x2 x3 x4 x5 x6 x7 z0 0
def f_H_move (st : pu_St) (x1 x2 x3 x4 : Int32) : pu_R :=
  pu_xb (f_H_numberOf_De st x1) fun v1 st2 =>
  pu_xb (f_H_numberOf_It st2 x2) fun v3 st4 =>
  pu_xb (f_H_numberOf_So st4 x3) fun v5 st6 =>
  pu_xb (f_H_askRight st6 v1 4) fun v7 st8 =>
  (f_Mo_hasDay st8 v3 x4).bind fun v9 =>
  if v9 = 0 then
    f_H_move_b59 st8 x1 x2 x3 x4 v1 v3 v5 1
  else
    f_H_move_b59 st8 x1 x2 x3 x4 v1 v3 v5 0
def f_Mo_storeOn_b19 : Nat → pu_St → Int32 → Int32 → Int32 → Int32 → Int32 → Int32 → Option Int32
  | 0, _, _, _, _, _, _, _ => none
  | n + 1, st, x1, x2, x3, x4, x5, x6 =>
    if x5 ≤ x6 then
      some x3
    else
      (pu_ld (st.2 9) 360 x6).bind fun v4 =>
      if x2 < v4 then
        f_Mo_storeOn_b19 n st x1 x2 x3 x4 x5 (x6 + 1)
      else
        (pu_ld (st.2 9) 360 x6).bind fun v6 =>
        if v6 ≤ x4 then
          f_Mo_storeOn_b19 n st x1 x2 x3 x4 x5 (x6 + 1)
        else
          (pu_ld (st.2 9) 360 x6).bind fun v8 =>
          (pu_ld (st.2 10) 360 x6).bind fun v9 =>
          f_Mo_storeOn_b19 n st x1 x2 v9 v8 x5 (x6 + 1)
def f_Mo_storeOn (st : pu_St) (x1 x2 : Int32) : Option Int32 :=
  (f_Mo_endOfSlots st x1).bind fun v1 =>
  (f_Mo_firstSlot st x1).bind fun v2 =>
  f_Mo_storeOn_b19 pu_fu st x1 x2 (-1) (-1) v1 v2
def f_H_placeHandle (st : pu_St) (x1 x2 : Int32) : Option Int32 :=
  (f_Mo_storeOn st x1 x2).bind fun v1 =>
  if v1 = (-1) then
    some 0
  else
    (f_Rg_handleOf_So st v1).bind fun v3 =>
    some v3
def f_H_place (st : pu_St) (x1 x2 : Int32) : pu_R :=
  pu_xb (f_H_numberOf_It st x1) fun v1 st2 =>
  (f_H_isDay st2 x2).bind fun v3 =>
  pu_xb (f_H_ask st2 4 v3) fun v4 st5 =>
  (f_H_placeHandle st5 v1 x2).bind fun v6 =>
  some (.inl v6, st5)
def f_H_stored_b25 : Nat → pu_St → Int32 → Int32 → Int32 → Int32 → Int32 → pu_R
  | 0, _, _, _, _, _, _ => none
  | n + 1, st, x1, x2, x3, x4, x5 =>
    (f_Rg_size_It st).bind fun v6 =>
    if v6 ≤ x5 then
      some (.inl x4, st)
    else
      (f_Mo_storeOn st x5 x2).bind fun v8 =>
      if v8 = (-1) then
        f_H_stored_b25 n st x1 x2 x3 x4 (x5 + 1)
      else
        (f_So_isAtOrIn st v8 x3).bind fun v10 =>
        if v10 = 0 then
          f_H_stored_b25 n st x1 x2 x3 x4 (x5 + 1)
        else
          f_H_stored_b25 n st x1 x2 x3 (x4 + 1) (x5 + 1)
def f_H_stored (st : pu_St) (x1 x2 : Int32) : pu_R :=
  pu_xb (f_H_numberOf_So st x1) fun v1 st2 =>
  (f_H_isDay st2 x2).bind fun v3 =>
  pu_xb (f_H_ask st2 4 v3) fun v4 st5 =>
  f_H_stored_b25 pu_fu st5 x1 x2 v1 0 0
def f_Rg_isFull_Lo (st : pu_St) : Option Int32 :=
  if (st.1 8) < 40 then
    some 0
  else
    some 1
def f_Rg_size_Cl (st : pu_St) : Option Int32 :=
  some (st.1 10)
def f_Cl_openFor_b4 : Nat → pu_St → Int32 → Int32 → Int32 → Option Int32
  | 0, _, _, _, _ => none
  | n + 1, st, x1, x2, x3 =>
    (f_Rg_size_Cl st).bind fun v1 =>
    if v1 ≤ x3 then
      some x2
    else
      (pu_ld (st.2 22) 20 x3).bind fun v3 =>
      if v3 = 0 then
        f_Cl_openFor_b4 n st x1 x2 (x3 + 1)
      else
        (pu_ld (st.2 20) 20 x3).bind fun v5 =>
        if v5 = x1 then
          f_Cl_openFor_b4 n st x1 (x2 + 1) (x3 + 1)
        else
          f_Cl_openFor_b4 n st x1 x2 (x3 + 1)
def f_Cl_openFor (st : pu_St) (x1 : Int32) : Option Int32 :=
  f_Cl_openFor_b4 pu_fu st x1 0 0
def f_Rg_size_Sh (st : pu_St) : Option Int32 :=
  some (st.1 9)
def f_Sh_holds (st : pu_St) (x1 x2 : Int32) : Option Int32 :=
  (pu_ld (st.2 19) 10 x1).bind fun v1 =>
  if (v1 &&& (1 <<< (x2 &&& 31))) = 0 then
    some 0
  else
    some 1
def f_Sh_having_b3 : Nat → pu_St → Int32 → Int32 → Int32 → Int32 → Option Int32
  | 0, _, _, _, _, _ => none
  | n + 1, st, x1, x2, x3, x4 =>
    (f_Rg_size_Sh st).bind fun v1 =>
    if v1 ≤ x4 then
      some (-1)
    else
      (f_Sh_holds st x4 x1).bind fun v3 =>
      if v3 = 0 then
        f_Sh_having_b3 n st x1 x2 x3 (x4 + 1)
      else
        (pu_ld (st.2 17) 10 x4).bind fun v5 =>
        (pu_ld (st.2 18) 10 x4).bind fun v6 =>
        (f_H_daysMeet st v5 v6 x2 x3).bind fun v7 =>
        if v7 = 0 then
          f_Sh_having_b3 n st x1 x2 x3 (x4 + 1)
        else
          some x4
def f_Sh_having (st : pu_St) (x1 x2 x3 : Int32) : Option Int32 :=
  f_Sh_having_b3 pu_fu st x1 x2 x3 0
def f_H_askFree_b81 (st : pu_St) (x1 x2 x3 z0 z1 : Int32) : pu_R :=
  pu_xb (f_H_ask st z1 z0) fun v13 st14 =>
  some (.inl 0, st14)
def f_H_askFree_b80 (st : pu_St) (x1 x2 x3 z0 : Int32) : pu_R :=
  f_H_askFree_b81 st x1 x2 x3 0 z0
def f_H_askFree_b42 (st : pu_St) (x1 x2 x3 z0 z1 : Int32) : pu_R :=
  pu_xb (f_H_ask st z1 z0) fun v7 st8 =>
  (f_Lo_having st8 x1 x2 x3).bind fun v9 =>
  if v9 = (-1) then
    (f_Sh_having st8 x1 x2 x3).bind fun v11 =>
    if v11 = (-1) then
      f_H_askFree_b81 st8 x1 x2 x3 1 14
    else
      f_H_askFree_b80 st8 x1 x2 x3 14
  else
    f_H_askFree_b80 st8 x1 x2 x3 14
def f_H_askFree_b20 (st : pu_St) (x1 x2 x3 z0 z1 : Int32) : pu_R :=
  pu_xb (f_H_ask st z1 z0) fun v3 st4 =>
  (f_Cl_openFor st4 x1).bind fun v5 =>
  if v5 = 0 then
    f_H_askFree_b42 st4 x1 x2 x3 1 13
  else
    f_H_askFree_b42 st4 x1 x2 x3 0 13
def f_H_askFree (st : pu_St) (x1 x2 x3 : Int32) : pu_R :=
  (f_It_dayOf st x1).bind fun v1 =>
  if x2 < v1 then
    f_H_askFree_b20 st x1 x2 x3 0 11
  else
    f_H_askFree_b20 st x1 x2 x3 1 11
def f_Rg_enter_Lo (st : pu_St) : Option (Int32 × pu_St) :=
  some ((st.1 8), (va_up st.1 8 ((st.1 8) + 1), st.2))
def f_Rg_handleOf_Lo (st : pu_St) (x1 : Int32) : Option Int32 :=
  some (700 + x1)
def f_Lo_lend (st : pu_St) (x1 x2 x3 : Int32) : Option (Int32 × pu_St) :=
  (f_Rg_enter_Lo st).bind fun q1 =>
  (pu_sd (q1.2.2 13) 40 q1.1 x1).bind fun g2 =>
  (pu_sd (q1.2.2 14) 40 q1.1 x2).bind fun g3 =>
  (pu_sd (q1.2.2 15) 40 q1.1 x3).bind fun g4 =>
  (f_Rg_handleOf_Lo (((q1.2.1, va_up q1.2.2 13 g2).1, va_up (q1.2.1, va_up q1.2.2 13 g2).2 14 g3).1, va_up ((q1.2.1, va_up q1.2.2 13 g2).1, va_up (q1.2.1, va_up q1.2.2 13 g2).2 14 g3).2 15 g4) q1.1).bind fun v5 =>
  some (v5, (((q1.2.1, va_up q1.2.2 13 g2).1, va_up (q1.2.1, va_up q1.2.2 13 g2).2 14 g3).1, va_up ((q1.2.1, va_up q1.2.2 13 g2).1, va_up (q1.2.1, va_up q1.2.2 13 g2).2 14 g3).2 15 g4))
def f_H_loan_b77 (st : pu_St) (x1 x2 x3 x4 x5 x6 z0 z1 : Int32) : pu_R :=
  pu_xb (f_H_ask st z1 z0) fun v16 st17 =>
  pu_xb (f_H_askFree st17 x6 x3 x4) fun v18 st19 =>
  (f_Lo_lend st19 x6 x3 x4).bind fun q20 =>
  some (.inl q20.1, q20.2)
def f_H_loan_b76 (st : pu_St) (x1 x2 x3 x4 x5 x6 z0 : Int32) : pu_R :=
  f_H_loan_b77 st x1 x2 x3 x4 x5 x6 0 z0
def f_H_loan_b46 (st : pu_St) (x1 x2 x3 x4 x5 x6 z0 : Int32) : pu_R :=
  pu_xb (f_H_askRoom st z0) fun v9 st10 =>
  (f_H_isDay st10 x3).bind fun v11 =>
  if v11 = 0 then
    f_H_loan_b76 st10 x1 x2 x3 x4 x5 x6 4
  else
    (f_H_isDay st10 x4).bind fun v13 =>
    if v13 = 0 then
      f_H_loan_b76 st10 x1 x2 x3 x4 x5 x6 4
    else
      if x4 < x3 then
        f_H_loan_b76 st10 x1 x2 x3 x4 x5 x6 4
      else
        f_H_loan_b77 st10 x1 x2 x3 x4 x5 x6 1 4
def f_H_loan (st : pu_St) (x1 x2 x3 x4 : Int32) : pu_R :=
  pu_xb (f_H_numberOf_De st x1) fun v1 st2 =>
  pu_xb (f_H_numberOf_It st2 x2) fun v3 st4 =>
  pu_xb (f_H_askRight st4 v1 8) fun v5 st6 =>
  (f_Rg_isFull_Lo st6).bind fun v7 =>
  if v7 = 0 then
    f_H_loan_b46 st6 x1 x2 x3 x4 v1 v3 1
  else
    f_H_loan_b46 st6 x1 x2 x3 x4 v1 v3 0
def f_Rg_numberFor_Lo_b23 (st : pu_St) (x1 x2 : Int32) : Option Int32 :=
  some (-1)
def f_Rg_numberFor_Lo (st : pu_St) (x1 : Int32) : Option Int32 :=
  if (x1 - 700) < 0 then
    f_Rg_numberFor_Lo_b23 st x1 (x1 - 700)
  else
    if (st.1 8) ≤ (x1 - 700) then
      f_Rg_numberFor_Lo_b23 st x1 (x1 - 700)
    else
      some (x1 - 700)
def f_H_numberOf_Lo (st : pu_St) (x2 : Int32) : pu_R :=
  (f_Rg_numberFor_Lo st x2).bind fun v1 =>
  if v1 = (-1) then
    some (.inr 1, (va_up st.1 1 1, st.2))
  else
    some (.inl v1, st)
def f_Lo_hasDay (st : pu_St) (x1 x2 : Int32) : Option Int32 :=
  (pu_ld (st.2 14) 40 x1).bind fun v1 =>
  if x2 < v1 then
    some 0
  else
    (pu_ld (st.2 15) 40 x1).bind fun v3 =>
    if v3 < x2 then
      some 0
    else
      some 1
def f_Lo_lastDayOf (st : pu_St) (x1 : Int32) : Option Int32 :=
  (pu_ld (st.2 15) 40 x1).bind fun v1 =>
  some v1
def f_Lo_endOn (st : pu_St) (x1 x2 : Int32) : Option (Int32 × pu_St) :=
  (pu_sd (st.2 15) 40 x1 x2).bind fun g1 =>
  some (0, (st.1, va_up st.2 15 g1))
def f_H_back (st : pu_St) (x1 x2 x3 : Int32) : pu_R :=
  pu_xb (f_H_numberOf_De st x1) fun v1 st2 =>
  pu_xb (f_H_numberOf_Lo st2 x2) fun v3 st4 =>
  pu_xb (f_H_askRight st4 v1 8) fun v5 st6 =>
  (f_H_isDay st6 x3).bind fun v7 =>
  pu_xb (f_H_ask st6 4 v7) fun v8 st9 =>
  (f_Lo_hasDay st9 v3 x3).bind fun v10 =>
  pu_xb (f_H_ask st9 15 v10) fun v11 st12 =>
  (f_Lo_lastDayOf st12 v3).bind fun v13 =>
  (f_Lo_endOn st12 v3 x3).bind fun q14 =>
  some (.inl v13, q14.2)
def f_Rg_isFull_Sh (st : pu_St) : Option Int32 :=
  if (st.1 9) < 10 then
    some 0
  else
    some 1
def f_Rg_enter_Sh (st : pu_St) : Option (Int32 × pu_St) :=
  some ((st.1 9), (va_up st.1 9 ((st.1 9) + 1), st.2))
def f_Rg_handleOf_Sh (st : pu_St) (x1 : Int32) : Option Int32 :=
  some (800 + x1)
def f_Sh_plan (st : pu_St) (x1 x2 x3 : Int32) : Option (Int32 × pu_St) :=
  (f_Rg_enter_Sh st).bind fun q1 =>
  (pu_sd (q1.2.2 16) 10 q1.1 x1).bind fun g2 =>
  (pu_sd (q1.2.2 17) 10 q1.1 x2).bind fun g3 =>
  (pu_sd (q1.2.2 18) 10 q1.1 x3).bind fun g4 =>
  (pu_sd (q1.2.2 19) 10 q1.1 0).bind fun g5 =>
  (f_Rg_handleOf_Sh ((((q1.2.1, va_up q1.2.2 16 g2).1, va_up (q1.2.1, va_up q1.2.2 16 g2).2 17 g3).1, va_up ((q1.2.1, va_up q1.2.2 16 g2).1, va_up (q1.2.1, va_up q1.2.2 16 g2).2 17 g3).2 18 g4).1, va_up (((q1.2.1, va_up q1.2.2 16 g2).1, va_up (q1.2.1, va_up q1.2.2 16 g2).2 17 g3).1, va_up ((q1.2.1, va_up q1.2.2 16 g2).1, va_up (q1.2.1, va_up q1.2.2 16 g2).2 17 g3).2 18 g4).2 19 g5) q1.1).bind fun v6 =>
  some (v6, ((((q1.2.1, va_up q1.2.2 16 g2).1, va_up (q1.2.1, va_up q1.2.2 16 g2).2 17 g3).1, va_up ((q1.2.1, va_up q1.2.2 16 g2).1, va_up (q1.2.1, va_up q1.2.2 16 g2).2 17 g3).2 18 g4).1, va_up (((q1.2.1, va_up q1.2.2 16 g2).1, va_up (q1.2.1, va_up q1.2.2 16 g2).2 17 g3).1, va_up ((q1.2.1, va_up q1.2.2 16 g2).1, va_up (q1.2.1, va_up q1.2.2 16 g2).2 17 g3).2 18 g4).2 19 g5))
def f_H_show_b77 (st : pu_St) (x1 x2 x3 x4 x5 x6 z0 z1 : Int32) : pu_R :=
  pu_xb (f_H_ask st z1 z0) fun v16 st17 =>
  (f_Sh_plan st17 x6 x3 x4).bind fun q18 =>
  some (.inl q18.1, q18.2)
def f_H_show_b76 (st : pu_St) (x1 x2 x3 x4 x5 x6 z0 : Int32) : pu_R :=
  f_H_show_b77 st x1 x2 x3 x4 x5 x6 0 z0
def f_H_show_b46 (st : pu_St) (x1 x2 x3 x4 x5 x6 z0 : Int32) : pu_R :=
  pu_xb (f_H_askRoom st z0) fun v9 st10 =>
  (f_H_isDay st10 x3).bind fun v11 =>
  if v11 = 0 then
    f_H_show_b76 st10 x1 x2 x3 x4 x5 x6 4
  else
    (f_H_isDay st10 x4).bind fun v13 =>
    if v13 = 0 then
      f_H_show_b76 st10 x1 x2 x3 x4 x5 x6 4
    else
      if x4 < x3 then
        f_H_show_b76 st10 x1 x2 x3 x4 x5 x6 4
      else
        f_H_show_b77 st10 x1 x2 x3 x4 x5 x6 1 4
def f_H_show (st : pu_St) (x1 x2 x3 x4 : Int32) : pu_R :=
  pu_xb (f_H_numberOf_De st x1) fun v1 st2 =>
  pu_xb (f_H_numberOf_So st2 x2) fun v3 st4 =>
  pu_xb (f_H_askRight st4 v1 16) fun v5 st6 =>
  (f_Rg_isFull_Sh st6).bind fun v7 =>
  if v7 = 0 then
    f_H_show_b46 st6 x1 x2 x3 x4 v1 v3 1
  else
    f_H_show_b46 st6 x1 x2 x3 x4 v1 v3 0
def f_Rg_numberFor_Sh_b23 (st : pu_St) (x1 x2 : Int32) : Option Int32 :=
  some (-1)
def f_Rg_numberFor_Sh (st : pu_St) (x1 : Int32) : Option Int32 :=
  if (x1 - 800) < 0 then
    f_Rg_numberFor_Sh_b23 st x1 (x1 - 800)
  else
    if (st.1 9) ≤ (x1 - 800) then
      f_Rg_numberFor_Sh_b23 st x1 (x1 - 800)
    else
      some (x1 - 800)
def f_H_numberOf_Sh (st : pu_St) (x2 : Int32) : pu_R :=
  (f_Rg_numberFor_Sh st x2).bind fun v1 =>
  if v1 = (-1) then
    some (.inr 1, (va_up st.1 1 1, st.2))
  else
    some (.inl v1, st)
def f_Sh_firstDayOf (st : pu_St) (x1 : Int32) : Option Int32 :=
  (pu_ld (st.2 17) 10 x1).bind fun v1 =>
  some v1
def f_Sh_lastDayOf (st : pu_St) (x1 : Int32) : Option Int32 :=
  (pu_ld (st.2 18) 10 x1).bind fun v1 =>
  some v1
def f_Sh_putIn (st : pu_St) (x1 x2 : Int32) : Option (Int32 × pu_St) :=
  (pu_ld (st.2 19) 10 x1).bind fun v1 =>
  (pu_sd (st.2 19) 10 x1 (v1 ||| (1 <<< (x2 &&& 31)))).bind fun g2 =>
  some (0, (st.1, va_up st.2 19 g2))
def f_H_hang (st : pu_St) (x1 x2 x3 : Int32) : pu_R :=
  pu_xb (f_H_numberOf_De st x1) fun v1 st2 =>
  pu_xb (f_H_numberOf_Sh st2 x2) fun v3 st4 =>
  pu_xb (f_H_numberOf_It st4 x3) fun v5 st6 =>
  pu_xb (f_H_askRight st6 v1 16) fun v7 st8 =>
  (f_Sh_holds st8 v3 v5).bind fun v9 =>
  if v9 = 0 then
    (f_Sh_firstDayOf st8 v3).bind fun v11 =>
    (f_Sh_lastDayOf st8 v3).bind fun v12 =>
    pu_xb (f_H_askFree st8 v5 v11 v12) fun v13 st14 =>
    (f_Sh_putIn st14 v3 v5).bind fun q15 =>
    some (.inl 1, q15.2)
  else
    some (.inl 0, st8)
def f_Sh_putOut (st : pu_St) (x1 x2 : Int32) : Option (Int32 × pu_St) :=
  (pu_ld (st.2 19) 10 x1).bind fun v1 =>
  (pu_sd (st.2 19) 10 x1 (v1 &&& ((1 <<< (x2 &&& 31)) ^^^ (-1)))).bind fun g2 =>
  some (0, (st.1, va_up st.2 19 g2))
def f_H_take (st : pu_St) (x1 x2 x3 : Int32) : pu_R :=
  pu_xb (f_H_numberOf_De st x1) fun v1 st2 =>
  pu_xb (f_H_numberOf_Sh st2 x2) fun v3 st4 =>
  pu_xb (f_H_numberOf_It st4 x3) fun v5 st6 =>
  pu_xb (f_H_askRight st6 v1 16) fun v7 st8 =>
  (f_Sh_holds st8 v3 v5).bind fun v9 =>
  (f_Sh_putOut st8 v3 v5).bind fun q10 =>
  (pu_bo v9).bind fun b11 =>
  some (.inl b11, q10.2)
def f_Rg_isFull_Cl (st : pu_St) : Option Int32 :=
  if (st.1 10) < 20 then
    some 0
  else
    some 1
def f_Cl_hasOpenOf_b2 : Nat → pu_St → Int32 → Int32 → Int32 → Option Int32
  | 0, _, _, _, _ => none
  | n + 1, st, x1, x2, x3 =>
    (f_Rg_size_Cl st).bind fun v1 =>
    if v1 ≤ x3 then
      some 0
    else
      (pu_ld (st.2 22) 20 x3).bind fun v3 =>
      if v3 = 0 then
        f_Cl_hasOpenOf_b2 n st x1 x2 (x3 + 1)
      else
        (pu_ld (st.2 20) 20 x3).bind fun v5 =>
        if v5 = x1 then
          (pu_ld (st.2 21) 20 x3).bind fun v7 =>
          if v7 = x2 then
            some 1
          else
            f_Cl_hasOpenOf_b2 n st x1 x2 (x3 + 1)
        else
          f_Cl_hasOpenOf_b2 n st x1 x2 (x3 + 1)
def f_Cl_hasOpenOf (st : pu_St) (x1 x2 : Int32) : Option Int32 :=
  f_Cl_hasOpenOf_b2 pu_fu st x1 x2 0
def f_Rg_enter_Cl (st : pu_St) : Option (Int32 × pu_St) :=
  some ((st.1 10), (va_up st.1 10 ((st.1 10) + 1), st.2))
def f_Rg_handleOf_Cl (st : pu_St) (x1 : Int32) : Option Int32 :=
  some (900 + x1)
def f_Cl_raise (st : pu_St) (x1 x2 : Int32) : Option (Int32 × pu_St) :=
  (f_Rg_enter_Cl st).bind fun q1 =>
  (pu_sd (q1.2.2 20) 20 q1.1 x1).bind fun g2 =>
  (pu_sd (q1.2.2 21) 20 q1.1 x2).bind fun g3 =>
  (pu_sd (q1.2.2 22) 20 q1.1 1).bind fun g4 =>
  (f_Rg_handleOf_Cl (((q1.2.1, va_up q1.2.2 20 g2).1, va_up (q1.2.1, va_up q1.2.2 20 g2).2 21 g3).1, va_up ((q1.2.1, va_up q1.2.2 20 g2).1, va_up (q1.2.1, va_up q1.2.2 20 g2).2 21 g3).2 22 g4) q1.1).bind fun v5 =>
  some (v5, (((q1.2.1, va_up q1.2.2 20 g2).1, va_up (q1.2.1, va_up q1.2.2 20 g2).2 21 g3).1, va_up ((q1.2.1, va_up q1.2.2 20 g2).1, va_up (q1.2.1, va_up q1.2.2 20 g2).2 21 g3).2 22 g4))
def f_H_claim_b90 (st : pu_St) (x1 x2 x3 x4 x5 z0 z1 : Int32) : pu_R :=
  pu_xb (f_H_ask st z1 z0) fun v17 st18 =>
  (f_Cl_raise st18 x5 x3).bind fun q19 =>
  some (.inl q19.1, q19.2)
def f_H_claim_b66 (st : pu_St) (x1 x2 x3 x4 x5 z0 z1 : Int32) : pu_R :=
  pu_xb (f_H_ask st z1 z0) fun v13 st14 =>
  (f_Cl_hasOpenOf st14 x5 x3).bind fun v15 =>
  if v15 = 0 then
    f_H_claim_b90 st14 x1 x2 x3 x4 x5 1 16
  else
    f_H_claim_b90 st14 x1 x2 x3 x4 x5 0 16
def f_H_claim_b65 (st : pu_St) (x1 x2 x3 x4 x5 z0 : Int32) : pu_R :=
  f_H_claim_b66 st x1 x2 x3 x4 x5 0 z0
def f_H_claim_b46 (st : pu_St) (x1 x2 x3 x4 x5 z0 : Int32) : pu_R :=
  pu_xb (f_H_askRoom st z0) fun v9 st10 =>
  if x3 < 0 then
    f_H_claim_b65 st10 x1 x2 x3 x4 x5 4
  else
    if 9 < x3 then
      f_H_claim_b65 st10 x1 x2 x3 x4 x5 4
    else
      f_H_claim_b66 st10 x1 x2 x3 x4 x5 1 4
def f_H_claim (st : pu_St) (x1 x2 x3 : Int32) : pu_R :=
  pu_xb (f_H_numberOf_De st x1) fun v1 st2 =>
  pu_xb (f_H_numberOf_It st2 x2) fun v3 st4 =>
  pu_xb (f_H_askRight st4 v1 32) fun v5 st6 =>
  (f_Rg_isFull_Cl st6).bind fun v7 =>
  if v7 = 0 then
    f_H_claim_b46 st6 x1 x2 x3 v1 v3 1
  else
    f_H_claim_b46 st6 x1 x2 x3 v1 v3 0
def f_Rg_numberFor_Cl_b23 (st : pu_St) (x1 x2 : Int32) : Option Int32 :=
  some (-1)
def f_Rg_numberFor_Cl (st : pu_St) (x1 : Int32) : Option Int32 :=
  if (x1 - 900) < 0 then
    f_Rg_numberFor_Cl_b23 st x1 (x1 - 900)
  else
    if (st.1 10) ≤ (x1 - 900) then
      f_Rg_numberFor_Cl_b23 st x1 (x1 - 900)
    else
      some (x1 - 900)
def f_H_numberOf_Cl (st : pu_St) (x2 : Int32) : pu_R :=
  (f_Rg_numberFor_Cl st x2).bind fun v1 =>
  if v1 = (-1) then
    some (.inr 1, (va_up st.1 1 1, st.2))
  else
    some (.inl v1, st)
def f_Cl_isOpen (st : pu_St) (x1 : Int32) : Option Int32 :=
  (pu_ld (st.2 22) 20 x1).bind fun v1 =>
  pu_bo v1
def f_Cl_settle (st : pu_St) (x1 : Int32) : Option (Int32 × pu_St) :=
  (pu_sd (st.2 22) 20 x1 0).bind fun g1 =>
  some (0, (st.1, va_up st.2 22 g1))
def f_Cl_itemOf (st : pu_St) (x1 : Int32) : Option Int32 :=
  (pu_ld (st.2 20) 20 x1).bind fun v1 =>
  some v1
def f_H_close (st : pu_St) (x1 x2 : Int32) : pu_R :=
  pu_xb (f_H_numberOf_De st x1) fun v1 st2 =>
  pu_xb (f_H_numberOf_Cl st2 x2) fun v3 st4 =>
  pu_xb (f_H_askRight st4 v1 32) fun v5 st6 =>
  (f_Cl_isOpen st6 v3).bind fun v7 =>
  pu_xb (f_H_ask st6 17 v7) fun v8 st9 =>
  (f_Cl_settle st9 v3).bind fun q10 =>
  (f_Cl_itemOf q10.2 v3).bind fun v11 =>
  (f_Cl_openFor q10.2 v11).bind fun v12 =>
  some (.inl v12, q10.2)
def f_H_where (st : pu_St) (x1 x2 : Int32) : pu_R :=
  pu_xb (f_H_numberOf_It st x1) fun v1 st2 =>
  (f_H_isDay st2 x2).bind fun v3 =>
  pu_xb (f_H_ask st2 4 v3) fun v4 st5 =>
  (f_It_dayOf st5 v1).bind fun v6 =>
  if v6 ≤ x2 then
    (f_Lo_having st5 v1 x2 x2).bind fun v8 =>
    if v8 = (-1) then
      (f_Sh_having st5 v1 x2 x2).bind fun v10 =>
      if v10 = (-1) then
        (f_H_placeHandle st5 v1 x2).bind fun v12 =>
        if v12 = 0 then
          some (.inl 1, st5)
        else
          some (.inl v12, st5)
      else
        (f_Rg_handleOf_Sh st5 v10).bind fun v14 =>
        some (.inl v14, st5)
    else
      (f_Rg_handleOf_Lo st5 v8).bind fun v15 =>
      some (.inl v15, st5)
  else
    some (.inl 0, st5)
def f_It_findOf (st : pu_St) (x1 : Int32) : Option Int32 :=
  (pu_ld (st.2 7) 30 x1).bind fun v1 =>
  some v1
def f_Fi_contextOf (st : pu_St) (x1 : Int32) : Option Int32 :=
  (pu_ld (st.2 5) 30 x1).bind fun v1 =>
  some v1
def f_H_origin (st : pu_St) (x1 : Int32) : pu_R :=
  (f_Rg_numberFor_Co st x1).bind fun v1 =>
  if v1 = (-1) then
    (f_Rg_numberFor_Fi st x1).bind fun v3 =>
    if v3 = (-1) then
      pu_xb (f_H_numberOf_It st x1) fun v5 st6 =>
      (f_It_findOf st6 v5).bind fun v7 =>
      (f_Rg_handleOf_Fi st6 v7).bind fun v8 =>
      some (.inl v8, st6)
    else
      (f_Fi_contextOf st v3).bind fun v9 =>
      (f_Rg_handleOf_Co st v9).bind fun v10 =>
      some (.inl v10, st)
  else
    (f_Co_siteOf st v1).bind fun v11 =>
    (f_Rg_handleOf_Si st v11).bind fun v12 =>
    some (.inl v12, st)
def f_Sh_storeOf (st : pu_St) (x1 : Int32) : Option Int32 :=
  (pu_ld (st.2 16) 10 x1).bind fun v1 =>
  some v1
def f_H_hall (st : pu_St) (x1 : Int32) : pu_R :=
  pu_xb (f_H_numberOf_Sh st x1) fun v1 st2 =>
  (f_Sh_storeOf st2 v1).bind fun v3 =>
  (f_Rg_handleOf_So st2 v3).bind fun v4 =>
  some (.inl v4, st2)
def f_H_rule (st : pu_St) : Option Int32 :=
  some (st.1 1)
def f_Rg_size_So (st : pu_St) : Option Int32 :=
  some (st.1 7)
def f_Rg_size_Fi (st : pu_St) : Option Int32 :=
  some (st.1 5)
def f_Rg_size_Si (st : pu_St) : Option Int32 :=
  some (st.1 3)
def f_Rg_size_De (st : pu_St) : Option Int32 :=
  some (st.1 2)
def f_H_count (st : pu_St) (x1 : Int32) : pu_R :=
  if x1 = 1 then
    (f_Rg_size_De st).bind fun v2 =>
    some (.inl v2, st)
  else if x1 = 2 then
    (f_Rg_size_Si st).bind fun v4 =>
    some (.inl v4, st)
  else if x1 = 3 then
    (f_Rg_size_Co st).bind fun v6 =>
    some (.inl v6, st)
  else if x1 = 4 then
    (f_Rg_size_Fi st).bind fun v8 =>
    some (.inl v8, st)
  else if x1 = 5 then
    (f_Rg_size_It st).bind fun v10 =>
    some (.inl v10, st)
  else if x1 = 6 then
    (f_Rg_size_So st).bind fun v12 =>
    some (.inl v12, st)
  else if x1 = 7 then
    (f_Rg_size_Lo st).bind fun v14 =>
    some (.inl v14, st)
  else if x1 = 8 then
    (f_Rg_size_Sh st).bind fun v16 =>
    some (.inl v16, st)
  else if x1 = 9 then
    (f_Rg_size_Cl st).bind fun v18 =>
    some (.inl v18, st)
  else 
    some (.inr 1, st)
