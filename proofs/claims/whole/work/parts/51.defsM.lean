noncomputable def pX11_isBetween (x0 : Int64) (x2 : Int64) (x4 : Int64) : Option (Int32) :=
  if (lg_cmp x0 x2) < 0 then (
    some (0 : Int32)) else (
    if 0 < (lg_cmp x0 x4) then (
      some (0 : Int32)) else (
      some (1 : Int32)))
noncomputable def pX11_has (x0 : Int64) (x2 : Int32) : Option (Int32) :=
  if (lg_cmp ((x0 >>> (Int32.toInt64 x2 &&& 63)) &&& (1 : Int64)) (1 : Int64)) = 0 then (
    some (1 : Int32)) else (
    some (0 : Int32))
noncomputable def pX11_isState (I : am_I) (a0 : Nat) (x1 : Int32) : Option (Int32) :=
  if x1 < 0 then (
    some (0 : Int32)) else (
    if (I a0 3) ≤ x1 then (
      some (0 : Int32)) else (
      some (1 : Int32)))
noncomputable def pX11_isLetter (x0 : Int32) : Option (Int32) :=
  if x0 < 0 then (
    some (0 : Int32)) else (
    if (3 : Int32) ≤ x0 then (
      some (0 : Int32)) else (
      some (1 : Int32)))
noncomputable def sX11_clears_17 (R : am_R) (a0 : Nat) (ih7 : Int32 → am_I → Option (am_I)) (v5 : Int32) (J6 : am_I) : Option (am_I) :=
  if (18 : Int32) ≤ v5 then (
    am_let (am_upI J6 a0 6 (0 : Int32)) (fun J9 =>
    some J9)) else (
    am_ck (am_inb v5 18) (
    am_let (am_upI J6 (R a0 0) (Int32.toNatClampNeg v5) (0 : Int32)) (fun J11 =>
    ih7 (v5 + (1 : Int32)) J11)))
noncomputable def lX11_clears_17 (R : am_R) (a0 : Nat) : Nat → Int32 → am_I → Option (am_I)
  | 0, _, _ => none
  | n + 1, v5, J6 => sX11_clears_17 R a0 (lX11_clears_17 R a0 n) v5 J6
noncomputable def pX11_clears (R : am_R) (I : am_I) (a0 : Nat) (x1 : Int32) : Option (am_I) :=
  am_let (am_upI I a0 3 x1) (fun J1 =>
  am_let (am_upI J1 a0 4 (0 : Int32)) (fun J2 =>
  am_let (am_upI J2 a0 5 (0 : Int32)) (fun J3 =>
  lX11_clears_17 R a0 am_fu (0 : Int32) J3)))
noncomputable def pX11_reset (R : am_R) (I : am_I) (a0 : Nat) (x1 : Int32) : Option (Int32 × am_I) :=
  Option.bind (pX11_isBetween (Int32.toInt64 x1) (1 : Int64) (6 : Int64)) (fun r1 =>
  if r1 = 0 then (
    some ((-2 : Int32), I)) else (
    am_let (I a0 3) (fun v3 =>
    Option.bind (pX11_clears R I a0 x1) (fun r4 =>
    some (v3, r4)))))
noncomputable def pX11_stateCount (I : am_I) (a0 : Nat) : Option (Int32) :=
  some (I a0 3)
noncomputable def pX11_addTransition (R : am_R) (I : am_I) (a0 : Nat) (x1 : Int32) (x2 : Int32) (x3 : Int32) : Option (Int32 × am_I) :=
  Option.bind (pX11_isState I a0 x1) (fun r1 =>
  if r1 = 0 then (
    some ((-1 : Int32), I)) else (
    Option.bind (pX11_isLetter x2) (fun r3 =>
    if r3 = 0 then (
      some ((-1 : Int32), I)) else (
      Option.bind (pX11_isState I a0 x3) (fun r5 =>
      if r5 = 0 then (
        some ((-1 : Int32), I)) else (
        am_let (((6 : Int32) * x2) + x1) (fun v7 =>
        am_ck (am_inb v7 18) (
        Option.bind (pX11_has (Int32.toInt64 (I (R a0 0) (Int32.toNatClampNeg v7))) x3) (fun r9 =>
        am_let (if r9 = 0 then (1 : Int32) else (0 : Int32)) (fun v10 =>
        am_ck (am_inb v7 18) (
        am_ck (am_inb v7 18) (
        am_let (am_upI I (R a0 0) (Int32.toNatClampNeg v7) ((I (R a0 0) (Int32.toNatClampNeg v7)) ||| ((1 : Int32) <<< (x3 &&& 31)))) (fun J13 =>
        am_let (am_upI J13 a0 6 (0 : Int32)) (fun J14 =>
        some (v10, J14)))))))))))))))
noncomputable def pX11_removeTransition (R : am_R) (I : am_I) (a0 : Nat) (x1 : Int32) (x2 : Int32) (x3 : Int32) : Option (Int32 × am_I) :=
  Option.bind (pX11_isState I a0 x1) (fun r1 =>
  if r1 = 0 then (
    some ((-1 : Int32), I)) else (
    Option.bind (pX11_isLetter x2) (fun r3 =>
    if r3 = 0 then (
      some ((-1 : Int32), I)) else (
      Option.bind (pX11_isState I a0 x3) (fun r5 =>
      if r5 = 0 then (
        some ((-1 : Int32), I)) else (
        am_let (((6 : Int32) * x2) + x1) (fun v7 =>
        am_ck (am_inb v7 18) (
        Option.bind (pX11_has (Int32.toInt64 (I (R a0 0) (Int32.toNatClampNeg v7))) x3) (fun r9 =>
        am_let (if r9 = 0 then (0 : Int32) else (1 : Int32)) (fun v10 =>
        am_ck (am_inb v7 18) (
        am_ck (am_inb v7 18) (
        am_let (am_upI I (R a0 0) (Int32.toNatClampNeg v7) ((I (R a0 0) (Int32.toNatClampNeg v7)) &&& (((1 : Int32) <<< (x3 &&& 31)) ^^^ (-1 : Int32)))) (fun J13 =>
        am_let (am_upI J13 a0 6 (0 : Int32)) (fun J14 =>
        some (v10, J14)))))))))))))))
noncomputable def sX11_transitionCount_12 (R : am_R) (I : am_I) (a0 : Nat) (v3 : Int32) (j6 : Int32 → Option (Int32)) (ih11 : Int32 → Int32 → Option (Int32)) (v9 : Int32) (v10 : Int32) : Option (Int32) :=
  if (6 : Int32) ≤ v10 then (
    j6 v9) else (
    am_ck (am_inb v3 18) (
    am_let (v9 + (((I (R a0 0) (Int32.toNatClampNeg v3)) >>> (v10 &&& 31)) &&& (1 : Int32))) (fun v14 =>
    ih11 v14 (v10 + (1 : Int32)))))
noncomputable def lX11_transitionCount_12 (R : am_R) (I : am_I) (a0 : Nat) (v3 : Int32) (j6 : Int32 → Option (Int32)) : Nat → Int32 → Int32 → Option (Int32)
  | 0, _, _ => none
  | n + 1, v9, v10 => sX11_transitionCount_12 R I a0 v3 j6 (lX11_transitionCount_12 R I a0 v3 j6 n) v9 v10
noncomputable def sX11_transitionCount_4 (R : am_R) (I : am_I) (a0 : Nat) (ih4 : Int32 → Int32 → Option (Int32)) (v2 : Int32) (v3 : Int32) : Option (Int32) :=
  if (18 : Int32) ≤ v3 then (
    some v2) else (
    am_jn (fun (v7 : Int32) =>
  ih4 v7 (v3 + (1 : Int32))) (fun j6 =>
    lX11_transitionCount_12 R I a0 v3 j6 am_fu v2 (0 : Int32)))
noncomputable def lX11_transitionCount_4 (R : am_R) (I : am_I) (a0 : Nat) : Nat → Int32 → Int32 → Option (Int32)
  | 0, _, _ => none
  | n + 1, v2, v3 => sX11_transitionCount_4 R I a0 (lX11_transitionCount_4 R I a0 n) v2 v3
noncomputable def pX11_transitionCount (R : am_R) (I : am_I) (a0 : Nat) : Option (Int32) :=
  lX11_transitionCount_4 R I a0 am_fu (0 : Int32) (0 : Int32)
noncomputable def pX11_setInitial (I : am_I) (a0 : Nat) (x1 : Int32) (x2 : Int32) : Option (Int32 × am_I) :=
  Option.bind (pX11_isState I a0 x1) (fun r1 =>
  if r1 = 0 then (
    some ((-1 : Int32), I)) else (
    am_let (((I a0 4) >>> (x1 &&& 31)) &&& (1 : Int32)) (fun v3 =>
    am_let (if x2 = 0 then ((I a0 4) &&& (((1 : Int32) <<< (x1 &&& 31)) ^^^ (-1 : Int32))) else ((I a0 4) ||| ((1 : Int32) <<< (x1 &&& 31)))) (fun v4 =>
    am_let (am_upI I a0 4 v4) (fun J6 =>
    am_let (am_upI J6 a0 6 (0 : Int32)) (fun J7 =>
    some (v3, J7)))))))
noncomputable def pX11_setFinal (I : am_I) (a0 : Nat) (x1 : Int32) (x2 : Int32) : Option (Int32 × am_I) :=
  Option.bind (pX11_isState I a0 x1) (fun r1 =>
  if r1 = 0 then (
    some ((-1 : Int32), I)) else (
    am_let (((I a0 5) >>> (x1 &&& 31)) &&& (1 : Int32)) (fun v3 =>
    am_let (if x2 = 0 then ((I a0 5) &&& (((1 : Int32) <<< (x1 &&& 31)) ^^^ (-1 : Int32))) else ((I a0 5) ||| ((1 : Int32) <<< (x1 &&& 31)))) (fun v4 =>
    am_let (am_upI I a0 5 v4) (fun J6 =>
    am_let (am_upI J6 a0 6 (0 : Int32)) (fun J7 =>
    some (v3, J7)))))))
noncomputable def pX11_initialStates (I : am_I) (a0 : Nat) : Option (Int32) :=
  some (I a0 4)
noncomputable def pX11_finalStates (I : am_I) (a0 : Nat) : Option (Int32) :=
  some (I a0 5)
noncomputable def pX11_successors (R : am_R) (I : am_I) (a0 : Nat) (x1 : Int32) (x2 : Int32) : Option (Int32) :=
  Option.bind (pX11_isState I a0 x1) (fun r1 =>
  if r1 = 0 then (
    some (-1 : Int32)) else (
    Option.bind (pX11_isLetter x2) (fun r3 =>
    if r3 = 0 then (
      some (-1 : Int32)) else (
      am_ck (am_inb (((6 : Int32) * x2) + x1) 18) (
      some (I (R a0 0) (Int32.toNatClampNeg (((6 : Int32) * x2) + x1))))))))
noncomputable def sX11_step_5 (R : am_R) (I : am_I) (a0 : Nat) (x1 : Int32) (x2 : Int32) (ih4 : Int32 → Int32 → Option (Int32)) (v2 : Int32) (v3 : Int32) : Option (Int32) :=
  if (I a0 3) ≤ v3 then (
    some v2) else (
    Option.bind (pX11_has (Int32.toInt64 x1) v3) (fun r6 =>
    am_jn (fun (v8 : Int32) =>
  am_let (v2 ||| v8) (fun v9 =>
  ih4 v9 (v3 + (1 : Int32)))) (fun j7 =>
    if r6 = 0 then (
      j7 (0 : Int32)) else (
      am_ck (am_inb (((6 : Int32) * x2) + v3) 18) (
      j7 (I (R a0 0) (Int32.toNatClampNeg (((6 : Int32) * x2) + v3))))))))
noncomputable def lX11_step_5 (R : am_R) (I : am_I) (a0 : Nat) (x1 : Int32) (x2 : Int32) : Nat → Int32 → Int32 → Option (Int32)
  | 0, _, _ => none
  | n + 1, v2, v3 => sX11_step_5 R I a0 x1 x2 (lX11_step_5 R I a0 x1 x2 n) v2 v3
noncomputable def pX11_step (R : am_R) (I : am_I) (a0 : Nat) (x1 : Int32) (x2 : Int32) : Option (Int32) :=
  lX11_step_5 R I a0 x1 x2 am_fu (0 : Int32) (0 : Int32)
noncomputable def sX11_reachedFrom_4 (R : am_R) (I : am_I) (a0 : Nat) (ih4 : Int32 → Int32 → Option (Int32)) (v2 : Int32) (v3 : Int32) : Option (Int32) :=
  if (6 : Int32) ≤ v3 then (
    some v2) else (
    Option.bind (pX11_step R I a0 v2 (0 : Int32)) (fun r6 =>
    Option.bind (pX11_step R I a0 v2 (1 : Int32)) (fun r7 =>
    Option.bind (pX11_step R I a0 v2 (2 : Int32)) (fun r8 =>
    am_let (v2 ||| ((r6 ||| r7) ||| r8)) (fun v9 =>
    ih4 v9 (v3 + (1 : Int32)))))))
noncomputable def lX11_reachedFrom_4 (R : am_R) (I : am_I) (a0 : Nat) : Nat → Int32 → Int32 → Option (Int32)
  | 0, _, _ => none
  | n + 1, v2, v3 => sX11_reachedFrom_4 R I a0 (lX11_reachedFrom_4 R I a0 n) v2 v3
noncomputable def pX11_reachedFrom (R : am_R) (I : am_I) (a0 : Nat) (x1 : Int32) : Option (Int32) :=
  lX11_reachedFrom_4 R I a0 am_fu x1 (0 : Int32)
noncomputable def sX11_useful_13 (R : am_R) (I : am_I) (a0 : Nat) (r1 : Int32) (ih5 : Int32 → Int32 → Option (Int32)) (v3 : Int32) (v4 : Int32) : Option (Int32) :=
  if (I a0 3) ≤ v4 then (
    some v3) else (
    Option.bind (pX11_has (Int32.toInt64 r1) v4) (fun r7 =>
    am_jn (fun (v9 : Int32) =>
  am_let (v3 ||| v9) (fun v10 =>
  ih5 v10 (v4 + (1 : Int32)))) (fun j8 =>
    am_jn (
  j8 (0 : Int32)) (fun j11 =>
    if r7 = 0 then (
      j11) else (
      Option.bind (pX11_reachedFrom R I a0 ((1 : Int32) <<< (v4 &&& 31))) (fun r13 =>
      if (r13 &&& (I a0 5)) = 0 then (
        j11) else (
        j8 ((1 : Int32) <<< (v4 &&& 31)))))))))
noncomputable def lX11_useful_13 (R : am_R) (I : am_I) (a0 : Nat) (r1 : Int32) : Nat → Int32 → Int32 → Option (Int32)
  | 0, _, _ => none
  | n + 1, v3, v4 => sX11_useful_13 R I a0 r1 (lX11_useful_13 R I a0 r1 n) v3 v4
noncomputable def pX11_useful (R : am_R) (I : am_I) (a0 : Nat) : Option (Int32) :=
  Option.bind (pX11_reachedFrom R I a0 (I a0 4)) (fun r1 =>
  lX11_useful_13 R I a0 r1 am_fu (0 : Int32) (0 : Int32))
noncomputable def pX11_usefulStates (R : am_R) (I : am_I) (a0 : Nat) : Option (Int32) :=
  Option.bind (pX11_useful R I a0) (fun r1 =>
  some r1)
noncomputable def sX11_renumbered_5 (R : am_R) (I : am_I) (a0 : Nat) (x1 : Int32) (x2 : Int32) (ih4 : Int32 → Int32 → Option (Int32)) (v2 : Int32) (v3 : Int32) : Option (Int32) :=
  if (6 : Int32) ≤ v3 then (
    some v2) else (
    Option.bind (pX11_has (Int32.toInt64 (x1 &&& x2)) v3) (fun r6 =>
    am_jn (fun (v8 : Int32) =>
  am_let (v2 ||| v8) (fun v9 =>
  ih4 v9 (v3 + (1 : Int32)))) (fun j7 =>
    if r6 = 0 then (
      j7 (0 : Int32)) else (
      am_ck (am_inb v3 6) (
      j7 ((1 : Int32) <<< ((I (R a0 7) (Int32.toNatClampNeg v3)) &&& 31)))))))
noncomputable def lX11_renumbered_5 (R : am_R) (I : am_I) (a0 : Nat) (x1 : Int32) (x2 : Int32) : Nat → Int32 → Int32 → Option (Int32)
  | 0, _, _ => none
  | n + 1, v2, v3 => sX11_renumbered_5 R I a0 x1 x2 (lX11_renumbered_5 R I a0 x1 x2 n) v2 v3
noncomputable def pX11_renumbered (R : am_R) (I : am_I) (a0 : Nat) (x1 : Int32) (x2 : Int32) : Option (Int32) :=
  lX11_renumbered_5 R I a0 x1 x2 am_fu (0 : Int32) (0 : Int32)
noncomputable def sX11_trim_133 (R : am_R) (a0 : Nat) (r1 : Int32) (v2 : Int32) (v16 : Int32) (j20 : am_I → Option (Int32 × am_I)) (ih25 : Int32 → am_I → Option (Int32 × am_I)) (v23 : Int32) (J24 : am_I) : Option (Int32 × am_I) :=
  if v2 ≤ v23 then (
    j20 J24) else (
    Option.bind (pX11_has (Int32.toInt64 r1) v23) (fun r27 =>
    am_jn (fun (J29 : am_I) =>
  ih25 (v23 + (1 : Int32)) J29) (fun j28 =>
    if r27 = 0 then (
      j28 J24) else (
      am_ck (am_inb v23 6) (
      am_ck (am_inb (((6 : Int32) * v16) + v23) 18) (
      Option.bind (pX11_renumbered R J24 a0 (J24 (R a0 8) (Int32.toNatClampNeg (((6 : Int32) * v16) + v23))) r1) (fun r34 =>
      am_ck (am_inb (((6 : Int32) * v16) + (J24 (R a0 7) (Int32.toNatClampNeg v23))) 18) (
      am_let (am_upI J24 (R a0 0) (Int32.toNatClampNeg (((6 : Int32) * v16) + (J24 (R a0 7) (Int32.toNatClampNeg v23)))) r34) (fun J35 =>
      j28 J35)))))))))
noncomputable def lX11_trim_133 (R : am_R) (a0 : Nat) (r1 : Int32) (v2 : Int32) (v16 : Int32) (j20 : am_I → Option (Int32 × am_I)) : Nat → Int32 → am_I → Option (Int32 × am_I)
  | 0, _, _ => none
  | n + 1, v23, J24 => sX11_trim_133 R a0 r1 v2 v16 j20 (lX11_trim_133 R a0 r1 v2 v16 j20 n) v23 J24
noncomputable def sX11_trim_124 (R : am_R) (a0 : Nat) (r1 : Int32) (v2 : Int32) (ih18 : Int32 → am_I → Option (Int32 × am_I)) (v16 : Int32) (J17 : am_I) : Option (Int32 × am_I) :=
  if (3 : Int32) ≤ v16 then (
    some ((J17 a0 3), J17)) else (
    am_jn (fun (J21 : am_I) =>
  ih18 (v16 + (1 : Int32)) J21) (fun j20 =>
    lX11_trim_133 R a0 r1 v2 v16 j20 am_fu (0 : Int32) J17))
noncomputable def lX11_trim_124 (R : am_R) (a0 : Nat) (r1 : Int32) (v2 : Int32) : Nat → Int32 → am_I → Option (Int32 × am_I)
  | 0, _, _ => none
  | n + 1, v16, J17 => sX11_trim_124 R a0 r1 v2 (lX11_trim_124 R a0 r1 v2 n) v16 J17
noncomputable def sX11_trim_69 (R : am_R) (a0 : Nat) (r1 : Int32) (v4 : Int32) (v2 : Int32) (r6 : Int32) (r7 : Int32) (j8 : am_I → Option (Int32 × am_I)) (ih40 : Int32 → am_I → Option (Int32 × am_I)) (v38 : Int32) (J39 : am_I) : Option (Int32 × am_I) :=
  if (18 : Int32) ≤ v38 then (
    j8 J39) else (
    am_ck (am_inb v38 18) (
    am_ck (am_inb v38 18) (
    am_let (am_upI J39 (R a0 8) (Int32.toNatClampNeg v38) (J39 (R a0 0) (Int32.toNatClampNeg v38))) (fun J44 =>
    ih40 (v38 + (1 : Int32)) J44))))
noncomputable def lX11_trim_69 (R : am_R) (a0 : Nat) (r1 : Int32) (v4 : Int32) (v2 : Int32) (r6 : Int32) (r7 : Int32) (j8 : am_I → Option (Int32 × am_I)) : Nat → Int32 → am_I → Option (Int32 × am_I)
  | 0, _, _ => none
  | n + 1, v38, J39 => sX11_trim_69 R a0 r1 v4 v2 r6 r7 j8 (lX11_trim_69 R a0 r1 v4 v2 r6 r7 j8 n) v38 J39
noncomputable def sX11_trim_15 (R : am_R) (a0 : Nat) (r1 : Int32) (v2 : Int32) (j3 : Int32 → am_I → Option (Int32 × am_I)) (ih49 : Int32 → Int32 → am_I → Option (Int32 × am_I)) (v46 : Int32) (v47 : Int32) (J48 : am_I) : Option (Int32 × am_I) :=
  if v2 ≤ v47 then (
    j3 v46 J48) else (
    am_ck (am_inb v47 6) (
    am_let (am_upI J48 (R a0 7) (Int32.toNatClampNeg v47) v46) (fun J52 =>
    am_let (v46 + ((r1 >>> (v47 &&& 31)) &&& (1 : Int32))) (fun v53 =>
    ih49 v53 (v47 + (1 : Int32)) J52))))
noncomputable def lX11_trim_15 (R : am_R) (a0 : Nat) (r1 : Int32) (v2 : Int32) (j3 : Int32 → am_I → Option (Int32 × am_I)) : Nat → Int32 → Int32 → am_I → Option (Int32 × am_I)
  | 0, _, _, _ => none
  | n + 1, v46, v47, J48 => sX11_trim_15 R a0 r1 v2 j3 (lX11_trim_15 R a0 r1 v2 j3 n) v46 v47 J48
noncomputable def pX11_trim (R : am_R) (I : am_I) (a0 : Nat) : Option (Int32 × am_I) :=
  Option.bind (pX11_useful R I a0) (fun r1 =>
  am_let (I a0 3) (fun v2 =>
  am_jn (fun (v4 : Int32) (J5 : am_I) =>
  Option.bind (pX11_renumbered R J5 a0 (J5 a0 4) r1) (fun r6 =>
  Option.bind (pX11_renumbered R J5 a0 (J5 a0 5) r1) (fun r7 =>
  am_jn (fun (J9 : am_I) =>
  am_let (if v4 = 0 then (1 : Int32) else v4) (fun v10 =>
  Option.bind (pX11_clears R J9 a0 v10) (fun r12 =>
  am_let (am_upI r12 a0 4 r6) (fun J13 =>
  am_let (am_upI J13 a0 5 r7) (fun J14 =>
  lX11_trim_124 R a0 r1 v2 am_fu (0 : Int32) J14))))) (fun j8 =>
  lX11_trim_69 R a0 r1 v4 v2 r6 r7 j8 am_fu (0 : Int32) J5)))) (fun j3 =>
  lX11_trim_15 R a0 r1 v2 j3 am_fu (0 : Int32) (0 : Int32) I)))
noncomputable def pX11_draw (I : am_I) (a0 : Nat) (x1 : Int32) : Option (Int32 × am_I) :=
  am_let (am_upI I a0 9 (((I a0 9) * (1103515245 : Int32)) + (12345 : Int32))) (fun J1 =>
  am_ck (!(x1 == 0)) (
  some (((Int32.toUInt32 (J1 a0 9) >>> (Int32.toUInt32 (16 : Int32) &&& Int32.toUInt32 31)).toInt32 - (Int32.toUInt32 (J1 a0 9) >>> (Int32.toUInt32 (16 : Int32) &&& Int32.toUInt32 31)).toInt32 / x1 * x1), J1)))
noncomputable def sX11_randomize_22 (R : am_R) (a0 : Nat) (x2 : Int32) (j4 : am_I → Option (Int32 × am_I)) (ih11 : Int32 → am_I → Option (Int32 × am_I)) (v9 : Int32) (J10 : am_I) : Option (Int32 × am_I) :=
  if x2 ≤ v9 then (
    j4 J10) else (
    Option.bind (pX11_draw J10 a0 (J10 a0 3)) (fun r13 =>
    Option.bind (pX11_draw r13.2 a0 (3 : Int32)) (fun r14 =>
    am_ck (am_inb (((6 : Int32) * r14.1) + r13.1) 18) (
    Option.bind (pX11_draw r14.2 a0 (r14.2 a0 3)) (fun r16 =>
    am_ck (am_inb (((6 : Int32) * r14.1) + r13.1) 18) (
    am_let (am_upI r16.2 (R a0 0) (Int32.toNatClampNeg (((6 : Int32) * r14.1) + r13.1)) ((r14.2 (R a0 0) (Int32.toNatClampNeg (((6 : Int32) * r14.1) + r13.1))) ||| ((1 : Int32) <<< (r16.1 &&& 31)))) (fun J17 =>
    ih11 (v9 + (1 : Int32)) J17)))))))
noncomputable def lX11_randomize_22 (R : am_R) (a0 : Nat) (x2 : Int32) (j4 : am_I → Option (Int32 × am_I)) : Nat → Int32 → am_I → Option (Int32 × am_I)
  | 0, _, _ => none
  | n + 1, v9, J10 => sX11_randomize_22 R a0 x2 j4 (lX11_randomize_22 R a0 x2 j4 n) v9 J10
noncomputable def pX11_randomize (R : am_R) (I : am_I) (a0 : Nat) (x1 : Int32) (x2 : Int32) : Option (Int32 × am_I) :=
  Option.bind (pX11_isBetween (Int32.toInt64 x2) (0 : Int64) (20 : Int64)) (fun r1 =>
  if r1 = 0 then (
    some ((-2 : Int32), I)) else (
    am_let (am_upI I a0 9 x1) (fun J3 =>
    am_jn (fun (J5 : am_I) =>
  am_let (am_upI J5 a0 6 (0 : Int32)) (fun J6 =>
  Option.bind (pX11_transitionCount R J6 a0) (fun r7 =>
  some (r7, J6)))) (fun j4 =>
    lX11_randomize_22 R a0 x2 j4 am_fu (0 : Int32) J3))))
noncomputable def pX11_append (R : am_R) (I : am_I) (a0 : Nat) (x1 : Int32) : Option (Int32 × am_I) :=
  Option.bind (pX11_isBetween (Int32.toInt64 x1) (32 : Int64) (126 : Int64)) (fun r1 =>
  if r1 = 0 then (
    some ((-2 : Int32), I)) else (
    if (I a0 12) = (60 : Int32) then (
      some ((-3 : Int32), I)) else (
      am_ck (am_inb (I a0 12) 60) (
      am_let (am_upI I (R a0 10) (Int32.toNatClampNeg (I a0 12)) x1) (fun J5 =>
      am_let (am_upI J5 a0 12 ((J5 a0 12) + (1 : Int32))) (fun J6 =>
      some ((J6 a0 12), J6)))))))
noncomputable def pX11_isAt (R : am_R) (I : am_I) (a0 : Nat) (x1 : Int32) (x2 : Int32) : Option (Int32) :=
  if (I a0 12) ≤ (I a0 13) then (
    some (0 : Int32)) else (
    am_ck (am_inb (I a0 13) 60) (
    Option.bind (pX11_isBetween (Int32.toInt64 (I (R a0 10) (Int32.toNatClampNeg (I a0 13)))) (Int32.toInt64 x1) (Int32.toInt64 x2)) (fun r3 =>
    if r3 = 0 then (
      some (0 : Int32)) else (
      some (1 : Int32)))))
noncomputable def pX11_takesState (R : am_R) (I : am_I) (a0 : Nat) (x1 : Int32) : Option (Int32 × am_I) :=
  Option.bind (pX11_isAt R I a0 (48 : Int32) (((48 : Int32) + (I a0 3)) - (1 : Int32))) (fun r1 =>
  if r1 = 0 then (
    some ((0 : Int32), I)) else (
    am_ck (am_inb (I a0 13) 60) (
    am_ck (am_inb x1 90) (
    am_let (am_upI I (R a0 11) (Int32.toNatClampNeg x1) ((I (R a0 10) (Int32.toNatClampNeg (I a0 13))) - (48 : Int32))) (fun J5 =>
    am_let (am_upI J5 a0 13 ((J5 a0 13) + (1 : Int32))) (fun J6 =>
    some ((1 : Int32), J6)))))))
noncomputable def pX11_takesItem (R : am_R) (I : am_I) (a0 : Nat) : Option (Int32 × am_I) :=
  am_let ((3 : Int32) * (I a0 14)) (fun v1 =>
  Option.bind (pX11_isAt R I a0 (62 : Int32) (62 : Int32)) (fun r2 =>
  if r2 = 0 then (
    Option.bind (pX11_takesState R I a0 v1) (fun r4 =>
    if r4.1 = 0 then (
      some ((0 : Int32), r4.2)) else (
      Option.bind (pX11_isAt R r4.2 a0 (33 : Int32) (33 : Int32)) (fun r6 =>
      if r6 = 0 then (
        Option.bind (pX11_isAt R r4.2 a0 (97 : Int32) (99 : Int32)) (fun r8 =>
        if r8 = 0 then (
          some ((0 : Int32), r4.2)) else (
          am_ck (am_inb (r4.2 a0 13) 60) (
          am_ck (am_inb (v1 + (1 : Int32)) 90) (
          am_let (am_upI r4.2 (R a0 11) (Int32.toNatClampNeg (v1 + (1 : Int32))) ((r4.2 (R a0 10) (Int32.toNatClampNeg (r4.2 a0 13))) - (97 : Int32))) (fun J12 =>
          am_let (am_upI J12 a0 13 ((J12 a0 13) + (1 : Int32))) (fun J13 =>
          Option.bind (pX11_takesState R J13 a0 (v1 + (2 : Int32))) (fun r14 =>
          am_ck (am_isb r14.1) (
          some (r14.1, r14.2)))))))))) else (
        am_let (am_upI r4.2 a0 13 ((r4.2 a0 13) + (1 : Int32))) (fun J16 =>
        am_ck (am_inb (v1 + (1 : Int32)) 90) (
        am_let (am_upI J16 (R a0 11) (Int32.toNatClampNeg (v1 + (1 : Int32))) (-2 : Int32)) (fun J18 =>
        some ((1 : Int32), J18))))))))) else (
    am_let (am_upI I a0 13 ((I a0 13) + (1 : Int32))) (fun J19 =>
    am_ck (am_inb (v1 + (1 : Int32)) 90) (
    am_let (am_upI J19 (R a0 11) (Int32.toNatClampNeg (v1 + (1 : Int32))) (-1 : Int32)) (fun J21 =>
    Option.bind (pX11_takesState R J21 a0 v1) (fun r22 =>
    am_ck (am_isb r22.1) (
    some (r22.1, r22.2)))))))))
noncomputable def sX11_takesAll_12 (R : am_R) (a0 : Nat) (j3 : am_I → Option (Int32 × am_I)) (ih9 : Int32 → am_I → Option (Int32 × am_I)) (v7 : Int32) (J8 : am_I) : Option (Int32 × am_I) :=
  if v7 = 0 then (
    j3 J8) else (
    Option.bind (pX11_takesItem R J8 a0) (fun r11 =>
    if r11.1 = 0 then (
      some ((0 : Int32), r11.2)) else (
      am_let (am_upI r11.2 a0 14 ((r11.2 a0 14) + (1 : Int32))) (fun J13 =>
      Option.bind (pX11_isAt R J13 a0 (59 : Int32) (59 : Int32)) (fun r14 =>
      am_let (if r14 = 0 then (0 : Int32) else (1 : Int32)) (fun v15 =>
      am_let (am_upI J13 a0 13 ((J13 a0 13) + v15)) (fun J17 =>
      ih9 r14 J17)))))))
noncomputable def lX11_takesAll_12 (R : am_R) (a0 : Nat) (j3 : am_I → Option (Int32 × am_I)) : Nat → Int32 → am_I → Option (Int32 × am_I)
  | 0, _, _ => none
  | n + 1, v7, J8 => sX11_takesAll_12 R a0 j3 (lX11_takesAll_12 R a0 j3 n) v7 J8
noncomputable def pX11_takesAll (R : am_R) (I : am_I) (a0 : Nat) : Option (Int32 × am_I) :=
  am_let (am_upI I a0 14 (0 : Int32)) (fun J1 =>
  am_let (am_upI J1 a0 13 (0 : Int32)) (fun J2 =>
  am_jn (fun (J4 : am_I) =>
  if (J4 a0 13) = (J4 a0 12) then (
    some ((1 : Int32), J4)) else (
    some ((0 : Int32), J4))) (fun j3 =>
  lX11_takesAll_12 R a0 j3 am_fu (1 : Int32) J2)))
noncomputable def sX11_parse_24 (R : am_R) (a0 : Nat) (ih7 : Int32 → am_I → Option (Int32 × am_I)) (v5 : Int32) (J6 : am_I) : Option (Int32 × am_I) :=
  if (J6 a0 14) ≤ v5 then (
    am_let (am_upI J6 a0 6 (0 : Int32)) (fun J9 =>
    some ((J9 a0 14), J9))) else (
    am_let ((3 : Int32) * v5) (fun v10 =>
    am_ck (am_inb (v10 + (1 : Int32)) 90) (
    am_jn (fun (J13 : am_I) =>
  ih7 (v5 + (1 : Int32)) J13) (fun j12 =>
    if (J6 (R a0 11) (Int32.toNatClampNeg (v10 + (1 : Int32)))) = (-1 : Int32) then (
      am_ck (am_inb v10 90) (
      am_let (am_upI J6 a0 4 ((J6 a0 4) ||| ((1 : Int32) <<< ((J6 (R a0 11) (Int32.toNatClampNeg v10)) &&& 31)))) (fun J25 =>
      j12 J25))) else (
      am_ck (am_inb (v10 + (1 : Int32)) 90) (
      if (J6 (R a0 11) (Int32.toNatClampNeg (v10 + (1 : Int32)))) = (-2 : Int32) then (
        am_ck (am_inb v10 90) (
        am_let (am_upI J6 a0 5 ((J6 a0 5) ||| ((1 : Int32) <<< ((J6 (R a0 11) (Int32.toNatClampNeg v10)) &&& 31)))) (fun J23 =>
        j12 J23))) else (
        am_ck (am_inb (v10 + (1 : Int32)) 90) (
        am_ck (am_inb v10 90) (
        am_ck (am_inb (((6 : Int32) * (J6 (R a0 11) (Int32.toNatClampNeg (v10 + (1 : Int32))))) + (J6 (R a0 11) (Int32.toNatClampNeg v10))) 18) (
        am_ck (am_inb (v10 + (2 : Int32)) 90) (
        am_ck (am_inb (((6 : Int32) * (J6 (R a0 11) (Int32.toNatClampNeg (v10 + (1 : Int32))))) + (J6 (R a0 11) (Int32.toNatClampNeg v10))) 18) (
        am_let (am_upI J6 (R a0 0) (Int32.toNatClampNeg (((6 : Int32) * (J6 (R a0 11) (Int32.toNatClampNeg (v10 + (1 : Int32))))) + (J6 (R a0 11) (Int32.toNatClampNeg v10)))) ((J6 (R a0 0) (Int32.toNatClampNeg (((6 : Int32) * (J6 (R a0 11) (Int32.toNatClampNeg (v10 + (1 : Int32))))) + (J6 (R a0 11) (Int32.toNatClampNeg v10))))) ||| ((1 : Int32) <<< ((J6 (R a0 11) (Int32.toNatClampNeg (v10 + (2 : Int32)))) &&& 31)))) (fun J21 =>
        j12 J21)))))))))))))
noncomputable def lX11_parse_24 (R : am_R) (a0 : Nat) : Nat → Int32 → am_I → Option (Int32 × am_I)
  | 0, _, _ => none
  | n + 1, v5, J6 => sX11_parse_24 R a0 (lX11_parse_24 R a0 n) v5 J6
noncomputable def pX11_parse (R : am_R) (I : am_I) (a0 : Nat) : Option (Int32 × am_I) :=
  Option.bind (pX11_takesAll R I a0) (fun r1 =>
  am_let (am_upI r1.2 a0 12 (0 : Int32)) (fun J2 =>
  if r1.1 = 0 then (
    some (((-100 : Int32) - (J2 a0 13)), J2)) else (
    lX11_parse_24 R a0 am_fu (0 : Int32) J2)))
noncomputable def pX11_appendLetter (R : am_R) (I : am_I) (a0 : Nat) (x1 : Int32) : Option (Int32 × am_I) :=
  Option.bind (pX11_isLetter x1) (fun r1 =>
  if r1 = 0 then (
    some ((-1 : Int32), I)) else (
    if (I a0 16) = (20 : Int32) then (
      some ((-3 : Int32), I)) else (
      am_ck (am_inb (I a0 16) 20) (
      am_let (am_upI I (R a0 15) (Int32.toNatClampNeg (I a0 16)) x1) (fun J5 =>
      am_let (am_upI J5 a0 16 ((J5 a0 16) + (1 : Int32))) (fun J6 =>
      some ((J6 a0 16), J6)))))))
noncomputable def pX11_clearWord (I : am_I) (a0 : Nat) : Option (Int32 × am_I) :=
  am_let (I a0 16) (fun v1 =>
  am_let (am_upI I a0 16 (0 : Int32)) (fun J2 =>
  some (v1, J2)))
noncomputable def pX11_wordLength (I : am_I) (a0 : Nat) : Option (Int32) :=
  some (I a0 16)
noncomputable def pX11_wordLetter (R : am_R) (I : am_I) (a0 : Nat) (x1 : Int32) : Option (Int32) :=
  if x1 < 0 then (
    some (-1 : Int32)) else (
    if (I a0 16) ≤ x1 then (
      some (-1 : Int32)) else (
      am_ck (am_inb x1 20) (
      some (I (R a0 15) (Int32.toNatClampNeg x1)))))
noncomputable def pX11_plus (x0 : Int64) (x2 : Int64) : Option (Int64) :=
  if (lg_cmp x0 (0 : Int64)) < 0 then (
    some (-1 : Int64)) else (
    if (lg_cmp x2 (0 : Int64)) < 0 then (
      some (-1 : Int64)) else (
      if (lg_cmp x0 ((9223372036854775807 : Int64) - x2)) ≤ 0 then (
        some (x0 + x2)) else (
        some (-1 : Int64))))
noncomputable def sX11_wordAmbiguity_179 (R : am_R) (I : am_I) (a0 : Nat) (J4 : am_L) (ih8 : Int64 → Int32 → Option (Int64 × am_L)) (v6 : Int64) (v7 : Int32) : Option (Int64 × am_L) :=
  if (I a0 3) ≤ v7 then (
    some (v6, J4)) else (
    Option.bind (pX11_has (Int32.toInt64 (I a0 5)) v7) (fun r10 =>
    am_jn (fun (v12 : Int64) =>
  am_let (v6 + v12) (fun v13 =>
  ih8 v13 (v7 + (1 : Int32)))) (fun j11 =>
    if r10 = 0 then (
      j11 (0 : Int64)) else (
      am_ck (am_inb v7 64) (
      j11 (J4 (R a0 17) (Int32.toNatClampNeg v7)))))))
noncomputable def lX11_wordAmbiguity_179 (R : am_R) (I : am_I) (a0 : Nat) (J4 : am_L) : Nat → Int64 → Int32 → Option (Int64 × am_L)
  | 0, _, _ => none
  | n + 1, v6, v7 => sX11_wordAmbiguity_179 R I a0 J4 (lX11_wordAmbiguity_179 R I a0 J4 n) v6 v7
noncomputable def sX11_wordAmbiguity_145 (R : am_R) (I : am_I) (a0 : Nat) (v17 : Int32) (j25 : am_L → Option (Int64 × am_L)) (ih30 : Int32 → am_L → Option (Int64 × am_L)) (v28 : Int32) (J29 : am_L) : Option (Int64 × am_L) :=
  if (6 : Int32) ≤ v28 then (
    j25 J29) else (
    am_ck (am_inb v28 64) (
    am_ck (am_inb v28 64) (
    am_let (am_upL J29 (R a0 17) (Int32.toNatClampNeg v28) (J29 (R a0 18) (Int32.toNatClampNeg v28))) (fun J34 =>
    ih30 (v28 + (1 : Int32)) J34))))
noncomputable def lX11_wordAmbiguity_145 (R : am_R) (I : am_I) (a0 : Nat) (v17 : Int32) (j25 : am_L → Option (Int64 × am_L)) : Nat → Int32 → am_L → Option (Int64 × am_L)
  | 0, _, _ => none
  | n + 1, v28, J29 => sX11_wordAmbiguity_145 R I a0 v17 j25 (lX11_wordAmbiguity_145 R I a0 v17 j25 n) v28 J29
noncomputable def sX11_wordAmbiguity_80 (R : am_R) (I : am_I) (a0 : Nat) (v17 : Int32) (v36 : Int32) (j40 : am_L → Option (Int64 × am_L)) (ih45 : Int32 → am_L → Option (Int64 × am_L)) (v43 : Int32) (J44 : am_L) : Option (Int64 × am_L) :=
  if (I a0 3) ≤ v43 then (
    j40 J44) else (
    am_ck (am_inb v43 64) (
    am_ck (am_inb v17 20) (
    am_ck (am_inb (((6 : Int32) * (I (R a0 15) (Int32.toNatClampNeg v17))) + v36) 18) (
    Option.bind (pX11_has (Int32.toInt64 (I (R a0 0) (Int32.toNatClampNeg (((6 : Int32) * (I (R a0 15) (Int32.toNatClampNeg v17))) + v36)))) v43) (fun r50 =>
    am_jn (fun (v52 : Int64) =>
  am_ck (am_inb v43 64) (
  am_let (am_upL J44 (R a0 18) (Int32.toNatClampNeg v43) ((J44 (R a0 18) (Int32.toNatClampNeg v43)) + v52)) (fun J53 =>
  ih45 (v43 + (1 : Int32)) J53))) (fun j51 =>
    if r50 = 0 then (
      j51 (0 : Int64)) else (
      am_ck (am_inb v36 64) (
      j51 (J44 (R a0 17) (Int32.toNatClampNeg v36))))))))))
noncomputable def lX11_wordAmbiguity_80 (R : am_R) (I : am_I) (a0 : Nat) (v17 : Int32) (v36 : Int32) (j40 : am_L → Option (Int64 × am_L)) : Nat → Int32 → am_L → Option (Int64 × am_L)
  | 0, _, _ => none
  | n + 1, v43, J44 => sX11_wordAmbiguity_80 R I a0 v17 v36 j40 (lX11_wordAmbiguity_80 R I a0 v17 v36 j40 n) v43 J44
noncomputable def sX11_wordAmbiguity_70 (R : am_R) (I : am_I) (a0 : Nat) (v17 : Int32) (j23 : am_L → Option (Int64 × am_L)) (ih38 : Int32 → am_L → Option (Int64 × am_L)) (v36 : Int32) (J37 : am_L) : Option (Int64 × am_L) :=
  if (I a0 3) ≤ v36 then (
    j23 J37) else (
    am_jn (fun (J41 : am_L) =>
  ih38 (v36 + (1 : Int32)) J41) (fun j40 =>
    lX11_wordAmbiguity_80 R I a0 v17 v36 j40 am_fu (0 : Int32) J37))
noncomputable def lX11_wordAmbiguity_70 (R : am_R) (I : am_I) (a0 : Nat) (v17 : Int32) (j23 : am_L → Option (Int64 × am_L)) : Nat → Int32 → am_L → Option (Int64 × am_L)
  | 0, _, _ => none
  | n + 1, v36, J37 => sX11_wordAmbiguity_70 R I a0 v17 j23 (lX11_wordAmbiguity_70 R I a0 v17 j23 n) v36 J37
noncomputable def sX11_wordAmbiguity_49 (R : am_R) (I : am_I) (a0 : Nat) (v17 : Int32) (j21 : am_L → Option (Int64 × am_L)) (ih59 : Int32 → am_L → Option (Int64 × am_L)) (v57 : Int32) (J58 : am_L) : Option (Int64 × am_L) :=
  if (6 : Int32) ≤ v57 then (
    j21 J58) else (
    am_ck (am_inb v57 64) (
    am_let (am_upL J58 (R a0 18) (Int32.toNatClampNeg v57) (0 : Int64)) (fun J62 =>
    ih59 (v57 + (1 : Int32)) J62)))
noncomputable def lX11_wordAmbiguity_49 (R : am_R) (I : am_I) (a0 : Nat) (v17 : Int32) (j21 : am_L → Option (Int64 × am_L)) : Nat → Int32 → am_L → Option (Int64 × am_L)
  | 0, _, _ => none
  | n + 1, v57, J58 => sX11_wordAmbiguity_49 R I a0 v17 j21 (lX11_wordAmbiguity_49 R I a0 v17 j21 n) v57 J58
noncomputable def sX11_wordAmbiguity_39 (R : am_R) (I : am_I) (a0 : Nat) (j3 : am_L → Option (Int64 × am_L)) (ih19 : Int32 → am_L → Option (Int64 × am_L)) (v17 : Int32) (J18 : am_L) : Option (Int64 × am_L) :=
  if (I a0 16) ≤ v17 then (
    j3 J18) else (
    am_jn (fun (J22 : am_L) =>
  am_jn (fun (J24 : am_L) =>
  am_jn (fun (J26 : am_L) =>
  ih19 (v17 + (1 : Int32)) J26) (fun j25 =>
  lX11_wordAmbiguity_145 R I a0 v17 j25 am_fu (0 : Int32) J24)) (fun j23 =>
  lX11_wordAmbiguity_70 R I a0 v17 j23 am_fu (0 : Int32) J22)) (fun j21 =>
    lX11_wordAmbiguity_49 R I a0 v17 j21 am_fu (0 : Int32) J18))
noncomputable def lX11_wordAmbiguity_39 (R : am_R) (I : am_I) (a0 : Nat) (j3 : am_L → Option (Int64 × am_L)) : Nat → Int32 → am_L → Option (Int64 × am_L)
  | 0, _, _ => none
  | n + 1, v17, J18 => sX11_wordAmbiguity_39 R I a0 j3 (lX11_wordAmbiguity_39 R I a0 j3 n) v17 J18
noncomputable def sX11_wordAmbiguity_2 (R : am_R) (I : am_I) (a0 : Nat) (j1 : am_L → Option (Int64 × am_L)) (ih66 : Int32 → am_L → Option (Int64 × am_L)) (v64 : Int32) (J65 : am_L) : Option (Int64 × am_L) :=
  if (6 : Int32) ≤ v64 then (
    j1 J65) else (
    Option.bind (pX11_has (Int32.toInt64 (I a0 4)) v64) (fun r69 =>
    am_let (if r69 = 0 then (0 : Int64) else (1 : Int64)) (fun v70 =>
    am_ck (am_inb v64 64) (
    am_let (am_upL J65 (R a0 17) (Int32.toNatClampNeg v64) v70) (fun J72 =>
    ih66 (v64 + (1 : Int32)) J72)))))
noncomputable def lX11_wordAmbiguity_2 (R : am_R) (I : am_I) (a0 : Nat) (j1 : am_L → Option (Int64 × am_L)) : Nat → Int32 → am_L → Option (Int64 × am_L)
  | 0, _, _ => none
  | n + 1, v64, J65 => sX11_wordAmbiguity_2 R I a0 j1 (lX11_wordAmbiguity_2 R I a0 j1 n) v64 J65
noncomputable def pX11_wordAmbiguity (R : am_R) (I : am_I) (L : am_L) (a0 : Nat) : Option (Int64 × am_L) :=
  am_jn (fun (J2 : am_L) =>
  am_jn (fun (J4 : am_L) =>
  lX11_wordAmbiguity_179 R I a0 J4 am_fu (0 : Int64) (0 : Int32)) (fun j3 =>
  lX11_wordAmbiguity_39 R I a0 j3 am_fu (0 : Int32) J2)) (fun j1 =>
  lX11_wordAmbiguity_2 R I a0 j1 am_fu (0 : Int32) L)
noncomputable def sX11_pathsOf_191 (R : am_R) (I : am_I) (a0 : Nat) (J4 : am_L) (ih8 : Int64 → Int32 → Option (Int64 × am_L)) (v6 : Int64) (v7 : Int32) : Option (Int64 × am_L) :=
  if (I a0 3) ≤ v7 then (
    some (v6, J4)) else (
    Option.bind (pX11_has (Int32.toInt64 (I a0 4)) v7) (fun r10 =>
    am_jn (fun (v12 : Int64) =>
  ih8 v12 (v7 + (1 : Int32))) (fun j11 =>
    if r10 = 0 then (
      j11 v6) else (
      am_ck (am_inb v7 64) (
      Option.bind (pX11_plus v6 (J4 (R a0 17) (Int32.toNatClampNeg v7))) (fun r15 =>
      j11 r15))))))
noncomputable def lX11_pathsOf_191 (R : am_R) (I : am_I) (a0 : Nat) (J4 : am_L) : Nat → Int64 → Int32 → Option (Int64 × am_L)
  | 0, _, _ => none
  | n + 1, v6, v7 => sX11_pathsOf_191 R I a0 J4 (lX11_pathsOf_191 R I a0 J4 n) v6 v7
noncomputable def sX11_pathsOf_154 (R : am_R) (I : am_I) (a0 : Nat) (x1 : Int32) (v17 : Int32) (j23 : am_L → Option (Int64 × am_L)) (ih28 : Int32 → am_L → Option (Int64 × am_L)) (v26 : Int32) (J27 : am_L) : Option (Int64 × am_L) :=
  if (I a0 3) ≤ v26 then (
    j23 J27) else (
    am_ck (am_inb v26 64) (
    am_ck (am_inb v26 64) (
    am_let (am_upL J27 (R a0 17) (Int32.toNatClampNeg v26) (J27 (R a0 18) (Int32.toNatClampNeg v26))) (fun J32 =>
    ih28 (v26 + (1 : Int32)) J32))))
noncomputable def lX11_pathsOf_154 (R : am_R) (I : am_I) (a0 : Nat) (x1 : Int32) (v17 : Int32) (j23 : am_L → Option (Int64 × am_L)) : Nat → Int32 → am_L → Option (Int64 × am_L)
  | 0, _, _ => none
  | n + 1, v26, J27 => sX11_pathsOf_154 R I a0 x1 v17 j23 (lX11_pathsOf_154 R I a0 x1 v17 j23 n) v26 J27
noncomputable def sX11_pathsOf_73 (R : am_R) (I : am_I) (a0 : Nat) (x1 : Int32) (v17 : Int32) (v34 : Int32) (v43 : Int32) (j47 : am_L → Option (Int64 × am_L)) (ih52 : Int32 → am_L → Option (Int64 × am_L)) (v50 : Int32) (J51 : am_L) : Option (Int64 × am_L) :=
  if (I a0 3) ≤ v50 then (
    j47 J51) else (
    am_ck (am_inb (((6 : Int32) * v43) + v34) 18) (
    Option.bind (pX11_has (Int32.toInt64 (I (R a0 0) (Int32.toNatClampNeg (((6 : Int32) * v43) + v34)))) v50) (fun r56 =>
    am_jn (fun (v58 : Int64) =>
  am_ck (am_inb v34 64) (
  am_let (am_upL J51 (R a0 18) (Int32.toNatClampNeg v34) v58) (fun J59 =>
  ih52 (v50 + (1 : Int32)) J59))) (fun j57 =>
    if r56 = 0 then (
      am_ck (am_inb v34 64) (
      j57 (J51 (R a0 18) (Int32.toNatClampNeg v34)))) else (
      am_ck (am_inb v34 64) (
      am_ck (am_inb v50 64) (
      Option.bind (pX11_plus (J51 (R a0 18) (Int32.toNatClampNeg v34)) (J51 (R a0 17) (Int32.toNatClampNeg v50))) (fun r64 =>
      j57 r64))))))))
noncomputable def lX11_pathsOf_73 (R : am_R) (I : am_I) (a0 : Nat) (x1 : Int32) (v17 : Int32) (v34 : Int32) (v43 : Int32) (j47 : am_L → Option (Int64 × am_L)) : Nat → Int32 → am_L → Option (Int64 × am_L)
  | 0, _, _ => none
  | n + 1, v50, J51 => sX11_pathsOf_73 R I a0 x1 v17 v34 v43 j47 (lX11_pathsOf_73 R I a0 x1 v17 v34 v43 j47 n) v50 J51
noncomputable def sX11_pathsOf_64 (R : am_R) (I : am_I) (a0 : Nat) (x1 : Int32) (v17 : Int32) (v34 : Int32) (j40 : am_L → Option (Int64 × am_L)) (ih45 : Int32 → am_L → Option (Int64 × am_L)) (v43 : Int32) (J44 : am_L) : Option (Int64 × am_L) :=
  if (3 : Int32) ≤ v43 then (
    j40 J44) else (
    am_jn (fun (J48 : am_L) =>
  ih45 (v43 + (1 : Int32)) J48) (fun j47 =>
    lX11_pathsOf_73 R I a0 x1 v17 v34 v43 j47 am_fu (0 : Int32) J44))
noncomputable def lX11_pathsOf_64 (R : am_R) (I : am_I) (a0 : Nat) (x1 : Int32) (v17 : Int32) (v34 : Int32) (j40 : am_L → Option (Int64 × am_L)) : Nat → Int32 → am_L → Option (Int64 × am_L)
  | 0, _, _ => none
  | n + 1, v43, J44 => sX11_pathsOf_64 R I a0 x1 v17 v34 j40 (lX11_pathsOf_64 R I a0 x1 v17 v34 j40 n) v43 J44
noncomputable def sX11_pathsOf_46 (R : am_R) (I : am_I) (a0 : Nat) (x1 : Int32) (v17 : Int32) (j21 : am_L → Option (Int64 × am_L)) (ih36 : Int32 → am_L → Option (Int64 × am_L)) (v34 : Int32) (J35 : am_L) : Option (Int64 × am_L) :=
  if (I a0 3) ≤ v34 then (
    j21 J35) else (
    am_ck (am_inb v34 64) (
    am_let (am_upL J35 (R a0 18) (Int32.toNatClampNeg v34) (0 : Int64)) (fun J39 =>
    am_jn (fun (J41 : am_L) =>
  ih36 (v34 + (1 : Int32)) J41) (fun j40 =>
    lX11_pathsOf_64 R I a0 x1 v17 v34 j40 am_fu (0 : Int32) J39))))
noncomputable def lX11_pathsOf_46 (R : am_R) (I : am_I) (a0 : Nat) (x1 : Int32) (v17 : Int32) (j21 : am_L → Option (Int64 × am_L)) : Nat → Int32 → am_L → Option (Int64 × am_L)
  | 0, _, _ => none
  | n + 1, v34, J35 => sX11_pathsOf_46 R I a0 x1 v17 j21 (lX11_pathsOf_46 R I a0 x1 v17 j21 n) v34 J35
noncomputable def sX11_pathsOf_39 (R : am_R) (I : am_I) (a0 : Nat) (x1 : Int32) (j3 : am_L → Option (Int64 × am_L)) (ih19 : Int32 → am_L → Option (Int64 × am_L)) (v17 : Int32) (J18 : am_L) : Option (Int64 × am_L) :=
  if x1 ≤ v17 then (
    j3 J18) else (
    am_jn (fun (J22 : am_L) =>
  am_jn (fun (J24 : am_L) =>
  ih19 (v17 + (1 : Int32)) J24) (fun j23 =>
  lX11_pathsOf_154 R I a0 x1 v17 j23 am_fu (0 : Int32) J22)) (fun j21 =>
    lX11_pathsOf_46 R I a0 x1 v17 j21 am_fu (0 : Int32) J18))
noncomputable def lX11_pathsOf_39 (R : am_R) (I : am_I) (a0 : Nat) (x1 : Int32) (j3 : am_L → Option (Int64 × am_L)) : Nat → Int32 → am_L → Option (Int64 × am_L)
  | 0, _, _ => none
  | n + 1, v17, J18 => sX11_pathsOf_39 R I a0 x1 j3 (lX11_pathsOf_39 R I a0 x1 j3 n) v17 J18
noncomputable def sX11_pathsOf_2 (R : am_R) (I : am_I) (a0 : Nat) (x1 : Int32) (j1 : am_L → Option (Int64 × am_L)) (ih68 : Int32 → am_L → Option (Int64 × am_L)) (v66 : Int32) (J67 : am_L) : Option (Int64 × am_L) :=
  if (6 : Int32) ≤ v66 then (
    j1 J67) else (
    Option.bind (pX11_has (Int32.toInt64 (I a0 5)) v66) (fun r71 =>
    am_let (if r71 = 0 then (0 : Int64) else (1 : Int64)) (fun v72 =>
    am_ck (am_inb v66 64) (
    am_let (am_upL J67 (R a0 17) (Int32.toNatClampNeg v66) v72) (fun J74 =>
    ih68 (v66 + (1 : Int32)) J74)))))
noncomputable def lX11_pathsOf_2 (R : am_R) (I : am_I) (a0 : Nat) (x1 : Int32) (j1 : am_L → Option (Int64 × am_L)) : Nat → Int32 → am_L → Option (Int64 × am_L)
  | 0, _, _ => none
  | n + 1, v66, J67 => sX11_pathsOf_2 R I a0 x1 j1 (lX11_pathsOf_2 R I a0 x1 j1 n) v66 J67
noncomputable def pX11_pathsOf (R : am_R) (I : am_I) (L : am_L) (a0 : Nat) (x1 : Int32) : Option (Int64 × am_L) :=
  am_jn (fun (J2 : am_L) =>
  am_jn (fun (J4 : am_L) =>
  lX11_pathsOf_191 R I a0 J4 am_fu (0 : Int64) (0 : Int32)) (fun j3 =>
  lX11_pathsOf_39 R I a0 x1 j3 am_fu (0 : Int32) J2)) (fun j1 =>
  lX11_pathsOf_2 R I a0 x1 j1 am_fu (0 : Int32) L)
noncomputable def sX11_wordsOf_106 (R : am_R) (I : am_I) (a0 : Nat) (x1 : Int32) (v4 : Int32) (j11 : am_L → Option (Int64 × am_L)) (ih16 : Int32 → am_L → Option (Int64 × am_L)) (v14 : Int32) (J15 : am_L) : Option (Int64 × am_L) :=
  if ((1 : Int32) <<< ((I a0 3) &&& 31)) ≤ v14 then (
    j11 J15) else (
    am_ck (am_inb v14 64) (
    am_ck (am_inb v14 64) (
    am_let (am_upL J15 (R a0 17) (Int32.toNatClampNeg v14) (J15 (R a0 18) (Int32.toNatClampNeg v14))) (fun J20 =>
    ih16 (v14 + (1 : Int32)) J20))))
noncomputable def lX11_wordsOf_106 (R : am_R) (I : am_I) (a0 : Nat) (x1 : Int32) (v4 : Int32) (j11 : am_L → Option (Int64 × am_L)) : Nat → Int32 → am_L → Option (Int64 × am_L)
  | 0, _, _ => none
  | n + 1, v14, J15 => sX11_wordsOf_106 R I a0 x1 v4 j11 (lX11_wordsOf_106 R I a0 x1 v4 j11 n) v14 J15
noncomputable def sX11_wordsOf_43 (R : am_R) (I : am_I) (a0 : Nat) (x1 : Int32) (v4 : Int32) (j9 : am_L → Option (Int64 × am_L)) (ih24 : Int32 → am_L → Option (Int64 × am_L)) (v22 : Int32) (J23 : am_L) : Option (Int64 × am_L) :=
  if ((1 : Int32) <<< ((I a0 3) &&& 31)) ≤ v22 then (
    j9 J23) else (
    Option.bind (pX11_step R I a0 v22 (0 : Int32)) (fun r28 =>
    am_ck (am_inb r28 64) (
    Option.bind (pX11_step R I a0 v22 (1 : Int32)) (fun r30 =>
    am_ck (am_inb r30 64) (
    Option.bind (pX11_plus (J23 (R a0 17) (Int32.toNatClampNeg r28)) (J23 (R a0 17) (Int32.toNatClampNeg r30))) (fun r31 =>
    Option.bind (pX11_step R I a0 v22 (2 : Int32)) (fun r33 =>
    am_ck (am_inb r33 64) (
    Option.bind (pX11_plus r31 (J23 (R a0 17) (Int32.toNatClampNeg r33))) (fun r34 =>
    am_ck (am_inb v22 64) (
    am_let (am_upL J23 (R a0 18) (Int32.toNatClampNeg v22) r34) (fun J35 =>
    ih24 (v22 + (1 : Int32)) J35)))))))))))
noncomputable def lX11_wordsOf_43 (R : am_R) (I : am_I) (a0 : Nat) (x1 : Int32) (v4 : Int32) (j9 : am_L → Option (Int64 × am_L)) : Nat → Int32 → am_L → Option (Int64 × am_L)
  | 0, _, _ => none
  | n + 1, v22, J23 => sX11_wordsOf_43 R I a0 x1 v4 j9 (lX11_wordsOf_43 R I a0 x1 v4 j9 n) v22 J23
noncomputable def sX11_wordsOf_36 (R : am_R) (I : am_I) (a0 : Nat) (x1 : Int32) (ih6 : Int32 → am_L → Option (Int64 × am_L)) (v4 : Int32) (J5 : am_L) : Option (Int64 × am_L) :=
  if x1 ≤ v4 then (
    am_ck (am_inb (I a0 4) 64) (
    some ((J5 (R a0 17) (Int32.toNatClampNeg (I a0 4))), J5))) else (
    am_jn (fun (J10 : am_L) =>
  am_jn (fun (J12 : am_L) =>
  ih6 (v4 + (1 : Int32)) J12) (fun j11 =>
  lX11_wordsOf_106 R I a0 x1 v4 j11 am_fu (0 : Int32) J10)) (fun j9 =>
    lX11_wordsOf_43 R I a0 x1 v4 j9 am_fu (0 : Int32) J5))
noncomputable def lX11_wordsOf_36 (R : am_R) (I : am_I) (a0 : Nat) (x1 : Int32) : Nat → Int32 → am_L → Option (Int64 × am_L)
  | 0, _, _ => none
  | n + 1, v4, J5 => sX11_wordsOf_36 R I a0 x1 (lX11_wordsOf_36 R I a0 x1 n) v4 J5
noncomputable def sX11_wordsOf_2 (R : am_R) (I : am_I) (a0 : Nat) (x1 : Int32) (j1 : am_L → Option (Int64 × am_L)) (ih39 : Int32 → am_L → Option (Int64 × am_L)) (v37 : Int32) (J38 : am_L) : Option (Int64 × am_L) :=
  if (64 : Int32) ≤ v37 then (
    j1 J38) else (
    am_let (if (v37 &&& (I a0 5)) = 0 then (0 : Int64) else (1 : Int64)) (fun v42 =>
    am_ck (am_inb v37 64) (
    am_let (am_upL J38 (R a0 17) (Int32.toNatClampNeg v37) v42) (fun J44 =>
    ih39 (v37 + (1 : Int32)) J44))))
noncomputable def lX11_wordsOf_2 (R : am_R) (I : am_I) (a0 : Nat) (x1 : Int32) (j1 : am_L → Option (Int64 × am_L)) : Nat → Int32 → am_L → Option (Int64 × am_L)
  | 0, _, _ => none
  | n + 1, v37, J38 => sX11_wordsOf_2 R I a0 x1 j1 (lX11_wordsOf_2 R I a0 x1 j1 n) v37 J38
noncomputable def pX11_wordsOf (R : am_R) (I : am_I) (L : am_L) (a0 : Nat) (x1 : Int32) : Option (Int64 × am_L) :=
  am_jn (fun (J2 : am_L) =>
  lX11_wordsOf_36 R I a0 x1 am_fu (0 : Int32) J2) (fun j1 =>
  lX11_wordsOf_2 R I a0 x1 j1 am_fu (0 : Int32) L)
noncomputable def pX11_pathsOfLength (R : am_R) (I : am_I) (L : am_L) (a0 : Nat) (x1 : Int32) : Option (Int64 × am_L) :=
  Option.bind (pX11_isBetween (Int32.toInt64 x1) (0 : Int64) (60 : Int64)) (fun r1 =>
  if r1 = 0 then (
    some ((-2 : Int64), L)) else (
    Option.bind (pX11_pathsOf R I L a0 x1) (fun r3 =>
    if 0 ≤ (lg_cmp r3.1 (0 : Int64)) then (
      some (r3.1, r3.2)) else (
      some ((-6 : Int64), r3.2)))))
noncomputable def pX11_wordsOfLength (R : am_R) (I : am_I) (L : am_L) (a0 : Nat) (x1 : Int32) : Option (Int64 × am_L) :=
  Option.bind (pX11_isBetween (Int32.toInt64 x1) (0 : Int64) (60 : Int64)) (fun r1 =>
  if r1 = 0 then (
    some ((-2 : Int64), L)) else (
    Option.bind (pX11_wordsOf R I L a0 x1) (fun r3 =>
    if 0 ≤ (lg_cmp r3.1 (0 : Int64)) then (
      some (r3.1, r3.2)) else (
      some ((-6 : Int64), r3.2)))))
noncomputable def pX11_averageBits (R : am_R) (I : am_I) (L : am_L) (a0 : Nat) (x1 : Int32) : Option (Int64 × am_L) :=
  Option.bind (pX11_isBetween (Int32.toInt64 x1) (0 : Int64) (60 : Int64)) (fun r1 =>
  if r1 = 0 then (
    some ((-2 : Int64), L)) else (
    Option.bind (pX11_pathsOf R I L a0 x1) (fun r3 =>
    Option.bind (pX11_wordsOf R I r3.2 a0 x1) (fun r4 =>
    if (lg_cmp r3.1 (0 : Int64)) < 0 then (
      some ((-6 : Int64), r4.2)) else (
      if 0 ≤ (lg_cmp r4.1 (0 : Int64)) then (
        am_jn (fun (v8 : UInt64) =>
  Option.bind (pJxe99ae_doubleToLongBits_ccdee v8) (fun r9 =>
  some (r9, r4.2))) (fun j7 =>
        if (lg_cmp r4.1 (0 : Int64)) = 0 then (
          j7 (9221120237041090560 : UInt64)) else (
          am_ck (decide ((FP.ddiv (FP.l2d r3.1) (FP.l2d r4.1)) &&& 0x7fffffffffffffff ≤ 0x7ff0000000000000)) (
          j7 (FP.ddiv (FP.l2d r3.1) (FP.l2d r4.1)))))) else (
        some ((-6 : Int64), r4.2)))))))
noncomputable def sX11_findSources_31 (R : am_R) (a0 : Nat) (v4 : Int32) (j8 : am_I → Option (am_I)) (ih13 : Int32 → am_I → Option (am_I)) (v11 : Int32) (J12 : am_I) : Option (am_I) :=
  if (J12 a0 3) ≤ v11 then (
    j8 J12) else (
    am_ck (am_inb (((v4 / (6 : Int32)) * (6 : Int32)) + v11) 18) (
    am_ck (am_inb v4 18) (
    Option.bind (pX11_has (Int32.toInt64 (J12 (R a0 0) (Int32.toNatClampNeg v4))) v11) (fun r17 =>
    am_let (if r17 = 0 then (0 : Int32) else ((1 : Int32) <<< ((v4 - v4 / (6 : Int32) * (6 : Int32)) &&& 31))) (fun v18 =>
    am_ck (am_inb (((v4 / (6 : Int32)) * (6 : Int32)) + v11) 18) (
    am_let (am_upI J12 (R a0 1) (Int32.toNatClampNeg (((v4 / (6 : Int32)) * (6 : Int32)) + v11)) ((J12 (R a0 1) (Int32.toNatClampNeg (((v4 / (6 : Int32)) * (6 : Int32)) + v11))) ||| v18)) (fun J20 =>
    ih13 (v11 + (1 : Int32)) J20)))))))
noncomputable def lX11_findSources_31 (R : am_R) (a0 : Nat) (v4 : Int32) (j8 : am_I → Option (am_I)) : Nat → Int32 → am_I → Option (am_I)
  | 0, _, _ => none
  | n + 1, v11, J12 => sX11_findSources_31 R a0 v4 j8 (lX11_findSources_31 R a0 v4 j8 n) v11 J12
noncomputable def sX11_findSources_23 (R : am_R) (a0 : Nat) (ih6 : Int32 → am_I → Option (am_I)) (v4 : Int32) (J5 : am_I) : Option (am_I) :=
  if (18 : Int32) ≤ v4 then (
    some J5) else (
    am_jn (fun (J9 : am_I) =>
  ih6 (v4 + (1 : Int32)) J9) (fun j8 =>
    lX11_findSources_31 R a0 v4 j8 am_fu (0 : Int32) J5))
noncomputable def lX11_findSources_23 (R : am_R) (a0 : Nat) : Nat → Int32 → am_I → Option (am_I)
  | 0, _, _ => none
  | n + 1, v4, J5 => sX11_findSources_23 R a0 (lX11_findSources_23 R a0 n) v4 J5
noncomputable def sX11_findSources_2 (R : am_R) (a0 : Nat) (j1 : am_I → Option (am_I)) (ih25 : Int32 → am_I → Option (am_I)) (v23 : Int32) (J24 : am_I) : Option (am_I) :=
  if (18 : Int32) ≤ v23 then (
    j1 J24) else (
    am_ck (am_inb v23 18) (
    am_let (am_upI J24 (R a0 1) (Int32.toNatClampNeg v23) (0 : Int32)) (fun J28 =>
    ih25 (v23 + (1 : Int32)) J28)))
noncomputable def lX11_findSources_2 (R : am_R) (a0 : Nat) (j1 : am_I → Option (am_I)) : Nat → Int32 → am_I → Option (am_I)
  | 0, _, _ => none
  | n + 1, v23, J24 => sX11_findSources_2 R a0 j1 (lX11_findSources_2 R a0 j1 n) v23 J24
noncomputable def pX11_findSources (R : am_R) (I : am_I) (a0 : Nat) : Option (am_I) :=
  am_jn (fun (J2 : am_I) =>
  lX11_findSources_23 R a0 am_fu (0 : Int32) J2) (fun j1 =>
  lX11_findSources_2 R a0 j1 am_fu (0 : Int32) I)
noncomputable def sX11_beginsSearch_11 (R : am_R) (a0 : Nat) (ih6 : Int32 → am_I → Option (am_I)) (v4 : Int32) (J5 : am_I) : Option (am_I) :=
  if (216 : Int32) ≤ v4 then (
    some J5) else (
    am_ck (am_inb v4 216) (
    am_let (am_upI J5 (R a0 19) (Int32.toNatClampNeg v4) (1000 : Int32)) (fun J9 =>
    ih6 (v4 + (1 : Int32)) J9)))
noncomputable def lX11_beginsSearch_11 (R : am_R) (a0 : Nat) : Nat → Int32 → am_I → Option (am_I)
  | 0, _, _ => none
  | n + 1, v4, J5 => sX11_beginsSearch_11 R a0 (lX11_beginsSearch_11 R a0 n) v4 J5
noncomputable def pX11_beginsSearch (R : am_R) (I : am_I) (a0 : Nat) : Option (am_I) :=
  Option.bind (pX11_findSources R I a0) (fun r1 =>
  am_let (am_upI r1 a0 21 (0 : Int32)) (fun J2 =>
  lX11_beginsSearch_11 R a0 am_fu (0 : Int32) J2))
noncomputable def pX11_reaches (R : am_R) (I : am_I) (a0 : Nat) (x1 : Int32) (x2 : Int32) : Option (am_I) :=
  am_ck (am_inb x1 216) (
  if (1000 : Int32) ≤ (I (R a0 19) (Int32.toNatClampNeg x1)) then (
    am_ck (am_inb x1 216) (
    am_let (am_upI I (R a0 19) (Int32.toNatClampNeg x1) x2) (fun J4 =>
    am_ck (am_inb (J4 a0 21) 216) (
    am_let (am_upI J4 (R a0 20) (Int32.toNatClampNeg (J4 a0 21)) x1) (fun J6 =>
    am_let (am_upI J6 a0 21 ((J6 a0 21) + (1 : Int32))) (fun J7 =>
    some J7)))))) else (
    some I))
noncomputable def pX11_pairNode (x0 : Int32) (x1 : Int32) (x2 : Int32) : Option (Int32) :=
  if x2 = 0 then (
    some (((2 : Int32) * (((6 : Int32) * x0) + x1)) + (0 : Int32))) else (
    some (((2 : Int32) * (((6 : Int32) * x0) + x1)) + (1 : Int32)))
noncomputable def sX11_spreadsPairs_161 (R : am_R) (a0 : Nat) (v2 : Int32) (v7 : Int32) (v9 : Int32) (v11 : Int32) (v15 : Int32) (v19 : Int32) (v24 : Int32) (v26 : Int32) (v30 : Int32) (j37 : am_I → Option (am_I)) (ih42 : Int32 → am_I → Option (am_I)) (v40 : Int32) (J41 : am_I) : Option (am_I) :=
  if (J41 a0 3) ≤ v40 then (
    j37 J41) else (
    if v11 = 0 then (
      j37 J41) else (
      Option.bind (pX11_has (Int32.toInt64 v24) v30) (fun r45 =>
      am_jn (fun (J47 : am_I) =>
  ih42 (v40 + (1 : Int32)) J47) (fun j46 =>
      if r45 = 0 then (
        j46 J41) else (
        Option.bind (pX11_has (Int32.toInt64 v26) v40) (fun r49 =>
        if r49 = 0 then (
          j46 J41) else (
          Option.bind (pX11_pairNode v30 v40 (1 : Int32)) (fun r51 =>
          Option.bind (pX11_reaches R J41 a0 r51 v15) (fun r52 =>
          j46 r52)))))))))
noncomputable def lX11_spreadsPairs_161 (R : am_R) (a0 : Nat) (v2 : Int32) (v7 : Int32) (v9 : Int32) (v11 : Int32) (v15 : Int32) (v19 : Int32) (v24 : Int32) (v26 : Int32) (v30 : Int32) (j37 : am_I → Option (am_I)) : Nat → Int32 → am_I → Option (am_I)
  | 0, _, _ => none
  | n + 1, v40, J41 => sX11_spreadsPairs_161 R a0 v2 v7 v9 v11 v15 v19 v24 v26 v30 j37 (lX11_spreadsPairs_161 R a0 v2 v7 v9 v11 v15 v19 v24 v26 v30 j37 n) v40 J41
noncomputable def sX11_spreadsPairs_106 (R : am_R) (a0 : Nat) (v2 : Int32) (v7 : Int32) (v9 : Int32) (v11 : Int32) (v15 : Int32) (v19 : Int32) (v24 : Int32) (v26 : Int32) (j27 : am_I → Option (am_I)) (ih32 : Int32 → am_I → Option (am_I)) (v30 : Int32) (J31 : am_I) : Option (am_I) :=
  if (J31 a0 3) ≤ v30 then (
    j27 J31) else (
    Option.bind (pX11_has (Int32.toInt64 (v24 &&& v26)) v30) (fun r34 =>
    am_jn (fun (J36 : am_I) =>
  am_jn (fun (J38 : am_I) =>
  ih32 (v30 + (1 : Int32)) J38) (fun j37 =>
  lX11_spreadsPairs_161 R a0 v2 v7 v9 v11 v15 v19 v24 v26 v30 j37 am_fu (0 : Int32) J36)) (fun j35 =>
    if r34 = 0 then (
      j35 J31) else (
      am_let (if v7 = v9 then (0 : Int32) else (1 : Int32)) (fun v54 =>
      if v11 = v54 then (
        Option.bind (pX11_pairNode v30 v30 (0 : Int32)) (fun r57 =>
        Option.bind (pX11_reaches R J31 a0 r57 v15) (fun r58 =>
        j35 r58))) else (
        j35 J31))))))
noncomputable def lX11_spreadsPairs_106 (R : am_R) (a0 : Nat) (v2 : Int32) (v7 : Int32) (v9 : Int32) (v11 : Int32) (v15 : Int32) (v19 : Int32) (v24 : Int32) (v26 : Int32) (j27 : am_I → Option (am_I)) : Nat → Int32 → am_I → Option (am_I)
  | 0, _, _ => none
  | n + 1, v30, J31 => sX11_spreadsPairs_106 R a0 v2 v7 v9 v11 v15 v19 v24 v26 j27 (lX11_spreadsPairs_106 R a0 v2 v7 v9 v11 v15 v19 v24 v26 j27 n) v30 J31
noncomputable def sX11_spreadsPairs_69 (R : am_R) (a0 : Nat) (v2 : Int32) (v7 : Int32) (v9 : Int32) (v11 : Int32) (v15 : Int32) (j16 : am_I → Option (am_I)) (ih21 : Int32 → am_I → Option (am_I)) (v19 : Int32) (J20 : am_I) : Option (am_I) :=
  if (3 : Int32) ≤ v19 then (
    j16 J20) else (
    am_ck (am_inb (((6 : Int32) * v19) + v7) 18) (
    am_let (J20 (R a0 1) (Int32.toNatClampNeg (((6 : Int32) * v19) + v7))) (fun v24 =>
    am_ck (am_inb (((6 : Int32) * v19) + v9) 18) (
    am_let (J20 (R a0 1) (Int32.toNatClampNeg (((6 : Int32) * v19) + v9))) (fun v26 =>
    am_jn (fun (J28 : am_I) =>
  ih21 (v19 + (1 : Int32)) J28) (fun j27 =>
    lX11_spreadsPairs_106 R a0 v2 v7 v9 v11 v15 v19 v24 v26 j27 am_fu (0 : Int32) J20))))))
noncomputable def lX11_spreadsPairs_69 (R : am_R) (a0 : Nat) (v2 : Int32) (v7 : Int32) (v9 : Int32) (v11 : Int32) (v15 : Int32) (j16 : am_I → Option (am_I)) : Nat → Int32 → am_I → Option (am_I)
  | 0, _, _ => none
  | n + 1, v19, J20 => sX11_spreadsPairs_69 R a0 v2 v7 v9 v11 v15 j16 (lX11_spreadsPairs_69 R a0 v2 v7 v9 v11 v15 j16 n) v19 J20
noncomputable def sX11_spreadsPairs_2 (R : am_R) (a0 : Nat) (ih4 : Int32 → am_I → Option (am_I)) (v2 : Int32) (J3 : am_I) : Option (am_I) :=
  if (J3 a0 21) ≤ v2 then (
    some J3) else (
    am_ck (am_inb v2 216) (
    am_let ((J3 (R a0 20) (Int32.toNatClampNeg v2)) / (12 : Int32)) (fun v7 =>
    am_ck (am_inb v2 216) (
    am_let (((J3 (R a0 20) (Int32.toNatClampNeg v2)) / (2 : Int32)) - ((J3 (R a0 20) (Int32.toNatClampNeg v2)) / (2 : Int32)) / (6 : Int32) * (6 : Int32)) (fun v9 =>
    am_ck (am_inb v2 216) (
    am_let (if ((J3 (R a0 20) (Int32.toNatClampNeg v2)) - (J3 (R a0 20) (Int32.toNatClampNeg v2)) / (2 : Int32) * (2 : Int32)) = (1 : Int32) then (1 : Int32) else (0 : Int32)) (fun v11 =>
    am_ck (am_inb v2 216) (
    am_ck (am_inb (J3 (R a0 20) (Int32.toNatClampNeg v2)) 216) (
    am_let ((J3 (R a0 19) (Int32.toNatClampNeg (J3 (R a0 20) (Int32.toNatClampNeg v2)))) + (1 : Int32)) (fun v15 =>
    am_jn (fun (J17 : am_I) =>
  ih4 (v2 + (1 : Int32)) J17) (fun j16 =>
    lX11_spreadsPairs_69 R a0 v2 v7 v9 v11 v15 j16 am_fu (0 : Int32) J3)))))))))))
noncomputable def lX11_spreadsPairs_2 (R : am_R) (a0 : Nat) : Nat → Int32 → am_I → Option (am_I)
  | 0, _, _ => none
  | n + 1, v2, J3 => sX11_spreadsPairs_2 R a0 (lX11_spreadsPairs_2 R a0 n) v2 J3
noncomputable def pX11_spreadsPairs (R : am_R) (I : am_I) (a0 : Nat) : Option (am_I) :=
  lX11_spreadsPairs_2 R a0 am_fu (0 : Int32) I
noncomputable def pX11_leadsPair (R : am_R) (I : am_I) (a0 : Nat) (x1 : Int32) (x2 : Int32) (x3 : Int32) : Option (Int32) :=
  am_let (x1 / (12 : Int32)) (fun v1 =>
  am_let ((x1 / (2 : Int32)) - (x1 / (2 : Int32)) / (6 : Int32) * (6 : Int32)) (fun v2 =>
  am_let (x3 / (12 : Int32)) (fun v3 =>
  am_let ((x3 / (2 : Int32)) - (x3 / (2 : Int32)) / (6 : Int32) * (6 : Int32)) (fun v4 =>
  am_let (if (x1 - x1 / (2 : Int32) * (2 : Int32)) = (1 : Int32) then (1 : Int32) else (if v3 = v4 then (0 : Int32) else (1 : Int32))) (fun v5 =>
  am_let (if (x3 - x3 / (2 : Int32) * (2 : Int32)) = (1 : Int32) then (1 : Int32) else (0 : Int32)) (fun v7 =>
  if v5 = v7 then (
    am_ck (am_inb (((6 : Int32) * x2) + v1) 18) (
    Option.bind (pX11_has (Int32.toInt64 (I (R a0 0) (Int32.toNatClampNeg (((6 : Int32) * x2) + v1)))) v3) (fun r11 =>
    if r11 = 0 then (
      some (0 : Int32)) else (
      am_ck (am_inb (((6 : Int32) * x2) + v2) 18) (
      Option.bind (pX11_has (Int32.toInt64 (I (R a0 0) (Int32.toNatClampNeg (((6 : Int32) * x2) + v2)))) v4) (fun r14 =>
      if r14 = 0 then (
        some (0 : Int32)) else (
        some (1 : Int32)))))))) else (
    some (0 : Int32))))))))
noncomputable def pX11_leadsTriple (R : am_R) (I : am_I) (a0 : Nat) (x1 : Int32) (x2 : Int32) (x3 : Int32) : Option (Int32) :=
  am_let ((6 : Int32) * x2) (fun v1 =>
  am_ck (am_inb (v1 + (x1 / (36 : Int32))) 18) (
  Option.bind (pX11_has (Int32.toInt64 (I (R a0 0) (Int32.toNatClampNeg (v1 + (x1 / (36 : Int32)))))) (x3 / (36 : Int32))) (fun r3 =>
  if r3 = 0 then (
    some (0 : Int32)) else (
    am_ck (am_inb (v1 + ((x1 / (6 : Int32)) - (x1 / (6 : Int32)) / (6 : Int32) * (6 : Int32))) 18) (
    Option.bind (pX11_has (Int32.toInt64 (I (R a0 0) (Int32.toNatClampNeg (v1 + ((x1 / (6 : Int32)) - (x1 / (6 : Int32)) / (6 : Int32) * (6 : Int32)))))) ((x3 / (6 : Int32)) - (x3 / (6 : Int32)) / (6 : Int32) * (6 : Int32))) (fun r6 =>
    if r6 = 0 then (
      some (0 : Int32)) else (
      am_ck (am_inb (v1 + (x1 - x1 / (6 : Int32) * (6 : Int32))) 18) (
      Option.bind (pX11_has (Int32.toInt64 (I (R a0 0) (Int32.toNatClampNeg (v1 + (x1 - x1 / (6 : Int32) * (6 : Int32)))))) (x3 - x3 / (6 : Int32) * (6 : Int32))) (fun r9 =>
      if r9 = 0 then (
        some (0 : Int32)) else (
        some (1 : Int32)))))))))))
noncomputable def sX11_goes_38 (R : am_R) (a0 : Nat) (x1 : Int32) (x2 : Int32) (x3 : Int32) (v4 : Int32) (v1 : Int32) (v5 : Int32) (j12 : am_I → Option (Int32 × am_I)) (ih23 : Int32 → am_I → Option (Int32 × am_I)) (v21 : Int32) (J22 : am_I) : Option (Int32 × am_I) :=
  if v1 ≤ v21 then (
    j12 J22) else (
    am_ck (am_inb v5 216) (
    if (J22 (R a0 19) (Int32.toNatClampNeg v5)) = x2 then (
      am_ck (am_inb v5 216) (
      if (J22 (R a0 24) (Int32.toNatClampNeg v5)) = 0 then (
        am_ck (am_inb v21 216) (
        am_jn (fun (v32 : Int32) =>
  am_ck (am_isb v32) (
  am_ck (am_inb v5 216) (
  am_let (am_upI J22 (R a0 24) (Int32.toNatClampNeg v5) v32) (fun J34 =>
  ih23 (v21 + (1 : Int32)) J34)))) (fun j31 =>
        am_jn (
  j31 (0 : Int32)) (fun j35 =>
        if (J22 (R a0 23) (Int32.toNatClampNeg v21)) = 0 then (
          j35) else (
          am_jn (
  j31 (1 : Int32)) (fun j37 =>
          if x3 = 0 then (
            Option.bind (pX11_leadsPair R J22 a0 v21 x1 v5) (fun r39 =>
            if r39 = 0 then (
              j35) else (
              j37))) else (
            Option.bind (pX11_leadsTriple R J22 a0 v21 x1 v5) (fun r41 =>
            if r41 = 0 then (
              j35) else (
              j37))))))))) else (
        j12 J22))) else (
      j12 J22)))
noncomputable def lX11_goes_38 (R : am_R) (a0 : Nat) (x1 : Int32) (x2 : Int32) (x3 : Int32) (v4 : Int32) (v1 : Int32) (v5 : Int32) (j12 : am_I → Option (Int32 × am_I)) : Nat → Int32 → am_I → Option (Int32 × am_I)
  | 0, _, _ => none
  | n + 1, v21, J22 => sX11_goes_38 R a0 x1 x2 x3 v4 v1 v5 j12 (lX11_goes_38 R a0 x1 x2 x3 v4 v1 v5 j12 n) v21 J22
noncomputable def sX11_goes_20 (R : am_R) (a0 : Nat) (x1 : Int32) (x2 : Int32) (x3 : Int32) (v1 : Int32) (ih7 : Int32 → Int32 → am_I → Option (Int32 × am_I)) (v4 : Int32) (v5 : Int32) (J6 : am_I) : Option (Int32 × am_I) :=
  if v1 ≤ v5 then (
    am_ck (am_isb v4) (
    some (v4, J6))) else (
    am_ck (am_inb v5 216) (
    am_let (am_upI J6 (R a0 24) (Int32.toNatClampNeg v5) (0 : Int32)) (fun J11 =>
    am_jn (fun (J13 : am_I) =>
  am_jn (fun (v15 : Int32) =>
  ih7 v15 (v5 + (1 : Int32)) J13) (fun j14 =>
  am_jn (
  j14 (1 : Int32)) (fun j16 =>
  if v4 = 0 then (
    am_ck (am_inb v5 216) (
    if (J13 (R a0 24) (Int32.toNatClampNeg v5)) = 0 then (
      j14 (0 : Int32)) else (
      j16))) else (
    j16)))) (fun j12 =>
    lX11_goes_38 R a0 x1 x2 x3 v4 v1 v5 j12 am_fu (0 : Int32) J11))))
noncomputable def lX11_goes_20 (R : am_R) (a0 : Nat) (x1 : Int32) (x2 : Int32) (x3 : Int32) (v1 : Int32) : Nat → Int32 → Int32 → am_I → Option (Int32 × am_I)
  | 0, _, _, _ => none
  | n + 1, v4, v5, J6 => sX11_goes_20 R a0 x1 x2 x3 v1 (lX11_goes_20 R a0 x1 x2 x3 v1 n) v4 v5 J6
noncomputable def pX11_goes (R : am_R) (I : am_I) (a0 : Nat) (x1 : Int32) (x2 : Int32) (x3 : Int32) : Option (Int32 × am_I) :=
  am_let (if x3 = 0 then (72 : Int32) else (216 : Int32)) (fun v1 =>
  lX11_goes_20 R a0 x1 x2 x3 v1 am_fu (0 : Int32) (0 : Int32) I)
noncomputable def sX11_spells_47 (R : am_R) (a0 : Nat) (x1 : Int32) (x2 : Int32) (v3 : Int32) (j12 : am_I → Option (am_I)) (ih17 : Int32 → am_I → Option (am_I)) (v15 : Int32) (J16 : am_I) : Option (am_I) :=
  if (216 : Int32) ≤ v15 then (
    j12 J16) else (
    am_ck (am_inb v15 216) (
    am_ck (am_isb (J16 (R a0 24) (Int32.toNatClampNeg v15))) (
    am_ck (am_inb v15 216) (
    am_let (am_upI J16 (R a0 23) (Int32.toNatClampNeg v15) (J16 (R a0 24) (Int32.toNatClampNeg v15))) (fun J22 =>
    ih17 (v15 + (1 : Int32)) J22)))))
noncomputable def lX11_spells_47 (R : am_R) (a0 : Nat) (x1 : Int32) (x2 : Int32) (v3 : Int32) (j12 : am_I → Option (am_I)) : Nat → Int32 → am_I → Option (am_I)
  | 0, _, _ => none
  | n + 1, v15, J16 => sX11_spells_47 R a0 x1 x2 v3 j12 (lX11_spells_47 R a0 x1 x2 v3 j12 n) v15 J16
noncomputable def sX11_spells_15 (R : am_R) (a0 : Nat) (x1 : Int32) (x2 : Int32) (v3 : Int32) (j7 : Int32 → am_I → Option (am_I)) (ih26 : Int32 → am_I → Option (am_I)) (v24 : Int32) (J25 : am_I) : Option (am_I) :=
  Option.bind (pX11_goes R J25 a0 v24 ((x1 - (1 : Int32)) - v3) x2) (fun r27 =>
  if r27.1 = 0 then (
    ih26 (v24 + (1 : Int32)) r27.2) else (
    j7 v24 r27.2))
noncomputable def lX11_spells_15 (R : am_R) (a0 : Nat) (x1 : Int32) (x2 : Int32) (v3 : Int32) (j7 : Int32 → am_I → Option (am_I)) : Nat → Int32 → am_I → Option (am_I)
  | 0, _, _ => none
  | n + 1, v24, J25 => sX11_spells_15 R a0 x1 x2 v3 j7 (lX11_spells_15 R a0 x1 x2 v3 j7 n) v24 J25
noncomputable def sX11_spells_7 (R : am_R) (a0 : Nat) (x1 : Int32) (x2 : Int32) (ih5 : Int32 → am_I → Option (am_I)) (v3 : Int32) (J4 : am_I) : Option (am_I) :=
  if x1 ≤ v3 then (
    some J4) else (
    am_jn (fun (v8 : Int32) (J9 : am_I) =>
  am_ck (am_inb v3 216) (
  am_let (am_upI J9 (R a0 22) (Int32.toNatClampNeg v3) v8) (fun J11 =>
  am_jn (fun (J13 : am_I) =>
  ih5 (v3 + (1 : Int32)) J13) (fun j12 =>
  lX11_spells_47 R a0 x1 x2 v3 j12 am_fu (0 : Int32) J11)))) (fun j7 =>
    lX11_spells_15 R a0 x1 x2 v3 j7 am_fu (0 : Int32) J4))
noncomputable def lX11_spells_7 (R : am_R) (a0 : Nat) (x1 : Int32) (x2 : Int32) : Nat → Int32 → am_I → Option (am_I)
  | 0, _, _ => none
  | n + 1, v3, J4 => sX11_spells_7 R a0 x1 x2 (lX11_spells_7 R a0 x1 x2 n) v3 J4
noncomputable def pX11_spells (R : am_R) (I : am_I) (a0 : Nat) (x1 : Int32) (x2 : Int32) : Option (am_I) :=
  am_let (am_upI I a0 25 x1) (fun J1 =>
  lX11_spells_7 R a0 x1 x2 am_fu (0 : Int32) J1)
noncomputable def sX11_nobodyIsHere_2 (R : am_R) (a0 : Nat) (ih4 : Int32 → am_I → Option (am_I)) (v2 : Int32) (J3 : am_I) : Option (am_I) :=
  if (216 : Int32) ≤ v2 then (
    some J3) else (
    am_ck (am_inb v2 216) (
    am_let (am_upI J3 (R a0 23) (Int32.toNatClampNeg v2) (0 : Int32)) (fun J7 =>
    am_ck (am_inb v2 216) (
    am_let (am_upI J7 (R a0 24) (Int32.toNatClampNeg v2) (0 : Int32)) (fun J9 =>
    ih4 (v2 + (1 : Int32)) J9)))))
noncomputable def lX11_nobodyIsHere_2 (R : am_R) (a0 : Nat) : Nat → Int32 → am_I → Option (am_I)
  | 0, _, _ => none
  | n + 1, v2, J3 => sX11_nobodyIsHere_2 R a0 (lX11_nobodyIsHere_2 R a0 n) v2 J3
noncomputable def pX11_nobodyIsHere (R : am_R) (I : am_I) (a0 : Nat) : Option (am_I) :=
  lX11_nobodyIsHere_2 R a0 am_fu (0 : Int32) I
noncomputable def sX11_spellAmbiguous_206 (R : am_R) (a0 : Nat) (v6 : Int32) (v13 : Int32) (j17 : am_I → Option (Int32 × am_I)) (ih22 : Int32 → am_I → Option (Int32 × am_I)) (v20 : Int32) (J21 : am_I) : Option (Int32 × am_I) :=
  if (J21 a0 3) ≤ v20 then (
    j17 J21) else (
    Option.bind (pX11_has (Int32.toInt64 (J21 a0 4)) v13) (fun r24 =>
    am_jn (fun (J26 : am_I) =>
  ih22 (v20 + (1 : Int32)) J26) (fun j25 =>
    if r24 = 0 then (
      j25 J21) else (
      Option.bind (pX11_has (Int32.toInt64 (J21 a0 4)) v20) (fun r28 =>
      if r28 = 0 then (
        j25 J21) else (
        am_let (if v13 = v20 then (0 : Int32) else (1 : Int32)) (fun v31 =>
        Option.bind (pX11_pairNode v13 v20 v31) (fun r33 =>
        am_ck (am_inb r33 216) (
        if (J21 (R a0 19) (Int32.toNatClampNeg r33)) = v6 then (
          am_let (if v13 = v20 then (0 : Int32) else (1 : Int32)) (fun v36 =>
          Option.bind (pX11_pairNode v13 v20 v36) (fun r38 =>
          am_ck (am_inb r38 216) (
          am_let (am_upI J21 (R a0 23) (Int32.toNatClampNeg r38) (1 : Int32)) (fun J39 =>
          j25 J39))))) else (
          j25 J21))))))))))
noncomputable def lX11_spellAmbiguous_206 (R : am_R) (a0 : Nat) (v6 : Int32) (v13 : Int32) (j17 : am_I → Option (Int32 × am_I)) : Nat → Int32 → am_I → Option (Int32 × am_I)
  | 0, _, _ => none
  | n + 1, v20, J21 => sX11_spellAmbiguous_206 R a0 v6 v13 j17 (lX11_spellAmbiguous_206 R a0 v6 v13 j17 n) v20 J21
noncomputable def sX11_spellAmbiguous_196 (R : am_R) (a0 : Nat) (v6 : Int32) (j9 : am_I → Option (Int32 × am_I)) (ih15 : Int32 → am_I → Option (Int32 × am_I)) (v13 : Int32) (J14 : am_I) : Option (Int32 × am_I) :=
  if (J14 a0 3) ≤ v13 then (
    j9 J14) else (
    am_jn (fun (J18 : am_I) =>
  ih15 (v13 + (1 : Int32)) J18) (fun j17 =>
    lX11_spellAmbiguous_206 R a0 v6 v13 j17 am_fu (0 : Int32) J14))
noncomputable def lX11_spellAmbiguous_196 (R : am_R) (a0 : Nat) (v6 : Int32) (j9 : am_I → Option (Int32 × am_I)) : Nat → Int32 → am_I → Option (Int32 × am_I)
  | 0, _, _ => none
  | n + 1, v13, J14 => sX11_spellAmbiguous_196 R a0 v6 j9 (lX11_spellAmbiguous_196 R a0 v6 j9 n) v13 J14
noncomputable def sX11_spellAmbiguous_91 (R : am_R) (a0 : Nat) (v44 : Int32) (r4 : am_I) (j47 : Int32 → Option (Int32 × am_I)) (ih52 : Int32 → Int32 → Option (Int32 × am_I)) (v50 : Int32) (v51 : Int32) : Option (Int32 × am_I) :=
  if (r4 a0 3) ≤ v51 then (
    j47 v50) else (
    Option.bind (pX11_has (Int32.toInt64 (r4 a0 4)) v44) (fun r54 =>
    am_jn (fun (v56 : Int32) =>
  ih52 v56 (v51 + (1 : Int32))) (fun j55 =>
    if r54 = 0 then (
      j55 v50) else (
      Option.bind (pX11_has (Int32.toInt64 (r4 a0 4)) v51) (fun r58 =>
      if r58 = 0 then (
        j55 v50) else (
        am_let (if v44 = v51 then (0 : Int32) else (1 : Int32)) (fun v61 =>
        Option.bind (pX11_pairNode v44 v51 v61) (fun r63 =>
        am_ck (am_inb r63 216) (
        if v50 ≤ (r4 (R a0 19) (Int32.toNatClampNeg r63)) then (
          j55 v50) else (
          am_let (if v44 = v51 then (0 : Int32) else (1 : Int32)) (fun v66 =>
          Option.bind (pX11_pairNode v44 v51 v66) (fun r68 =>
          am_ck (am_inb r68 216) (
          am_let (r4 (R a0 19) (Int32.toNatClampNeg r68)) (fun v69 =>
          j55 v69))))))))))))))
noncomputable def lX11_spellAmbiguous_91 (R : am_R) (a0 : Nat) (v44 : Int32) (r4 : am_I) (j47 : Int32 → Option (Int32 × am_I)) : Nat → Int32 → Int32 → Option (Int32 × am_I)
  | 0, _, _ => none
  | n + 1, v50, v51 => sX11_spellAmbiguous_91 R a0 v44 r4 j47 (lX11_spellAmbiguous_91 R a0 v44 r4 j47 n) v50 v51
noncomputable def sX11_spellAmbiguous_81 (R : am_R) (a0 : Nat) (r4 : am_I) (j5 : Int32 → Option (Int32 × am_I)) (ih45 : Int32 → Int32 → Option (Int32 × am_I)) (v43 : Int32) (v44 : Int32) : Option (Int32 × am_I) :=
  if (r4 a0 3) ≤ v44 then (
    j5 v43) else (
    am_jn (fun (v48 : Int32) =>
  ih45 v48 (v44 + (1 : Int32))) (fun j47 =>
    lX11_spellAmbiguous_91 R a0 v44 r4 j47 am_fu v43 (0 : Int32)))
noncomputable def lX11_spellAmbiguous_81 (R : am_R) (a0 : Nat) (r4 : am_I) (j5 : Int32 → Option (Int32 × am_I)) : Nat → Int32 → Int32 → Option (Int32 × am_I)
  | 0, _, _ => none
  | n + 1, v43, v44 => sX11_spellAmbiguous_81 R a0 r4 j5 (lX11_spellAmbiguous_81 R a0 r4 j5 n) v43 v44
noncomputable def sX11_spellAmbiguous_16 (R : am_R) (a0 : Nat) (v73 : Int32) (j77 : am_I → Option (Int32 × am_I)) (ih82 : Int32 → am_I → Option (Int32 × am_I)) (v80 : Int32) (J81 : am_I) : Option (Int32 × am_I) :=
  if (J81 a0 3) ≤ v80 then (
    j77 J81) else (
    Option.bind (pX11_has (Int32.toInt64 (J81 a0 5)) v73) (fun r84 =>
    am_jn (fun (J86 : am_I) =>
  ih82 (v80 + (1 : Int32)) J86) (fun j85 =>
    if r84 = 0 then (
      j85 J81) else (
      Option.bind (pX11_has (Int32.toInt64 (J81 a0 5)) v80) (fun r88 =>
      if r88 = 0 then (
        j85 J81) else (
        Option.bind (pX11_pairNode v73 v80 (1 : Int32)) (fun r90 =>
        Option.bind (pX11_reaches R J81 a0 r90 (0 : Int32)) (fun r91 =>
        j85 r91))))))))
noncomputable def lX11_spellAmbiguous_16 (R : am_R) (a0 : Nat) (v73 : Int32) (j77 : am_I → Option (Int32 × am_I)) : Nat → Int32 → am_I → Option (Int32 × am_I)
  | 0, _, _ => none
  | n + 1, v80, J81 => sX11_spellAmbiguous_16 R a0 v73 j77 (lX11_spellAmbiguous_16 R a0 v73 j77 n) v80 J81
noncomputable def sX11_spellAmbiguous_6 (R : am_R) (a0 : Nat) (j2 : am_I → Option (Int32 × am_I)) (ih75 : Int32 → am_I → Option (Int32 × am_I)) (v73 : Int32) (J74 : am_I) : Option (Int32 × am_I) :=
  if (J74 a0 3) ≤ v73 then (
    j2 J74) else (
    am_jn (fun (J78 : am_I) =>
  ih75 (v73 + (1 : Int32)) J78) (fun j77 =>
    lX11_spellAmbiguous_16 R a0 v73 j77 am_fu (0 : Int32) J74))
noncomputable def lX11_spellAmbiguous_6 (R : am_R) (a0 : Nat) (j2 : am_I → Option (Int32 × am_I)) : Nat → Int32 → am_I → Option (Int32 × am_I)
  | 0, _, _ => none
  | n + 1, v73, J74 => sX11_spellAmbiguous_6 R a0 j2 (lX11_spellAmbiguous_6 R a0 j2 n) v73 J74
noncomputable def pX11_spellAmbiguous (R : am_R) (I : am_I) (a0 : Nat) : Option (Int32 × am_I) :=
  Option.bind (pX11_beginsSearch R I a0) (fun r1 =>
  am_jn (fun (J3 : am_I) =>
  Option.bind (pX11_spreadsPairs R J3 a0) (fun r4 =>
  am_jn (fun (v6 : Int32) =>
  if v6 = (1000 : Int32) then (
    some ((-4 : Int32), r4)) else (
    Option.bind (pX11_nobodyIsHere R r4 a0) (fun r8 =>
    am_jn (fun (J10 : am_I) =>
  Option.bind (pX11_spells R J10 a0 v6 (0 : Int32)) (fun r11 =>
  some (v6, r11))) (fun j9 =>
    lX11_spellAmbiguous_196 R a0 v6 j9 am_fu (0 : Int32) r8)))) (fun j5 =>
  lX11_spellAmbiguous_81 R a0 r4 j5 am_fu (1000 : Int32) (0 : Int32)))) (fun j2 =>
  lX11_spellAmbiguous_6 R a0 j2 am_fu (0 : Int32) r1))
noncomputable def pX11_loopOf (R : am_R) (I : am_I) (a0 : Nat) (x1 : Int32) : Option (Int32 × am_I) :=
  Option.bind (pX11_beginsSearch R I a0) (fun r1 =>
  Option.bind (pX11_pairNode x1 x1 (1 : Int32)) (fun r2 =>
  Option.bind (pX11_reaches R r1 a0 r2 (0 : Int32)) (fun r3 =>
  Option.bind (pX11_spreadsPairs R r3 a0) (fun r4 =>
  Option.bind (pX11_pairNode x1 x1 (0 : Int32)) (fun r6 =>
  am_ck (am_inb r6 216) (
  some ((r4 (R a0 19) (Int32.toNatClampNeg r6)), r4)))))))
noncomputable def pX11_triple (x0 : Int32) (x1 : Int32) (x2 : Int32) : Option (Int32) :=
  some ((((36 : Int32) * x0) + ((6 : Int32) * x1)) + x2)
noncomputable def sX11_splitOf_113 (R : am_R) (a0 : Nat) (x1 : Int32) (x2 : Int32) (v9 : Int32) (v14 : Int32) (v16 : Int32) (v20 : Int32) (v25 : Int32) (v27 : Int32) (v29 : Int32) (j30 : am_I → Option (Int32 × am_I)) (ih35 : Int32 → am_I → Option (Int32 × am_I)) (v33 : Int32) (J34 : am_I) : Option (Int32 × am_I) :=
  if (216 : Int32) ≤ v33 then (
    j30 J34) else (
    Option.bind (pX11_has (Int32.toInt64 v25) (v33 / (36 : Int32))) (fun r37 =>
    am_jn (fun (J39 : am_I) =>
  ih35 (v33 + (1 : Int32)) J39) (fun j38 =>
    if r37 = 0 then (
      j38 J34) else (
      Option.bind (pX11_has (Int32.toInt64 v27) ((v33 / (6 : Int32)) - (v33 / (6 : Int32)) / (6 : Int32) * (6 : Int32))) (fun r41 =>
      if r41 = 0 then (
        j38 J34) else (
        Option.bind (pX11_has (Int32.toInt64 v29) (v33 - v33 / (6 : Int32) * (6 : Int32))) (fun r43 =>
        if r43 = 0 then (
          j38 J34) else (
          Option.bind (pX11_reaches R J34 a0 v33 v16) (fun r45 =>
          j38 r45)))))))))
noncomputable def lX11_splitOf_113 (R : am_R) (a0 : Nat) (x1 : Int32) (x2 : Int32) (v9 : Int32) (v14 : Int32) (v16 : Int32) (v20 : Int32) (v25 : Int32) (v27 : Int32) (v29 : Int32) (j30 : am_I → Option (Int32 × am_I)) : Nat → Int32 → am_I → Option (Int32 × am_I)
  | 0, _, _ => none
  | n + 1, v33, J34 => sX11_splitOf_113 R a0 x1 x2 v9 v14 v16 v20 v25 v27 v29 j30 (lX11_splitOf_113 R a0 x1 x2 v9 v14 v16 v20 v25 v27 v29 j30 n) v33 J34
noncomputable def sX11_splitOf_47 (R : am_R) (a0 : Nat) (x1 : Int32) (x2 : Int32) (v9 : Int32) (v14 : Int32) (v16 : Int32) (j17 : am_I → Option (Int32 × am_I)) (ih22 : Int32 → am_I → Option (Int32 × am_I)) (v20 : Int32) (J21 : am_I) : Option (Int32 × am_I) :=
  if (3 : Int32) ≤ v20 then (
    j17 J21) else (
    am_ck (am_inb (((6 : Int32) * v20) + (v14 / (36 : Int32))) 18) (
    am_let (J21 (R a0 1) (Int32.toNatClampNeg (((6 : Int32) * v20) + (v14 / (36 : Int32))))) (fun v25 =>
    am_ck (am_inb (((6 : Int32) * v20) + ((v14 / (6 : Int32)) - (v14 / (6 : Int32)) / (6 : Int32) * (6 : Int32))) 18) (
    am_let (J21 (R a0 1) (Int32.toNatClampNeg (((6 : Int32) * v20) + ((v14 / (6 : Int32)) - (v14 / (6 : Int32)) / (6 : Int32) * (6 : Int32))))) (fun v27 =>
    am_ck (am_inb (((6 : Int32) * v20) + (v14 - v14 / (6 : Int32) * (6 : Int32))) 18) (
    am_let (J21 (R a0 1) (Int32.toNatClampNeg (((6 : Int32) * v20) + (v14 - v14 / (6 : Int32) * (6 : Int32))))) (fun v29 =>
    am_jn (fun (J31 : am_I) =>
  ih22 (v20 + (1 : Int32)) J31) (fun j30 =>
    lX11_splitOf_113 R a0 x1 x2 v9 v14 v16 v20 v25 v27 v29 j30 am_fu (0 : Int32) J21))))))))
noncomputable def lX11_splitOf_47 (R : am_R) (a0 : Nat) (x1 : Int32) (x2 : Int32) (v9 : Int32) (v14 : Int32) (v16 : Int32) (j17 : am_I → Option (Int32 × am_I)) : Nat → Int32 → am_I → Option (Int32 × am_I)
  | 0, _, _ => none
  | n + 1, v20, J21 => sX11_splitOf_47 R a0 x1 x2 v9 v14 v16 j17 (lX11_splitOf_47 R a0 x1 x2 v9 v14 v16 j17 n) v20 J21
noncomputable def sX11_splitOf_17 (R : am_R) (a0 : Nat) (x1 : Int32) (x2 : Int32) (j4 : am_I → Option (Int32 × am_I)) (ih11 : Int32 → am_I → Option (Int32 × am_I)) (v9 : Int32) (J10 : am_I) : Option (Int32 × am_I) :=
  if (J10 a0 21) ≤ v9 then (
    j4 J10) else (
    am_ck (am_inb v9 216) (
    am_let (J10 (R a0 20) (Int32.toNatClampNeg v9)) (fun v14 =>
    am_ck (am_inb v14 216) (
    am_let ((J10 (R a0 19) (Int32.toNatClampNeg v14)) + (1 : Int32)) (fun v16 =>
    am_jn (fun (J18 : am_I) =>
  ih11 (v9 + (1 : Int32)) J18) (fun j17 =>
    lX11_splitOf_47 R a0 x1 x2 v9 v14 v16 j17 am_fu (0 : Int32) J10))))))
noncomputable def lX11_splitOf_17 (R : am_R) (a0 : Nat) (x1 : Int32) (x2 : Int32) (j4 : am_I → Option (Int32 × am_I)) : Nat → Int32 → am_I → Option (Int32 × am_I)
  | 0, _, _ => none
  | n + 1, v9, J10 => sX11_splitOf_17 R a0 x1 x2 j4 (lX11_splitOf_17 R a0 x1 x2 j4 n) v9 J10
noncomputable def pX11_splitOf (R : am_R) (I : am_I) (a0 : Nat) (x1 : Int32) (x2 : Int32) : Option (Int32 × am_I) :=
  Option.bind (pX11_beginsSearch R I a0) (fun r1 =>
  Option.bind (pX11_triple x1 x2 x2) (fun r2 =>
  Option.bind (pX11_reaches R r1 a0 r2 (0 : Int32)) (fun r3 =>
  am_jn (fun (J5 : am_I) =>
  Option.bind (pX11_triple x1 x1 x2) (fun r7 =>
  am_ck (am_inb r7 216) (
  some ((J5 (R a0 19) (Int32.toNatClampNeg r7)), J5)))) (fun j4 =>
  lX11_splitOf_17 R a0 x1 x2 j4 am_fu (0 : Int32) r3))))
noncomputable def sX11_finds_86 (R : am_R) (a0 : Nat) (r3 : Int32) (v12 : Int32) (j19 : am_I → Option (am_I)) (ih24 : Int32 → am_I → Option (am_I)) (v22 : Int32) (J23 : am_I) : Option (am_I) :=
  if (6 : Int32) ≤ v22 then (
    j19 J23) else (
    am_jn (fun (v27 : Int32) (J28 : am_I) =>
  am_ck (am_isb v27) (
  am_ck (am_inb (((6 : Int32) * v12) + v22) 36) (
  am_let (am_upI J28 (R a0 26) (Int32.toNatClampNeg (((6 : Int32) * v12) + v22)) v27) (fun J31 =>
  am_let (if v27 = 0 then (0 : Int32) else (1 : Int32)) (fun v32 =>
  am_let (am_upI J31 a0 28 ((J31 a0 28) + v32)) (fun J34 =>
  ih24 (v22 + (1 : Int32)) J34)))))) (fun j26 =>
    am_jn (fun (J37 : am_I) =>
  j26 (0 : Int32) J37) (fun j36 =>
    if v12 = v22 then (
      j36 J23) else (
      Option.bind (pX11_has (Int32.toInt64 r3) v12) (fun r39 =>
      if r39 = 0 then (
        j36 J23) else (
        Option.bind (pX11_has (Int32.toInt64 r3) v22) (fun r41 =>
        if r41 = 0 then (
          j36 J23) else (
          Option.bind (pX11_splitOf R J23 a0 v12 v22) (fun r43 =>
          if (1000 : Int32) ≤ r43.1 then (
            j36 r43.2) else (
            j26 (1 : Int32) r43.2))))))))))
noncomputable def lX11_finds_86 (R : am_R) (a0 : Nat) (r3 : Int32) (v12 : Int32) (j19 : am_I → Option (am_I)) : Nat → Int32 → am_I → Option (am_I)
  | 0, _, _ => none
  | n + 1, v22, J23 => sX11_finds_86 R a0 r3 v12 j19 (lX11_finds_86 R a0 r3 v12 j19 n) v22 J23
noncomputable def sX11_finds_46 (R : am_R) (a0 : Nat) (r3 : Int32) (ih14 : Int32 → am_I → Option (am_I)) (v12 : Int32) (J13 : am_I) : Option (am_I) :=
  if (6 : Int32) ≤ v12 then (
    some J13) else (
    Option.bind (pX11_has (Int32.toInt64 r3) v12) (fun r16 =>
    am_jn (fun (J18 : am_I) =>
  am_jn (fun (J20 : am_I) =>
  ih14 (v12 + (1 : Int32)) J20) (fun j19 =>
  lX11_finds_86 R a0 r3 v12 j19 am_fu (0 : Int32) J18)) (fun j17 =>
    if r16 = 0 then (
      j17 J13) else (
      Option.bind (pX11_loopOf R J13 a0 v12) (fun r46 =>
      if (1000 : Int32) ≤ r46.1 then (
        j17 r46.2) else (
        am_let (am_upI r46.2 a0 27 ((r46.2 a0 27) ||| ((1 : Int32) <<< (v12 &&& 31)))) (fun J48 =>
        j17 J48)))))))
noncomputable def lX11_finds_46 (R : am_R) (a0 : Nat) (r3 : Int32) : Nat → Int32 → am_I → Option (am_I)
  | 0, _, _ => none
  | n + 1, v12, J13 => sX11_finds_46 R a0 r3 (lX11_finds_46 R a0 r3 n) v12 J13
noncomputable def pX11_finds (R : am_R) (I : am_I) (a0 : Nat) : Option (am_I) :=
  if (I a0 6) = 0 then (
    am_let (am_upI I a0 6 (1 : Int32)) (fun J2 =>
    Option.bind (pX11_useful R J2 a0) (fun r3 =>
    Option.bind (pX11_spellAmbiguous R J2 a0) (fun r4 =>
    am_let (if r4.1 < 0 then (0 : Int32) else (1 : Int32)) (fun v5 =>
    am_ck (am_isb v5) (
    am_let (am_upI r4.2 a0 29 v5) (fun J8 =>
    am_let (am_upI J8 a0 27 (0 : Int32)) (fun J9 =>
    am_let (am_upI J9 a0 28 (0 : Int32)) (fun J10 =>
    lX11_finds_46 R a0 r3 am_fu (0 : Int32) J10))))))))) else (
    some I)
noncomputable def pX11_kindOf (R : am_R) (I : am_I) (a0 : Nat) : Option (Int32 × am_I) :=
  Option.bind (pX11_finds R I a0) (fun r1 =>
  if (r1 a0 29) = 0 then (
    some ((0 : Int32), r1)) else (
    if (r1 a0 27) = 0 then (
      if (r1 a0 28) ≤ 0 then (
        some ((1 : Int32), r1)) else (
        some ((2 : Int32), r1))) else (
      some ((3 : Int32), r1))))
noncomputable def pX11_kind (R : am_R) (I : am_I) (a0 : Nat) : Option (Int32 × am_I) :=
  Option.bind (pX11_kindOf R I a0) (fun r1 =>
  some (r1.1, r1.2))
noncomputable def sX11_degree_186 (R : am_R) (a0 : Nat) (J7 : am_I) (ih11 : Int32 → Int32 → Option (Int32 × am_I)) (v9 : Int32) (v10 : Int32) : Option (Int32 × am_I) :=
  if (36 : Int32) ≤ v10 then (
    some (v9, J7)) else (
    am_ck (am_inb v10 36) (
    am_jn (fun (v15 : Int32) =>
  ih11 v15 (v10 + (1 : Int32))) (fun j14 =>
    if (J7 (R a0 30) (Int32.toNatClampNeg v10)) ≤ v9 then (
      j14 v9) else (
      am_ck (am_inb v10 36) (
      j14 (J7 (R a0 30) (Int32.toNatClampNeg v10)))))))
noncomputable def lX11_degree_186 (R : am_R) (a0 : Nat) (J7 : am_I) : Nat → Int32 → Int32 → Option (Int32 × am_I)
  | 0, _, _ => none
  | n + 1, v9, v10 => sX11_degree_186 R a0 J7 (lX11_degree_186 R a0 J7 n) v9 v10
noncomputable def sX11_degree_90 (R : am_R) (a0 : Nat) (v19 : Int32) (v26 : Int32) (r30 : Int32) (j31 : am_I → Option (Int32 × am_I)) (ih36 : Int32 → am_I → Option (Int32 × am_I)) (v34 : Int32) (J35 : am_I) : Option (Int32 × am_I) :=
  if (36 : Int32) ≤ v34 then (
    j31 J35) else (
    am_ck (am_inb v26 36) (
    if (J35 (R a0 26) (Int32.toNatClampNeg v26)) = 0 then (
      j31 J35) else (
      am_ck (am_inb v34 36) (
      am_jn (fun (J42 : am_I) =>
  ih36 (v34 + (1 : Int32)) J42) (fun j41 =>
      if (J35 (R a0 26) (Int32.toNatClampNeg v34)) = 0 then (
        j41 J35) else (
        Option.bind (pX11_has (Int32.toInt64 r30) (v34 / (6 : Int32))) (fun r44 =>
        if r44 = 0 then (
          j41 J35) else (
          am_ck (am_inb v26 36) (
          am_ck (am_inb v34 36) (
          if ((J35 (R a0 30) (Int32.toNatClampNeg v26)) + (1 : Int32)) ≤ (J35 (R a0 30) (Int32.toNatClampNeg v34)) then (
            j41 J35) else (
            am_ck (am_inb v26 36) (
            am_ck (am_inb v34 36) (
            am_let (am_upI J35 (R a0 30) (Int32.toNatClampNeg v34) ((J35 (R a0 30) (Int32.toNatClampNeg v26)) + (1 : Int32))) (fun J51 =>
            j41 J51))))))))))))))
noncomputable def lX11_degree_90 (R : am_R) (a0 : Nat) (v19 : Int32) (v26 : Int32) (r30 : Int32) (j31 : am_I → Option (Int32 × am_I)) : Nat → Int32 → am_I → Option (Int32 × am_I)
  | 0, _, _ => none
  | n + 1, v34, J35 => sX11_degree_90 R a0 v19 v26 r30 j31 (lX11_degree_90 R a0 v19 v26 r30 j31 n) v34 J35
noncomputable def sX11_degree_67 (R : am_R) (a0 : Nat) (v19 : Int32) (j23 : am_I → Option (Int32 × am_I)) (ih28 : Int32 → am_I → Option (Int32 × am_I)) (v26 : Int32) (J27 : am_I) : Option (Int32 × am_I) :=
  if (36 : Int32) ≤ v26 then (
    j23 J27) else (
    Option.bind (pX11_reachedFrom R J27 a0 ((1 : Int32) <<< ((v26 - v26 / (6 : Int32) * (6 : Int32)) &&& 31))) (fun r30 =>
    am_jn (fun (J32 : am_I) =>
  ih28 (v26 + (1 : Int32)) J32) (fun j31 =>
    lX11_degree_90 R a0 v19 v26 r30 j31 am_fu (0 : Int32) J27)))
noncomputable def lX11_degree_67 (R : am_R) (a0 : Nat) (v19 : Int32) (j23 : am_I → Option (Int32 × am_I)) : Nat → Int32 → am_I → Option (Int32 × am_I)
  | 0, _, _ => none
  | n + 1, v26, J27 => sX11_degree_67 R a0 v19 j23 (lX11_degree_67 R a0 v19 j23 n) v26 J27
noncomputable def sX11_degree_58 (R : am_R) (a0 : Nat) (j6 : am_I → Option (Int32 × am_I)) (ih21 : Int32 → am_I → Option (Int32 × am_I)) (v19 : Int32) (J20 : am_I) : Option (Int32 × am_I) :=
  if (36 : Int32) ≤ v19 then (
    j6 J20) else (
    am_jn (fun (J24 : am_I) =>
  ih21 (v19 + (1 : Int32)) J24) (fun j23 =>
    lX11_degree_67 R a0 v19 j23 am_fu (0 : Int32) J20))
noncomputable def lX11_degree_58 (R : am_R) (a0 : Nat) (j6 : am_I → Option (Int32 × am_I)) : Nat → Int32 → am_I → Option (Int32 × am_I)
  | 0, _, _ => none
  | n + 1, v19, J20 => sX11_degree_58 R a0 j6 (lX11_degree_58 R a0 j6 n) v19 J20
noncomputable def sX11_degree_24 (R : am_R) (a0 : Nat) (j4 : am_I → Option (Int32 × am_I)) (ih55 : Int32 → am_I → Option (Int32 × am_I)) (v53 : Int32) (J54 : am_I) : Option (Int32 × am_I) :=
  if (36 : Int32) ≤ v53 then (
    j4 J54) else (
    am_ck (am_inb v53 36) (
    am_let (if (J54 (R a0 26) (Int32.toNatClampNeg v53)) = 0 then (0 : Int32) else (1 : Int32)) (fun v59 =>
    am_ck (am_inb v53 36) (
    am_let (am_upI J54 (R a0 30) (Int32.toNatClampNeg v53) v59) (fun J61 =>
    ih55 (v53 + (1 : Int32)) J61)))))
noncomputable def lX11_degree_24 (R : am_R) (a0 : Nat) (j4 : am_I → Option (Int32 × am_I)) : Nat → Int32 → am_I → Option (Int32 × am_I)
  | 0, _, _ => none
  | n + 1, v53, J54 => sX11_degree_24 R a0 j4 (lX11_degree_24 R a0 j4 n) v53 J54
noncomputable def pX11_degree (R : am_R) (I : am_I) (a0 : Nat) : Option (Int32 × am_I) :=
  Option.bind (pX11_kindOf R I a0) (fun r1 =>
  if r1.1 = (3 : Int32) then (
    some ((-4 : Int32), r1.2)) else (
    if (2 : Int32) ≤ r1.1 then (
      am_jn (fun (J5 : am_I) =>
  am_jn (fun (J7 : am_I) =>
  lX11_degree_186 R a0 J7 am_fu (0 : Int32) (0 : Int32)) (fun j6 =>
  lX11_degree_58 R a0 j6 am_fu (0 : Int32) J5)) (fun j4 =>
      lX11_degree_24 R a0 j4 am_fu (0 : Int32) r1.2)) else (
      some ((0 : Int32), r1.2))))
noncomputable def sX11_isNewRow_9 (R : am_R) (L : am_L) (a0 : Nat) (x1 : Int32) (v2 : Int32) (j5 : Int32 → Option (Int32)) (ih10 : Int32 → Option (Int32)) (v9 : Int32) : Option (Int32) :=
  if (6 : Int32) ≤ v9 then (
    j5 v9) else (
    am_ck (am_inb (((6 : Int32) * v2) + v9) 6000) (
    am_ck (am_inb v9 6) (
    if (lg_cmp (L (R a0 31) (Int32.toNatClampNeg (((6 : Int32) * v2) + v9))) (L (R a0 32) (Int32.toNatClampNeg v9))) = 0 then (
      ih10 (v9 + (1 : Int32))) else (
      j5 v9))))
noncomputable def lX11_isNewRow_9 (R : am_R) (L : am_L) (a0 : Nat) (x1 : Int32) (v2 : Int32) (j5 : Int32 → Option (Int32)) : Nat → Int32 → Option (Int32)
  | 0, _ => none
  | n + 1, v9 => sX11_isNewRow_9 R L a0 x1 v2 j5 (lX11_isNewRow_9 R L a0 x1 v2 j5 n) v9
noncomputable def sX11_isNewRow_2 (R : am_R) (L : am_L) (a0 : Nat) (x1 : Int32) (ih3 : Int32 → Option (Int32)) (v2 : Int32) : Option (Int32) :=
  if x1 ≤ v2 then (
    some (1 : Int32)) else (
    am_jn (fun (v6 : Int32) =>
  if v6 = (6 : Int32) then (
    some (0 : Int32)) else (
    ih3 (v2 + (1 : Int32)))) (fun j5 =>
    lX11_isNewRow_9 R L a0 x1 v2 j5 am_fu (0 : Int32)))
noncomputable def lX11_isNewRow_2 (R : am_R) (L : am_L) (a0 : Nat) (x1 : Int32) : Nat → Int32 → Option (Int32)
  | 0, _ => none
  | n + 1, v2 => sX11_isNewRow_2 R L a0 x1 (lX11_isNewRow_2 R L a0 x1 n) v2
noncomputable def pX11_isNewRow (R : am_R) (L : am_L) (a0 : Nat) (x1 : Int32) : Option (Int32) :=
  lX11_isNewRow_2 R L a0 x1 am_fu (0 : Int32)
noncomputable def sX11_addRow_2 (R : am_R) (a0 : Nat) (x1 : Int32) (ih4 : Int32 → am_L → Option (am_L)) (v2 : Int32) (J3 : am_L) : Option (am_L) :=
  if (6 : Int32) ≤ v2 then (
    some J3) else (
    am_ck (am_inb v2 6) (
    am_ck (am_inb (((6 : Int32) * x1) + v2) 6000) (
    am_let (am_upL J3 (R a0 31) (Int32.toNatClampNeg (((6 : Int32) * x1) + v2)) (J3 (R a0 32) (Int32.toNatClampNeg v2))) (fun J8 =>
    ih4 (v2 + (1 : Int32)) J8))))
noncomputable def lX11_addRow_2 (R : am_R) (a0 : Nat) (x1 : Int32) : Nat → Int32 → am_L → Option (am_L)
  | 0, _, _ => none
  | n + 1, v2, J3 => sX11_addRow_2 R a0 x1 (lX11_addRow_2 R a0 x1 n) v2 J3
noncomputable def pX11_addRow (R : am_R) (L : am_L) (a0 : Nat) (x1 : Int32) : Option (am_L) :=
  lX11_addRow_2 R a0 x1 am_fu (0 : Int32) L
noncomputable def sX11_maximumAmbiguity_172 (R : am_R) (a0 : Nat) (r3 : Int32) (v23 : Int32) (v17 : Int64) (v10 : Int32) (v24 : Int32) (v38 : Int32) (J11 : am_I) (j44 : am_L → Option (Int64 × am_I × am_L)) (ih49 : Int32 → am_L → Option (Int64 × am_I × am_L)) (v47 : Int32) (J48 : am_L) : Option (Int64 × am_I × am_L) :=
  if (J11 a0 3) ≤ v47 then (
    j44 J48) else (
    Option.bind (pX11_has (Int32.toInt64 r3) v38) (fun r51 =>
    if r51 = 0 then (
      j44 J48) else (
      am_ck (am_inb v38 6) (
      am_ck (am_inb (((6 : Int32) * v24) + v47) 18) (
      Option.bind (pX11_has (Int32.toInt64 (J11 (R a0 0) (Int32.toNatClampNeg (((6 : Int32) * v24) + v47)))) v38) (fun r55 =>
      am_jn (fun (v57 : Int64) =>
  am_ck (am_inb v38 6) (
  am_let (am_upL J48 (R a0 32) (Int32.toNatClampNeg v38) ((J48 (R a0 32) (Int32.toNatClampNeg v38)) + v57)) (fun J58 =>
  ih49 (v47 + (1 : Int32)) J58))) (fun j56 =>
      if r55 = 0 then (
        j56 (0 : Int64)) else (
        am_ck (am_inb (((6 : Int32) * v10) + v47) 6000) (
        j56 (J48 (R a0 31) (Int32.toNatClampNeg (((6 : Int32) * v10) + v47))))))))))))
noncomputable def lX11_maximumAmbiguity_172 (R : am_R) (a0 : Nat) (r3 : Int32) (v23 : Int32) (v17 : Int64) (v10 : Int32) (v24 : Int32) (v38 : Int32) (J11 : am_I) (j44 : am_L → Option (Int64 × am_I × am_L)) : Nat → Int32 → am_L → Option (Int64 × am_I × am_L)
  | 0, _, _ => none
  | n + 1, v47, J48 => sX11_maximumAmbiguity_172 R a0 r3 v23 v17 v10 v24 v38 J11 j44 (lX11_maximumAmbiguity_172 R a0 r3 v23 v17 v10 v24 v38 J11 j44 n) v47 J48
noncomputable def sX11_maximumAmbiguity_154 (R : am_R) (a0 : Nat) (r3 : Int32) (v23 : Int32) (v17 : Int64) (v10 : Int32) (v24 : Int32) (J11 : am_I) (j28 : am_L → Option (Int64 × am_I × am_L)) (ih40 : Int32 → am_L → Option (Int64 × am_I × am_L)) (v38 : Int32) (J39 : am_L) : Option (Int64 × am_I × am_L) :=
  if (6 : Int32) ≤ v38 then (
    j28 J39) else (
    am_ck (am_inb v38 6) (
    am_let (am_upL J39 (R a0 32) (Int32.toNatClampNeg v38) (0 : Int64)) (fun J43 =>
    am_jn (fun (J45 : am_L) =>
  ih40 (v38 + (1 : Int32)) J45) (fun j44 =>
    lX11_maximumAmbiguity_172 R a0 r3 v23 v17 v10 v24 v38 J11 j44 am_fu (0 : Int32) J43))))
noncomputable def lX11_maximumAmbiguity_154 (R : am_R) (a0 : Nat) (r3 : Int32) (v23 : Int32) (v17 : Int64) (v10 : Int32) (v24 : Int32) (J11 : am_I) (j28 : am_L → Option (Int64 × am_I × am_L)) : Nat → Int32 → am_L → Option (Int64 × am_I × am_L)
  | 0, _, _ => none
  | n + 1, v38, J39 => sX11_maximumAmbiguity_154 R a0 r3 v23 v17 v10 v24 J11 j28 (lX11_maximumAmbiguity_154 R a0 r3 v23 v17 v10 v24 J11 j28 n) v38 J39
noncomputable def sX11_maximumAmbiguity_145 (R : am_R) (a0 : Nat) (r3 : Int32) (v17 : Int64) (v10 : Int32) (J11 : am_I) (j19 : Int32 → am_L → Option (Int64 × am_I × am_L)) (ih26 : Int32 → Int32 → am_L → Option (Int64 × am_I × am_L)) (v23 : Int32) (v24 : Int32) (J25 : am_L) : Option (Int64 × am_I × am_L) :=
  if (3 : Int32) ≤ v24 then (
    j19 v23 J25) else (
    am_jn (fun (J29 : am_L) =>
  Option.bind (pX11_isNewRow R J29 a0 v23) (fun r30 =>
  am_jn (fun (v32 : Int32) (J33 : am_L) =>
  ih26 v32 (v24 + (1 : Int32)) J33) (fun j31 =>
  if r30 = 0 then (
    j31 v23 J29) else (
    if v23 = (1000 : Int32) then (
      some ((-5 : Int64), J11, J29)) else (
      Option.bind (pX11_addRow R J29 a0 v23) (fun r36 =>
      j31 (v23 + (1 : Int32)) r36)))))) (fun j28 =>
    lX11_maximumAmbiguity_154 R a0 r3 v23 v17 v10 v24 J11 j28 am_fu (0 : Int32) J25))
noncomputable def lX11_maximumAmbiguity_145 (R : am_R) (a0 : Nat) (r3 : Int32) (v17 : Int64) (v10 : Int32) (J11 : am_I) (j19 : Int32 → am_L → Option (Int64 × am_I × am_L)) : Nat → Int32 → Int32 → am_L → Option (Int64 × am_I × am_L)
  | 0, _, _, _ => none
  | n + 1, v23, v24, J25 => sX11_maximumAmbiguity_145 R a0 r3 v17 v10 J11 j19 (lX11_maximumAmbiguity_145 R a0 r3 v17 v10 J11 j19 n) v23 v24 J25
noncomputable def sX11_maximumAmbiguity_80 (R : am_R) (a0 : Nat) (r3 : Int32) (v8 : Int32) (v9 : Int64) (v10 : Int32) (J11 : am_I) (J12 : am_L) (j15 : Int64 → Option (Int64 × am_I × am_L)) (ih65 : Int64 → Int32 → Option (Int64 × am_I × am_L)) (v63 : Int64) (v64 : Int32) : Option (Int64 × am_I × am_L) :=
  if (6 : Int32) ≤ v64 then (
    j15 v63) else (
    Option.bind (pX11_has (Int32.toInt64 (J11 a0 5)) v64) (fun r67 =>
    am_jn (fun (v69 : Int64) =>
  am_let (v63 + v69) (fun v70 =>
  ih65 v70 (v64 + (1 : Int32)))) (fun j68 =>
    if r67 = 0 then (
      j68 (0 : Int64)) else (
      am_ck (am_inb (((6 : Int32) * v10) + v64) 6000) (
      j68 (J12 (R a0 31) (Int32.toNatClampNeg (((6 : Int32) * v10) + v64))))))))
noncomputable def lX11_maximumAmbiguity_80 (R : am_R) (a0 : Nat) (r3 : Int32) (v8 : Int32) (v9 : Int64) (v10 : Int32) (J11 : am_I) (J12 : am_L) (j15 : Int64 → Option (Int64 × am_I × am_L)) : Nat → Int64 → Int32 → Option (Int64 × am_I × am_L)
  | 0, _, _ => none
  | n + 1, v63, v64 => sX11_maximumAmbiguity_80 R a0 r3 v8 v9 v10 J11 J12 j15 (lX11_maximumAmbiguity_80 R a0 r3 v8 v9 v10 J11 J12 j15 n) v63 v64
noncomputable def sX11_maximumAmbiguity_68 (R : am_R) (a0 : Nat) (r3 : Int32) (J11 : am_I) (ih13 : Int32 → Int64 → Int32 → am_L → Option (Int64 × am_I × am_L)) (v8 : Int32) (v9 : Int64) (v10 : Int32) (J12 : am_L) : Option (Int64 × am_I × am_L) :=
  if v8 ≤ v10 then (
    some (v9, J11, J12)) else (
    am_jn (fun (v16 : Int64) =>
  am_let (if (lg_cmp v16 v9) ≤ 0 then v9 else v16) (fun v17 =>
  am_jn (fun (v20 : Int32) (J21 : am_L) =>
  ih13 v20 v17 (v10 + (1 : Int32)) J21) (fun j19 =>
  lX11_maximumAmbiguity_145 R a0 r3 v17 v10 J11 j19 am_fu v8 (0 : Int32) J12))) (fun j15 =>
    lX11_maximumAmbiguity_80 R a0 r3 v8 v9 v10 J11 J12 j15 am_fu (0 : Int64) (0 : Int32)))
noncomputable def lX11_maximumAmbiguity_68 (R : am_R) (a0 : Nat) (r3 : Int32) (J11 : am_I) : Nat → Int32 → Int64 → Int32 → am_L → Option (Int64 × am_I × am_L)
  | 0, _, _, _, _ => none
  | n + 1, v8, v9, v10, J12 => sX11_maximumAmbiguity_68 R a0 r3 J11 (lX11_maximumAmbiguity_68 R a0 r3 J11 n) v8 v9 v10 J12
noncomputable def sX11_maximumAmbiguity_19 (R : am_R) (a0 : Nat) (r3 : Int32) (J75 : am_I) (j4 : am_L → Option (Int64 × am_I × am_L)) (ih77 : Int32 → am_L → Option (Int64 × am_I × am_L)) (v74 : Int32) (J76 : am_L) : Option (Int64 × am_I × am_L) :=
  if (6 : Int32) ≤ v74 then (
    j4 J76) else (
    Option.bind (pX11_has (Int32.toInt64 (r3 &&& (J75 a0 4))) v74) (fun r80 =>
    am_let (if r80 = 0 then (0 : Int64) else (1 : Int64)) (fun v81 =>
    am_ck (am_inb v74 6) (
    am_let (am_upL J76 (R a0 32) (Int32.toNatClampNeg v74) v81) (fun J83 =>
    ih77 (v74 + (1 : Int32)) J83)))))
noncomputable def lX11_maximumAmbiguity_19 (R : am_R) (a0 : Nat) (r3 : Int32) (J75 : am_I) (j4 : am_L → Option (Int64 × am_I × am_L)) : Nat → Int32 → am_L → Option (Int64 × am_I × am_L)
  | 0, _, _ => none
  | n + 1, v74, J76 => sX11_maximumAmbiguity_19 R a0 r3 J75 j4 (lX11_maximumAmbiguity_19 R a0 r3 J75 j4 n) v74 J76
noncomputable def pX11_maximumAmbiguity (R : am_R) (I : am_I) (L : am_L) (a0 : Nat) : Option (Int64 × am_I × am_L) :=
  Option.bind (pX11_kindOf R I a0) (fun r1 =>
  if r1.1 ≤ (1 : Int32) then (
    Option.bind (pX11_useful R r1.2 a0) (fun r3 =>
    am_jn (fun (J5 : am_L) =>
  Option.bind (pX11_addRow R J5 a0 (0 : Int32)) (fun r6 =>
  lX11_maximumAmbiguity_68 R a0 r3 r1.2 am_fu (1 : Int32) (0 : Int64) (0 : Int32) r6)) (fun j4 =>
    lX11_maximumAmbiguity_19 R a0 r3 r1.2 j4 am_fu (0 : Int32) L))) else (
    some ((-4 : Int64), r1.2, L)))
noncomputable def pX11_isLoopState (R : am_R) (I : am_I) (a0 : Nat) (x1 : Int32) : Option (Int32 × am_I) :=
  Option.bind (pX11_isState I a0 x1) (fun r1 =>
  if r1 = 0 then (
    some ((-1 : Int32), I)) else (
    Option.bind (pX11_finds R I a0) (fun r3 =>
    some ((((r3 a0 27) >>> (x1 &&& 31)) &&& (1 : Int32)), r3))))
noncomputable def pX11_isSplitPair (R : am_R) (I : am_I) (a0 : Nat) (x1 : Int32) (x2 : Int32) : Option (Int32 × am_I) :=
  Option.bind (pX11_isState I a0 x1) (fun r1 =>
  if r1 = 0 then (
    some ((-1 : Int32), I)) else (
    Option.bind (pX11_isState I a0 x2) (fun r3 =>
    if r3 = 0 then (
      some ((-1 : Int32), I)) else (
      Option.bind (pX11_finds R I a0) (fun r5 =>
      am_ck (am_inb (((6 : Int32) * x1) + x2) 36) (
      if (r5 (R a0 26) (Int32.toNatClampNeg (((6 : Int32) * x1) + x2))) = 0 then (
        some ((0 : Int32), r5)) else (
        some ((1 : Int32), r5))))))))
noncomputable def sX11_lowest_2 (x0 : Int32) (ih2 : Int32 → Option (Int32)) (v1 : Int32) : Option (Int32) :=
  Option.bind (pX11_has (Int32.toInt64 x0) v1) (fun r3 =>
  if r3 = 0 then (
    ih2 (v1 + (1 : Int32))) else (
    some v1))
noncomputable def lX11_lowest_2 (x0 : Int32) : Nat → Int32 → Option (Int32)
  | 0, _ => none
  | n + 1, v1 => sX11_lowest_2 x0 (lX11_lowest_2 x0 n) v1
noncomputable def pX11_lowest (x0 : Int32) : Option (Int32) :=
  lX11_lowest_2 x0 am_fu (0 : Int32)
noncomputable def sX11_firstSplit_2 (R : am_R) (I : am_I) (a0 : Nat) (ih3 : Int32 → Option (Int32)) (v2 : Int32) : Option (Int32) :=
  am_ck (am_inb v2 36) (
  if (I (R a0 26) (Int32.toNatClampNeg v2)) = 0 then (
    ih3 (v2 + (1 : Int32))) else (
    some v2))
noncomputable def lX11_firstSplit_2 (R : am_R) (I : am_I) (a0 : Nat) : Nat → Int32 → Option (Int32)
  | 0, _ => none
  | n + 1, v2 => sX11_firstSplit_2 R I a0 (lX11_firstSplit_2 R I a0 n) v2
noncomputable def pX11_firstSplit (R : am_R) (I : am_I) (a0 : Nat) : Option (Int32) :=
  lX11_firstSplit_2 R I a0 am_fu (0 : Int32)
noncomputable def pX11_witnessState (R : am_R) (I : am_I) (a0 : Nat) (x1 : Int32) : Option (Int32 × am_I) :=
  Option.bind (pX11_isBetween (Int32.toInt64 x1) (1 : Int64) (2 : Int64)) (fun r1 =>
  if r1 = 0 then (
    some ((-1 : Int32), I)) else (
    Option.bind (pX11_finds R I a0) (fun r3 =>
    if x1 = (1 : Int32) then (
      if (r3 a0 27) = 0 then (
        some ((-4 : Int32), r3)) else (
        Option.bind (pX11_lowest (r3 a0 27)) (fun r9 =>
        some (r9, r3)))) else (
      if (r3 a0 28) = 0 then (
        some ((-4 : Int32), r3)) else (
        Option.bind (pX11_firstSplit R r3 a0) (fun r6 =>
        Option.bind (pX11_firstSplit R r3 a0) (fun r7 =>
        some ((((r6 / (6 : Int32)) * (8 : Int32)) + (r7 - r7 / (6 : Int32) * (6 : Int32))), r3))))))))
noncomputable def sX11_findLightest_166 (R : am_R) (a0 : Nat) (J4 : am_I) (ih8 : Int32 → Int32 → Option (Int32 × am_I)) (v6 : Int32) (v7 : Int32) : Option (Int32 × am_I) :=
  if (J4 a0 3) ≤ v7 then (
    some (v6, J4)) else (
    Option.bind (pX11_has (Int32.toInt64 (J4 a0 4)) v7) (fun r10 =>
    am_jn (fun (v12 : Int32) =>
  ih8 v12 (v7 + (1 : Int32))) (fun j11 =>
    am_jn (
  j11 v6) (fun j13 =>
    if r10 = 0 then (
      j13) else (
      am_ck (am_inb v7 6) (
      if v6 ≤ (J4 (R a0 33) (Int32.toNatClampNeg v7)) then (
        j13) else (
        am_ck (am_inb v7 6) (
        j11 (J4 (R a0 33) (Int32.toNatClampNeg v7))))))))))
noncomputable def lX11_findLightest_166 (R : am_R) (a0 : Nat) (J4 : am_I) : Nat → Int32 → Int32 → Option (Int32 × am_I)
  | 0, _, _ => none
  | n + 1, v6, v7 => sX11_findLightest_166 R a0 J4 (lX11_findLightest_166 R a0 J4 n) v6 v7
noncomputable def sX11_findLightest_67 (R : am_R) (a0 : Nat) (v19 : Int32) (v26 : Int32) (v33 : Int32) (j37 : am_I → Option (Int32 × am_I)) (ih42 : Int32 → am_I → Option (Int32 × am_I)) (v40 : Int32) (J41 : am_I) : Option (Int32 × am_I) :=
  if (J41 a0 3) ≤ v40 then (
    j37 J41) else (
    am_ck (am_inb v40 6) (
    am_ck (am_inb v33 3) (
    am_let (((J41 (R a0 33) (Int32.toNatClampNeg v40)) + ((16 : Int32) * (J41 (R a0 2) (Int32.toNatClampNeg v33)))) + (1 : Int32)) (fun v46 =>
    am_ck (am_inb (((6 : Int32) * v33) + v26) 18) (
    Option.bind (pX11_has (Int32.toInt64 (J41 (R a0 0) (Int32.toNatClampNeg (((6 : Int32) * v33) + v26)))) v40) (fun r48 =>
    am_jn (fun (J50 : am_I) =>
  ih42 (v40 + (1 : Int32)) J50) (fun j49 =>
    if r48 = 0 then (
      j49 J41) else (
      am_ck (am_inb v26 6) (
      if (J41 (R a0 33) (Int32.toNatClampNeg v26)) ≤ v46 then (
        j49 J41) else (
        am_ck (am_inb v26 6) (
        am_let (am_upI J41 (R a0 33) (Int32.toNatClampNeg v26) v46) (fun J55 =>
        j49 J55))))))))))))
noncomputable def lX11_findLightest_67 (R : am_R) (a0 : Nat) (v19 : Int32) (v26 : Int32) (v33 : Int32) (j37 : am_I → Option (Int32 × am_I)) : Nat → Int32 → am_I → Option (Int32 × am_I)
  | 0, _, _ => none
  | n + 1, v40, J41 => sX11_findLightest_67 R a0 v19 v26 v33 j37 (lX11_findLightest_67 R a0 v19 v26 v33 j37 n) v40 J41
noncomputable def sX11_findLightest_59 (R : am_R) (a0 : Nat) (v19 : Int32) (v26 : Int32) (j30 : am_I → Option (Int32 × am_I)) (ih35 : Int32 → am_I → Option (Int32 × am_I)) (v33 : Int32) (J34 : am_I) : Option (Int32 × am_I) :=
  if (3 : Int32) ≤ v33 then (
    j30 J34) else (
    am_jn (fun (J38 : am_I) =>
  ih35 (v33 + (1 : Int32)) J38) (fun j37 =>
    lX11_findLightest_67 R a0 v19 v26 v33 j37 am_fu (0 : Int32) J34))
noncomputable def lX11_findLightest_59 (R : am_R) (a0 : Nat) (v19 : Int32) (v26 : Int32) (j30 : am_I → Option (Int32 × am_I)) : Nat → Int32 → am_I → Option (Int32 × am_I)
  | 0, _, _ => none
  | n + 1, v33, J34 => sX11_findLightest_59 R a0 v19 v26 j30 (lX11_findLightest_59 R a0 v19 v26 j30 n) v33 J34
noncomputable def sX11_findLightest_49 (R : am_R) (a0 : Nat) (v19 : Int32) (j23 : am_I → Option (Int32 × am_I)) (ih28 : Int32 → am_I → Option (Int32 × am_I)) (v26 : Int32) (J27 : am_I) : Option (Int32 × am_I) :=
  if (J27 a0 3) ≤ v26 then (
    j23 J27) else (
    am_jn (fun (J31 : am_I) =>
  ih28 (v26 + (1 : Int32)) J31) (fun j30 =>
    lX11_findLightest_59 R a0 v19 v26 j30 am_fu (0 : Int32) J27))
noncomputable def lX11_findLightest_49 (R : am_R) (a0 : Nat) (v19 : Int32) (j23 : am_I → Option (Int32 × am_I)) : Nat → Int32 → am_I → Option (Int32 × am_I)
  | 0, _, _ => none
  | n + 1, v26, J27 => sX11_findLightest_49 R a0 v19 j23 (lX11_findLightest_49 R a0 v19 j23 n) v26 J27
noncomputable def sX11_findLightest_41 (R : am_R) (a0 : Nat) (j3 : am_I → Option (Int32 × am_I)) (ih21 : Int32 → am_I → Option (Int32 × am_I)) (v19 : Int32) (J20 : am_I) : Option (Int32 × am_I) :=
  if (12 : Int32) ≤ v19 then (
    j3 J20) else (
    am_jn (fun (J24 : am_I) =>
  ih21 (v19 + (1 : Int32)) J24) (fun j23 =>
    lX11_findLightest_49 R a0 v19 j23 am_fu (0 : Int32) J20))
noncomputable def lX11_findLightest_41 (R : am_R) (a0 : Nat) (j3 : am_I → Option (Int32 × am_I)) : Nat → Int32 → am_I → Option (Int32 × am_I)
  | 0, _, _ => none
  | n + 1, v19, J20 => sX11_findLightest_41 R a0 j3 (lX11_findLightest_41 R a0 j3 n) v19 J20
noncomputable def sX11_findLightest_2 (R : am_R) (a0 : Nat) (j1 : am_I → Option (Int32 × am_I)) (ih59 : Int32 → am_I → Option (Int32 × am_I)) (v57 : Int32) (J58 : am_I) : Option (Int32 × am_I) :=
  if (6 : Int32) ≤ v57 then (
    j1 J58) else (
    Option.bind (pX11_has (Int32.toInt64 (J58 a0 5)) v57) (fun r62 =>
    am_let (if r62 = 0 then (1000000 : Int32) else (0 : Int32)) (fun v63 =>
    am_ck (am_inb v57 6) (
    am_let (am_upI J58 (R a0 33) (Int32.toNatClampNeg v57) v63) (fun J65 =>
    ih59 (v57 + (1 : Int32)) J65)))))
noncomputable def lX11_findLightest_2 (R : am_R) (a0 : Nat) (j1 : am_I → Option (Int32 × am_I)) : Nat → Int32 → am_I → Option (Int32 × am_I)
  | 0, _, _ => none
  | n + 1, v57, J58 => sX11_findLightest_2 R a0 j1 (lX11_findLightest_2 R a0 j1 n) v57 J58
noncomputable def pX11_findLightest (R : am_R) (I : am_I) (a0 : Nat) : Option (Int32 × am_I) :=
  am_jn (fun (J2 : am_I) =>
  am_jn (fun (J4 : am_I) =>
  lX11_findLightest_166 R a0 J4 am_fu (1000000 : Int32) (0 : Int32)) (fun j3 =>
  lX11_findLightest_41 R a0 j3 am_fu (0 : Int32) J2)) (fun j1 =>
  lX11_findLightest_2 R a0 j1 am_fu (0 : Int32) I)
noncomputable def sX11_goesLight_14 (R : am_R) (I : am_I) (a0 : Nat) (x2 : Int32) (x3 : Int32) (r1 : Int32) (ih5 : Int32 → Int32 → Option (Int32)) (v3 : Int32) (v4 : Int32) : Option (Int32) :=
  if (I a0 3) ≤ v4 then (
    some v3) else (
    Option.bind (pX11_has (Int32.toInt64 r1) v4) (fun r7 =>
    am_jn (fun (v9 : Int32) =>
  am_let (v3 ||| v9) (fun v10 =>
  ih5 v10 (v4 + (1 : Int32)))) (fun j8 =>
    am_jn (
  j8 (0 : Int32)) (fun j11 =>
    if r7 = 0 then (
      j11) else (
      am_ck (am_inb v4 6) (
      am_ck (am_inb x2 3) (
      if (I (R a0 33) (Int32.toNatClampNeg v4)) = ((x3 - ((16 : Int32) * (I (R a0 2) (Int32.toNatClampNeg x2)))) - (1 : Int32)) then (
        j8 ((1 : Int32) <<< (v4 &&& 31))) else (
        j11))))))))
noncomputable def lX11_goesLight_14 (R : am_R) (I : am_I) (a0 : Nat) (x2 : Int32) (x3 : Int32) (r1 : Int32) : Nat → Int32 → Int32 → Option (Int32)
  | 0, _, _ => none
  | n + 1, v3, v4 => sX11_goesLight_14 R I a0 x2 x3 r1 (lX11_goesLight_14 R I a0 x2 x3 r1 n) v3 v4
noncomputable def pX11_goesLight (R : am_R) (I : am_I) (a0 : Nat) (x1 : Int32) (x2 : Int32) (x3 : Int32) : Option (Int32) :=
  Option.bind (pX11_step R I a0 x1 x2) (fun r1 =>
  lX11_goesLight_14 R I a0 x2 x3 r1 am_fu (0 : Int32) (0 : Int32))
noncomputable def sX11_spellLightest_96 (R : am_R) (a0 : Nat) (v7 : Int32) (v8 : Int32) (v9 : Int32) (J10 : am_I) (j14 : Int32 → Int32 → Option (Int32 × am_I)) (ih24 : Int32 → Int32 → Option (Int32 × am_I)) (v22 : Int32) (v23 : Int32) : Option (Int32 × am_I) :=
  if v23 = 0 then (
    Option.bind (pX11_goesLight R J10 a0 v8 (v22 + (1 : Int32)) v7) (fun r26 =>
    ih24 (v22 + (1 : Int32)) r26)) else (
    j14 v22 v23)
noncomputable def lX11_spellLightest_96 (R : am_R) (a0 : Nat) (v7 : Int32) (v8 : Int32) (v9 : Int32) (J10 : am_I) (j14 : Int32 → Int32 → Option (Int32 × am_I)) : Nat → Int32 → Int32 → Option (Int32 × am_I)
  | 0, _, _ => none
  | n + 1, v22, v23 => sX11_spellLightest_96 R a0 v7 v8 v9 J10 j14 (lX11_spellLightest_96 R a0 v7 v8 v9 J10 j14 n) v22 v23
noncomputable def sX11_spellLightest_75 (R : am_R) (a0 : Nat) (ih11 : Int32 → Int32 → Int32 → am_I → Option (Int32 × am_I)) (v7 : Int32) (v8 : Int32) (v9 : Int32) (J10 : am_I) : Option (Int32 × am_I) :=
  if (J10 a0 25) ≤ v9 then (
    some ((J10 a0 25), J10)) else (
    Option.bind (pX11_goesLight R J10 a0 v8 (0 : Int32) v7) (fun r13 =>
    am_jn (fun (v15 : Int32) (v16 : Int32) =>
  am_ck (am_inb v9 216) (
  am_let (am_upI J10 (R a0 22) (Int32.toNatClampNeg v9) v15) (fun J18 =>
  am_ck (am_inb v15 3) (
  am_let (v7 - (((16 : Int32) * (J18 (R a0 2) (Int32.toNatClampNeg v15))) + (1 : Int32))) (fun v20 =>
  ih11 v20 v16 (v9 + (1 : Int32)) J18))))) (fun j14 =>
    lX11_spellLightest_96 R a0 v7 v8 v9 J10 j14 am_fu (0 : Int32) r13)))
noncomputable def lX11_spellLightest_75 (R : am_R) (a0 : Nat) : Nat → Int32 → Int32 → Int32 → am_I → Option (Int32 × am_I)
  | 0, _, _, _, _ => none
  | n + 1, v7, v8, v9, J10 => sX11_spellLightest_75 R a0 (lX11_spellLightest_75 R a0 n) v7 v8 v9 J10
noncomputable def sX11_spellLightest_19 (R : am_R) (a0 : Nat) (c28 : Int32) (J31 : am_I) (j3 : Int32 → Option (Int32 × am_I)) (ih32 : Int32 → Int32 → Option (Int32 × am_I)) (v29 : Int32) (v30 : Int32) : Option (Int32 × am_I) :=
  if (J31 a0 3) ≤ v30 then (
    j3 v29) else (
    Option.bind (pX11_has (Int32.toInt64 (J31 a0 4)) v30) (fun r34 =>
    am_jn (fun (v36 : Int32) =>
  am_let (v29 ||| v36) (fun v37 =>
  ih32 v37 (v30 + (1 : Int32)))) (fun j35 =>
    am_jn (
  j35 (0 : Int32)) (fun j38 =>
    if r34 = 0 then (
      j38) else (
      am_ck (am_inb v30 6) (
      if (J31 (R a0 33) (Int32.toNatClampNeg v30)) = c28 then (
        j35 ((1 : Int32) <<< (v30 &&& 31))) else (
        j38)))))))
noncomputable def lX11_spellLightest_19 (R : am_R) (a0 : Nat) (c28 : Int32) (J31 : am_I) (j3 : Int32 → Option (Int32 × am_I)) : Nat → Int32 → Int32 → Option (Int32 × am_I)
  | 0, _, _ => none
  | n + 1, v29, v30 => sX11_spellLightest_19 R a0 c28 J31 j3 (lX11_spellLightest_19 R a0 c28 J31 j3 n) v29 v30
noncomputable def pX11_spellLightest (R : am_R) (I : am_I) (a0 : Nat) : Option (Int32 × am_I) :=
  Option.bind (pX11_findLightest R I a0) (fun r1 =>
  if r1.1 = (1000000 : Int32) then (
    some ((-4 : Int32), r1.2)) else (
    am_jn (fun (v4 : Int32) =>
  am_let (am_upI r1.2 a0 25 (r1.1 - r1.1 / (16 : Int32) * (16 : Int32))) (fun J5 =>
  lX11_spellLightest_75 R a0 am_fu r1.1 v4 (0 : Int32) J5)) (fun j3 =>
    lX11_spellLightest_19 R a0 r1.1 r1.2 j3 am_fu (0 : Int32) (0 : Int32))))
noncomputable def pX11_spell (R : am_R) (I : am_I) (a0 : Nat) (x1 : Int32) : Option (Int32 × am_I) :=
  Option.bind (pX11_finds R I a0) (fun r1 =>
  if x1 = 0 then (
    Option.bind (pX11_spellAmbiguous R r1 a0) (fun r26 =>
    some (r26.1, r26.2))) else (
    if x1 = (3 : Int32) then (
      Option.bind (pX11_spellLightest R r1 a0) (fun r25 =>
      some (r25.1, r25.2))) else (
      am_jn (
  Option.bind (pX11_nobodyIsHere R r1 a0) (fun r5 =>
  if x1 = (1 : Int32) then (
    Option.bind (pX11_lowest (r5 a0 27)) (fun r16 =>
    Option.bind (pX11_loopOf R r5 a0 r16) (fun r17 =>
    Option.bind (pX11_pairNode r16 r16 (0 : Int32)) (fun r19 =>
    am_ck (am_inb r19 216) (
    am_let (am_upI r17.2 (R a0 23) (Int32.toNatClampNeg r19) (1 : Int32)) (fun J20 =>
    Option.bind (pX11_spells R J20 a0 r17.1 (0 : Int32)) (fun r21 =>
    some (r17.1, r21)))))))) else (
    Option.bind (pX11_firstSplit R r5 a0) (fun r7 =>
    am_let (r7 / (6 : Int32)) (fun v8 =>
    Option.bind (pX11_firstSplit R r5 a0) (fun r9 =>
    am_let (r9 - r9 / (6 : Int32) * (6 : Int32)) (fun v10 =>
    Option.bind (pX11_splitOf R r5 a0 v8 v10) (fun r11 =>
    Option.bind (pX11_triple v8 v8 v10) (fun r13 =>
    am_ck (am_inb r13 216) (
    am_let (am_upI r11.2 (R a0 23) (Int32.toNatClampNeg r13) (1 : Int32)) (fun J14 =>
    Option.bind (pX11_spells R J14 a0 r11.1 (1 : Int32)) (fun r15 =>
    some (r11.1, r15))))))))))))) (fun j4 =>
      if x1 = (1 : Int32) then (
        if (r1 a0 27) = 0 then (
          some ((-4 : Int32), r1)) else (
          j4)) else (
        if (r1 a0 28) = 0 then (
          some ((-4 : Int32), r1)) else (
          j4))))))
noncomputable def pX11_witnessLength (R : am_R) (I : am_I) (a0 : Nat) (x1 : Int32) : Option (Int32 × am_I) :=
  Option.bind (pX11_isBetween (Int32.toInt64 x1) (0 : Int64) (3 : Int64)) (fun r1 =>
  if r1 = 0 then (
    some ((-1 : Int32), I)) else (
    Option.bind (pX11_spell R I a0 x1) (fun r3 =>
    some (r3.1, r3.2))))
noncomputable def pX11_witnessLetter (R : am_R) (I : am_I) (a0 : Nat) (x1 : Int32) (x2 : Int32) : Option (Int32 × am_I) :=
  Option.bind (pX11_isBetween (Int32.toInt64 x1) (0 : Int64) (3 : Int64)) (fun r1 =>
  if r1 = 0 then (
    some ((-1 : Int32), I)) else (
    Option.bind (pX11_spell R I a0 x1) (fun r3 =>
    Option.bind (pX11_isBetween (Int32.toInt64 x2) (0 : Int64) (Int32.toInt64 (r3.1 - (1 : Int32)))) (fun r4 =>
    if r4 = 0 then (
      some ((-4 : Int32), r3.2)) else (
      am_ck (am_inb x2 216) (
      some ((r3.2 (R a0 22) (Int32.toNatClampNeg x2)), r3.2)))))))
noncomputable def sX11_takeWitness_43 (R : am_R) (a0 : Nat) (c8 : Int32) (ih11 : Int32 → am_I → Option (Int32 × am_I)) (v9 : Int32) (J10 : am_I) : Option (Int32 × am_I) :=
  if c8 ≤ v9 then (
    some (c8, J10)) else (
    am_ck (am_inb v9 216) (
    am_ck (am_inb v9 20) (
    am_let (am_upI J10 (R a0 15) (Int32.toNatClampNeg v9) (J10 (R a0 22) (Int32.toNatClampNeg v9))) (fun J15 =>
    ih11 (v9 + (1 : Int32)) J15))))
noncomputable def lX11_takeWitness_43 (R : am_R) (a0 : Nat) (c8 : Int32) : Nat → Int32 → am_I → Option (Int32 × am_I)
  | 0, _, _ => none
  | n + 1, v9, J10 => sX11_takeWitness_43 R a0 c8 (lX11_takeWitness_43 R a0 c8 n) v9 J10
noncomputable def pX11_takeWitness (R : am_R) (I : am_I) (a0 : Nat) (x1 : Int32) : Option (Int32 × am_I) :=
  Option.bind (pX11_isBetween (Int32.toInt64 x1) (0 : Int64) (3 : Int64)) (fun r1 =>
  if r1 = 0 then (
    some ((-1 : Int32), I)) else (
    Option.bind (pX11_spell R I a0 x1) (fun r3 =>
    if 0 ≤ r3.1 then (
      if r3.1 ≤ (20 : Int32) then (
        am_let (am_upI r3.2 a0 16 r3.1) (fun J6 =>
        lX11_takeWitness_43 R a0 r3.1 am_fu (0 : Int32) J6)) else (
        some ((-3 : Int32), r3.2))) else (
      some ((-4 : Int32), r3.2)))))
noncomputable def pX11_setWeight (R : am_R) (I : am_I) (a0 : Nat) (x1 : Int32) (x2 : Int32) : Option (Int32 × am_I) :=
  Option.bind (pX11_isLetter x1) (fun r1 =>
  if r1 = 0 then (
    some ((-1 : Int32), I)) else (
    Option.bind (pX11_isBetween (Int32.toInt64 x2) (0 : Int64) (100 : Int64)) (fun r3 =>
    if r3 = 0 then (
      some ((-2 : Int32), I)) else (
      am_ck (am_inb x1 3) (
      am_let (I (R a0 2) (Int32.toNatClampNeg x1)) (fun v6 =>
      am_ck (am_inb x1 3) (
      am_let (am_upI I (R a0 2) (Int32.toNatClampNeg x1) x2) (fun J8 =>
      some (v6, J8)))))))))
noncomputable def pX11_lightestWeight (R : am_R) (I : am_I) (a0 : Nat) : Option (Int32 × am_I) :=
  Option.bind (pX11_findLightest R I a0) (fun r1 =>
  if r1.1 = (1000000 : Int32) then (
    some ((-4 : Int32), r1.2)) else (
    some ((r1.1 / (16 : Int32)), r1.2)))
noncomputable def sX11_numberOfState_2 (R : am_R) (I : am_I) (a0 : Nat) (x1 : Int32) (x2 : Int32) (j1 : Option (Int32 × am_I)) (ih10 : Int32 → Option (Int32 × am_I)) (v9 : Int32) : Option (Int32 × am_I) :=
  if (I a0 41) ≤ v9 then (
    j1) else (
    am_ck (am_inb v9 64) (
    am_jn (
  ih10 (v9 + (1 : Int32))) (fun j13 =>
    if (I (R a0 36) (Int32.toNatClampNeg v9)) = x1 then (
      am_ck (am_inb v9 64) (
      if (I (R a0 37) (Int32.toNatClampNeg v9)) = x2 then (
        some (v9, I)) else (
        j13))) else (
      j13))))
noncomputable def lX11_numberOfState_2 (R : am_R) (I : am_I) (a0 : Nat) (x1 : Int32) (x2 : Int32) (j1 : Option (Int32 × am_I)) : Nat → Int32 → Option (Int32 × am_I)
  | 0, _ => none
  | n + 1, v9 => sX11_numberOfState_2 R I a0 x1 x2 j1 (lX11_numberOfState_2 R I a0 x1 x2 j1 n) v9
noncomputable def pX11_numberOfState (R : am_R) (I : am_I) (a0 : Nat) (x1 : Int32) (x2 : Int32) : Option (Int32 × am_I) :=
  am_jn (
  if (I a0 41) = (64 : Int32) then (
    some ((-1 : Int32), I)) else (
    am_ck (am_inb (I a0 41) 64) (
    am_let (am_upI I (R a0 36) (Int32.toNatClampNeg (I a0 41)) x1) (fun J4 =>
    am_ck (am_inb (J4 a0 41) 64) (
    am_let (am_upI J4 (R a0 37) (Int32.toNatClampNeg (J4 a0 41)) x2) (fun J6 =>
    am_let (am_upI J6 a0 41 ((J6 a0 41) + (1 : Int32))) (fun J7 =>
    some (((J7 a0 41) - (1 : Int32)), J7)))))))) (fun j1 =>
  lX11_numberOfState_2 R I a0 x1 x2 j1 am_fu (0 : Int32))
noncomputable def sX11_buildsSets_29 (R : am_R) (a0 : Nat) (v4 : Int32) (j9 : am_I → am_L → Option (Int32 × am_I × am_L)) (ih16 : Int32 → am_I → am_L → Option (Int32 × am_I × am_L)) (v13 : Int32) (J14 : am_I) (J15 : am_L) : Option (Int32 × am_I × am_L) :=
  if (3 : Int32) ≤ v13 then (
    j9 J14 J15) else (
    am_ck (am_inb v4 64) (
    Option.bind (pX11_step R J14 a0 (J14 (R a0 37) (Int32.toNatClampNeg v4)) v13) (fun r19 =>
    am_jn (fun (v22 : Int64) (J23 : am_I) =>
  am_ck (am_inb (((3 : Int32) * v4) + v13) 192) (
  am_let (am_upL J15 (R a0 39) (Int32.toNatClampNeg (((3 : Int32) * v4) + v13)) v22) (fun J24 =>
  ih16 (v13 + (1 : Int32)) J23 J24))) (fun j21 =>
    if r19 = 0 then (
      j21 (0 : Int64) J14) else (
      Option.bind (pX11_numberOfState R J14 a0 (0 : Int32) r19) (fun r26 =>
      j21 ((1 : Int64) <<< (Int32.toInt64 r26.1 &&& 63)) r26.2))))))
noncomputable def lX11_buildsSets_29 (R : am_R) (a0 : Nat) (v4 : Int32) (j9 : am_I → am_L → Option (Int32 × am_I × am_L)) : Nat → Int32 → am_I → am_L → Option (Int32 × am_I × am_L)
  | 0, _, _, _ => none
  | n + 1, v13, J14, J15 => sX11_buildsSets_29 R a0 v4 j9 (lX11_buildsSets_29 R a0 v4 j9 n) v13 J14 J15
noncomputable def sX11_buildsSets_19 (R : am_R) (a0 : Nat) (ih7 : Int32 → am_I → am_L → Option (Int32 × am_I × am_L)) (v4 : Int32) (J5 : am_I) (J6 : am_L) : Option (Int32 × am_I × am_L) :=
  if (J5 a0 41) ≤ v4 then (
    some ((1 : Int32), J5, J6)) else (
    am_jn (fun (J10 : am_I) (J11 : am_L) =>
  ih7 (v4 + (1 : Int32)) J10 J11) (fun j9 =>
    lX11_buildsSets_29 R a0 v4 j9 am_fu (0 : Int32) J5 J6))
noncomputable def lX11_buildsSets_19 (R : am_R) (a0 : Nat) : Nat → Int32 → am_I → am_L → Option (Int32 × am_I × am_L)
  | 0, _, _, _ => none
  | n + 1, v4, J5, J6 => sX11_buildsSets_19 R a0 (lX11_buildsSets_19 R a0 n) v4 J5 J6
noncomputable def pX11_buildsSets (R : am_R) (I : am_I) (L : am_L) (a0 : Nat) : Option (Int32 × am_I × am_L) :=
  am_jn (fun (J2 : am_I) =>
  lX11_buildsSets_19 R a0 am_fu (0 : Int32) J2 L) (fun j1 =>
  if (I a0 4) = 0 then (
    j1 I) else (
    Option.bind (pX11_numberOfState R I a0 (0 : Int32) (I a0 4)) (fun r28 =>
    j1 r28.2)))
noncomputable def sX11_buildsPairs_84 (R : am_R) (a0 : Nat) (v4 : Int32) (v13 : Int32) (v20 : Int32) (J15 : am_L) (j21 : Int64 → am_I → Option (Int32 × am_I × am_L)) (ih30 : Int64 → Int32 → am_I → Option (Int32 × am_I × am_L)) (v27 : Int64) (v28 : Int32) (J29 : am_I) : Option (Int32 × am_I × am_L) :=
  if (J29 a0 3) ≤ v28 then (
    j21 v27 J29) else (
    Option.bind (pX11_has (Int32.toInt64 v20) v28) (fun r32 =>
    am_jn (fun (v34 : Int64) (J35 : am_I) =>
  ih30 v34 (v28 + (1 : Int32)) J35) (fun j33 =>
    if r32 = 0 then (
      j33 v27 J29) else (
      am_ck (am_inb v4 64) (
      Option.bind (pX11_step R J29 a0 (J29 (R a0 37) (Int32.toNatClampNeg v4)) v13) (fun r38 =>
      Option.bind (pX11_numberOfState R J29 a0 v28 (r38 ||| (v20 &&& (((1 : Int32) <<< (v28 &&& 31)) - (1 : Int32))))) (fun r39 =>
      if 0 ≤ r39.1 then (
        am_let (v27 ||| ((1 : Int64) <<< (Int32.toInt64 r39.1 &&& 63))) (fun v41 =>
        j33 v41 r39.2)) else (
        some ((0 : Int32), r39.2, J15)))))))))
noncomputable def lX11_buildsPairs_84 (R : am_R) (a0 : Nat) (v4 : Int32) (v13 : Int32) (v20 : Int32) (J15 : am_L) (j21 : Int64 → am_I → Option (Int32 × am_I × am_L)) : Nat → Int64 → Int32 → am_I → Option (Int32 × am_I × am_L)
  | 0, _, _, _ => none
  | n + 1, v27, v28, J29 => sX11_buildsPairs_84 R a0 v4 v13 v20 J15 j21 (lX11_buildsPairs_84 R a0 v4 v13 v20 J15 j21 n) v27 v28 J29
noncomputable def sX11_buildsPairs_56 (R : am_R) (a0 : Nat) (v4 : Int32) (j9 : am_I → am_L → Option (Int32 × am_I × am_L)) (ih16 : Int32 → am_I → am_L → Option (Int32 × am_I × am_L)) (v13 : Int32) (J14 : am_I) (J15 : am_L) : Option (Int32 × am_I × am_L) :=
  if (3 : Int32) ≤ v13 then (
    j9 J14 J15) else (
    am_ck (am_inb v4 64) (
    am_ck (am_inb (((6 : Int32) * v13) + (J14 (R a0 36) (Int32.toNatClampNeg v4))) 18) (
    am_let (J14 (R a0 0) (Int32.toNatClampNeg (((6 : Int32) * v13) + (J14 (R a0 36) (Int32.toNatClampNeg v4))))) (fun v20 =>
    am_jn (fun (v22 : Int64) (J23 : am_I) =>
  am_ck (am_inb (((3 : Int32) * v4) + v13) 192) (
  am_let (am_upL J15 (R a0 39) (Int32.toNatClampNeg (((3 : Int32) * v4) + v13)) v22) (fun J25 =>
  ih16 (v13 + (1 : Int32)) J23 J25))) (fun j21 =>
    lX11_buildsPairs_84 R a0 v4 v13 v20 J15 j21 am_fu (0 : Int64) (0 : Int32) J14)))))
noncomputable def lX11_buildsPairs_56 (R : am_R) (a0 : Nat) (v4 : Int32) (j9 : am_I → am_L → Option (Int32 × am_I × am_L)) : Nat → Int32 → am_I → am_L → Option (Int32 × am_I × am_L)
  | 0, _, _, _ => none
  | n + 1, v13, J14, J15 => sX11_buildsPairs_56 R a0 v4 j9 (lX11_buildsPairs_56 R a0 v4 j9 n) v13 J14 J15
noncomputable def sX11_buildsPairs_46 (R : am_R) (a0 : Nat) (ih7 : Int32 → am_I → am_L → Option (Int32 × am_I × am_L)) (v4 : Int32) (J5 : am_I) (J6 : am_L) : Option (Int32 × am_I × am_L) :=
  if (J5 a0 41) ≤ v4 then (
    some ((1 : Int32), J5, J6)) else (
    am_jn (fun (J10 : am_I) (J11 : am_L) =>
  ih7 (v4 + (1 : Int32)) J10 J11) (fun j9 =>
    lX11_buildsPairs_56 R a0 v4 j9 am_fu (0 : Int32) J5 J6))
noncomputable def lX11_buildsPairs_46 (R : am_R) (a0 : Nat) : Nat → Int32 → am_I → am_L → Option (Int32 × am_I × am_L)
  | 0, _, _, _ => none
  | n + 1, v4, J5, J6 => sX11_buildsPairs_46 R a0 (lX11_buildsPairs_46 R a0 n) v4 J5 J6
noncomputable def sX11_buildsPairs_2 (R : am_R) (L : am_L) (a0 : Nat) (j1 : am_I → Option (Int32 × am_I × am_L)) (ih45 : Int32 → am_I → Option (Int32 × am_I × am_L)) (v43 : Int32) (J44 : am_I) : Option (Int32 × am_I × am_L) :=
  if (J44 a0 3) ≤ v43 then (
    j1 J44) else (
    Option.bind (pX11_has (Int32.toInt64 (J44 a0 4)) v43) (fun r47 =>
    am_jn (fun (J49 : am_I) =>
  ih45 (v43 + (1 : Int32)) J49) (fun j48 =>
    if r47 = 0 then (
      j48 J44) else (
      Option.bind (pX11_numberOfState R J44 a0 v43 ((J44 a0 4) &&& (((1 : Int32) <<< (v43 &&& 31)) - (1 : Int32)))) (fun r51 =>
      j48 r51.2)))))
noncomputable def lX11_buildsPairs_2 (R : am_R) (L : am_L) (a0 : Nat) (j1 : am_I → Option (Int32 × am_I × am_L)) : Nat → Int32 → am_I → Option (Int32 × am_I × am_L)
  | 0, _, _ => none
  | n + 1, v43, J44 => sX11_buildsPairs_2 R L a0 j1 (lX11_buildsPairs_2 R L a0 j1 n) v43 J44
noncomputable def pX11_buildsPairs (R : am_R) (I : am_I) (L : am_L) (a0 : Nat) : Option (Int32 × am_I × am_L) :=
  am_jn (fun (J2 : am_I) =>
  lX11_buildsPairs_46 R a0 am_fu (0 : Int32) J2 L) (fun j1 =>
  lX11_buildsPairs_2 R L a0 j1 am_fu (0 : Int32) I)
noncomputable def sX11_build_257 (R : am_R) (a0 : Nat) (v16 : Int32) (J11 : am_I) (ih20 : Int32 → am_L → Option (Int32 × am_I × am_L)) (v18 : Int32) (J19 : am_L) : Option (Int32 × am_I × am_L) :=
  if v16 ≤ v18 then (
    some ((J11 a0 41), J11, J19)) else (
    am_let (am_upL J19 a0 42 ((J19 a0 42) ||| ((1 : Int64) <<< (Int32.toInt64 v18 &&& 63)))) (fun J22 =>
    ih20 (v18 + (1 : Int32)) J22))
noncomputable def lX11_build_257 (R : am_R) (a0 : Nat) (v16 : Int32) (J11 : am_I) : Nat → Int32 → am_L → Option (Int32 × am_I × am_L)
  | 0, _, _ => none
  | n + 1, v18, J19 => sX11_build_257 R a0 v16 J11 (lX11_build_257 R a0 v16 J11 n) v18 J19
noncomputable def sX11_build_219 (R : am_R) (a0 : Nat) (x1 : Int32) (J11 : am_I) (J12 : am_L) (j13 : Int32 → Option (Int32 × am_I × am_L)) (ih28 : Int32 → Int32 → Option (Int32 × am_I × am_L)) (v26 : Int32) (v27 : Int32) : Option (Int32 × am_I × am_L) :=
  if (J11 a0 3) ≤ v27 then (
    j13 v26) else (
    am_let (v26 + (((J11 a0 4) >>> (v27 &&& 31)) &&& (1 : Int32))) (fun v30 =>
    ih28 v30 (v27 + (1 : Int32))))
noncomputable def lX11_build_219 (R : am_R) (a0 : Nat) (x1 : Int32) (J11 : am_I) (J12 : am_L) (j13 : Int32 → Option (Int32 × am_I × am_L)) : Nat → Int32 → Int32 → Option (Int32 × am_I × am_L)
  | 0, _, _ => none
  | n + 1, v26, v27 => sX11_build_219 R a0 x1 J11 J12 j13 (lX11_build_219 R a0 x1 J11 J12 j13 n) v26 v27
noncomputable def sX11_build_95 (R : am_R) (a0 : Nat) (x1 : Int32) (v32 : Int32) (J42 : am_I) (j43 : am_L → Option (Int32 × am_I × am_L)) (ih63 : Int32 → am_L → Option (Int32 × am_I × am_L)) (v61 : Int32) (J62 : am_L) : Option (Int32 × am_I × am_L) :=
  if (3 : Int32) ≤ v61 then (
    j43 J62) else (
    am_ck (am_inb (((3 : Int32) * v32) + v61) 192) (
    am_ck (am_inb (((3 : Int32) * v32) + v61) 192) (
    am_let (am_upL J62 (R a0 38) (Int32.toNatClampNeg (((3 : Int32) * v32) + v61)) (J62 (R a0 39) (Int32.toNatClampNeg (((3 : Int32) * v32) + v61)))) (fun J67 =>
    ih63 (v61 + (1 : Int32)) J67))))
noncomputable def lX11_build_95 (R : am_R) (a0 : Nat) (x1 : Int32) (v32 : Int32) (J42 : am_I) (j43 : am_L → Option (Int32 × am_I × am_L)) : Nat → Int32 → am_L → Option (Int32 × am_I × am_L)
  | 0, _, _ => none
  | n + 1, v61, J62 => sX11_build_95 R a0 x1 v32 J42 j43 (lX11_build_95 R a0 x1 v32 J42 j43 n) v61 J62
noncomputable def sX11_build_61 (R : am_R) (a0 : Nat) (x1 : Int32) (j10 : am_I → am_L → Option (Int32 × am_I × am_L)) (ih35 : Int32 → am_I → am_L → Option (Int32 × am_I × am_L)) (v32 : Int32) (J33 : am_I) (J34 : am_L) : Option (Int32 × am_I × am_L) :=
  if (J33 a0 41) ≤ v32 then (
    j10 J33 J34) else (
    am_ck (am_inb v32 64) (
    am_ck (am_inb v32 64) (
    am_let (am_upI J33 (R a0 34) (Int32.toNatClampNeg v32) (J33 (R a0 36) (Int32.toNatClampNeg v32))) (fun J39 =>
    am_ck (am_inb v32 64) (
    am_ck (am_inb v32 64) (
    am_let (am_upI J39 (R a0 35) (Int32.toNatClampNeg v32) (J39 (R a0 37) (Int32.toNatClampNeg v32))) (fun J42 =>
    am_jn (fun (J44 : am_L) =>
  am_jn (fun (v46 : Int32) =>
  am_let (if v46 = 0 then (0 : Int64) else ((1 : Int64) <<< (Int32.toInt64 v32 &&& 63))) (fun v47 =>
  am_let (am_upL J44 a0 43 ((J44 a0 43) ||| v47)) (fun J49 =>
  ih35 (v32 + (1 : Int32)) J42 J49))) (fun j45 =>
  if x1 = 0 then (
    am_ck (am_inb v32 64) (
    if ((J42 (R a0 35) (Int32.toNatClampNeg v32)) &&& (J42 a0 5)) = 0 then (
      j45 (0 : Int32)) else (
      j45 (1 : Int32)))) else (
    am_ck (am_inb v32 64) (
    Option.bind (pX11_has (Int32.toInt64 (J42 a0 5)) (J42 (R a0 34) (Int32.toNatClampNeg v32))) (fun r53 =>
    am_jn (
  j45 (0 : Int32)) (fun j54 =>
    if r53 = 0 then (
      j54) else (
      am_ck (am_inb v32 64) (
      if ((J42 (R a0 35) (Int32.toNatClampNeg v32)) &&& (J42 a0 5)) = 0 then (
        j45 (1 : Int32)) else (
        j54))))))))) (fun j43 =>
    lX11_build_95 R a0 x1 v32 J42 j43 am_fu (0 : Int32) J34))))))))
noncomputable def lX11_build_61 (R : am_R) (a0 : Nat) (x1 : Int32) (j10 : am_I → am_L → Option (Int32 × am_I × am_L)) : Nat → Int32 → am_I → am_L → Option (Int32 × am_I × am_L)
  | 0, _, _, _ => none
  | n + 1, v32, J33, J34 => sX11_build_61 R a0 x1 j10 (lX11_build_61 R a0 x1 j10 n) v32 J33 J34
noncomputable def pX11_build (R : am_R) (I : am_I) (L : am_L) (a0 : Nat) (x1 : Int32) : Option (Int32 × am_I × am_L) :=
  Option.bind (pX11_isBetween (Int32.toInt64 x1) (0 : Int64) (1 : Int64)) (fun r1 =>
  if r1 = 0 then (
    some ((-1 : Int32), I, L)) else (
    am_let (am_upI I a0 41 (0 : Int32)) (fun J3 =>
    am_jn (fun (J5 : am_I) (J6 : am_L) =>
  am_let (am_upI J5 a0 40 (J5 a0 41)) (fun J7 =>
  am_let (am_upL J6 a0 42 (0 : Int64)) (fun J8 =>
  am_let (am_upL J8 a0 43 (0 : Int64)) (fun J9 =>
  am_jn (fun (J11 : am_I) (J12 : am_L) =>
  am_jn (fun (v14 : Int32) =>
  am_jn (fun (v16 : Int32) =>
  lX11_build_257 R a0 v16 J11 am_fu (0 : Int32) J12) (fun j15 =>
  if x1 = 0 then (
    if v14 ≤ (1 : Int32) then (
      j15 v14) else (
      j15 (1 : Int32))) else (
    j15 v14))) (fun j13 =>
  lX11_build_219 R a0 x1 J11 J12 j13 am_fu (0 : Int32) (0 : Int32))) (fun j10 =>
  lX11_build_61 R a0 x1 j10 am_fu (0 : Int32) J7 J9))))) (fun j4 =>
    if x1 = 0 then (
      Option.bind (pX11_buildsSets R J3 L a0) (fun r71 =>
      if r71.1 = 0 then (
        some ((-5 : Int32), r71.2.1, r71.2.2)) else (
        j4 r71.2.1 r71.2.2))) else (
      Option.bind (pX11_buildsPairs R J3 L a0) (fun r69 =>
      if r69.1 = 0 then (
        some ((-5 : Int32), r69.2.1, r69.2.2)) else (
        j4 r69.2.1 r69.2.2)))))))
noncomputable def pX11_resultStateCount (I : am_I) (a0 : Nat) : Option (Int32) :=
  some (I a0 40)
noncomputable def pX11_resultInitials (L : am_L) (a0 : Nat) : Option (Int64) :=
  some (L a0 42)
noncomputable def pX11_resultFinals (L : am_L) (a0 : Nat) : Option (Int64) :=
  some (L a0 43)
noncomputable def pX11_resultSuccessors (R : am_R) (I : am_I) (L : am_L) (a0 : Nat) (x1 : Int32) (x2 : Int32) : Option (Int64) :=
  Option.bind (pX11_isLetter x2) (fun r1 =>
  if r1 = 0 then (
    some (0 : Int64)) else (
    Option.bind (pX11_isBetween (Int32.toInt64 x1) (0 : Int64) (Int32.toInt64 ((I a0 40) - (1 : Int32)))) (fun r3 =>
    if r3 = 0 then (
      some (0 : Int64)) else (
      am_ck (am_inb (((3 : Int32) * x1) + x2) 192) (
      some (L (R a0 38) (Int32.toNatClampNeg (((3 : Int32) * x1) + x2))))))))
noncomputable def sX11_resultAmbiguity_177 (R : am_R) (I : am_I) (a0 : Nat) (J5 : am_L) (ih9 : Int64 → Int32 → Option (Int64 × am_L)) (v7 : Int64) (v8 : Int32) : Option (Int64 × am_L) :=
  if (I a0 40) ≤ v8 then (
    some (v7, J5)) else (
    Option.bind (pX11_has (J5 a0 43) v8) (fun r11 =>
    am_jn (fun (v13 : Int64) =>
  am_let (v7 + v13) (fun v14 =>
  ih9 v14 (v8 + (1 : Int32)))) (fun j12 =>
    if r11 = 0 then (
      j12 (0 : Int64)) else (
      am_ck (am_inb v8 64) (
      j12 (J5 (R a0 17) (Int32.toNatClampNeg v8)))))))
noncomputable def lX11_resultAmbiguity_177 (R : am_R) (I : am_I) (a0 : Nat) (J5 : am_L) : Nat → Int64 → Int32 → Option (Int64 × am_L)
  | 0, _, _ => none
  | n + 1, v7, v8 => sX11_resultAmbiguity_177 R I a0 J5 (lX11_resultAmbiguity_177 R I a0 J5 n) v7 v8
noncomputable def sX11_resultAmbiguity_141 (R : am_R) (I : am_I) (a0 : Nat) (v18 : Int32) (j24 : am_L → Option (Int64 × am_L)) (ih29 : Int32 → am_L → Option (Int64 × am_L)) (v27 : Int32) (J28 : am_L) : Option (Int64 × am_L) :=
  if (I a0 40) ≤ v27 then (
    j24 J28) else (
    am_ck (am_inb v27 64) (
    am_ck (am_inb v27 64) (
    am_let (am_upL J28 (R a0 17) (Int32.toNatClampNeg v27) (J28 (R a0 18) (Int32.toNatClampNeg v27))) (fun J33 =>
    ih29 (v27 + (1 : Int32)) J33))))
noncomputable def lX11_resultAmbiguity_141 (R : am_R) (I : am_I) (a0 : Nat) (v18 : Int32) (j24 : am_L → Option (Int64 × am_L)) : Nat → Int32 → am_L → Option (Int64 × am_L)
  | 0, _, _ => none
  | n + 1, v27, J28 => sX11_resultAmbiguity_141 R I a0 v18 j24 (lX11_resultAmbiguity_141 R I a0 v18 j24 n) v27 J28
noncomputable def sX11_resultAmbiguity_78 (R : am_R) (I : am_I) (a0 : Nat) (v18 : Int32) (v35 : Int32) (j41 : am_L → Option (Int64 × am_L)) (ih46 : Int32 → am_L → Option (Int64 × am_L)) (v44 : Int32) (J45 : am_L) : Option (Int64 × am_L) :=
  if (I a0 40) ≤ v44 then (
    j41 J45) else (
    am_ck (am_inb v35 64) (
    am_ck (am_inb v18 20) (
    am_ck (am_inb (((3 : Int32) * v44) + (I (R a0 15) (Int32.toNatClampNeg v18))) 192) (
    Option.bind (pX11_has (J45 (R a0 38) (Int32.toNatClampNeg (((3 : Int32) * v44) + (I (R a0 15) (Int32.toNatClampNeg v18))))) v35) (fun r51 =>
    am_jn (fun (v53 : Int64) =>
  am_ck (am_inb v35 64) (
  am_let (am_upL J45 (R a0 18) (Int32.toNatClampNeg v35) ((J45 (R a0 18) (Int32.toNatClampNeg v35)) + v53)) (fun J54 =>
  ih46 (v44 + (1 : Int32)) J54))) (fun j52 =>
    if r51 = 0 then (
      j52 (0 : Int64)) else (
      am_ck (am_inb v44 64) (
      j52 (J45 (R a0 17) (Int32.toNatClampNeg v44))))))))))
noncomputable def lX11_resultAmbiguity_78 (R : am_R) (I : am_I) (a0 : Nat) (v18 : Int32) (v35 : Int32) (j41 : am_L → Option (Int64 × am_L)) : Nat → Int32 → am_L → Option (Int64 × am_L)
  | 0, _, _ => none
  | n + 1, v44, J45 => sX11_resultAmbiguity_78 R I a0 v18 v35 j41 (lX11_resultAmbiguity_78 R I a0 v18 v35 j41 n) v44 J45
noncomputable def sX11_resultAmbiguity_61 (R : am_R) (I : am_I) (a0 : Nat) (v18 : Int32) (j22 : am_L → Option (Int64 × am_L)) (ih37 : Int32 → am_L → Option (Int64 × am_L)) (v35 : Int32) (J36 : am_L) : Option (Int64 × am_L) :=
  if (I a0 40) ≤ v35 then (
    j22 J36) else (
    am_ck (am_inb v35 64) (
    am_let (am_upL J36 (R a0 18) (Int32.toNatClampNeg v35) (0 : Int64)) (fun J40 =>
    am_jn (fun (J42 : am_L) =>
  ih37 (v35 + (1 : Int32)) J42) (fun j41 =>
    lX11_resultAmbiguity_78 R I a0 v18 v35 j41 am_fu (0 : Int32) J40))))
noncomputable def lX11_resultAmbiguity_61 (R : am_R) (I : am_I) (a0 : Nat) (v18 : Int32) (j22 : am_L → Option (Int64 × am_L)) : Nat → Int32 → am_L → Option (Int64 × am_L)
  | 0, _, _ => none
  | n + 1, v35, J36 => sX11_resultAmbiguity_61 R I a0 v18 j22 (lX11_resultAmbiguity_61 R I a0 v18 j22 n) v35 J36
noncomputable def sX11_resultAmbiguity_51 (R : am_R) (I : am_I) (a0 : Nat) (j4 : am_L → Option (Int64 × am_L)) (ih20 : Int32 → am_L → Option (Int64 × am_L)) (v18 : Int32) (J19 : am_L) : Option (Int64 × am_L) :=
  if (I a0 16) ≤ v18 then (
    j4 J19) else (
    am_jn (fun (J23 : am_L) =>
  am_jn (fun (J25 : am_L) =>
  ih20 (v18 + (1 : Int32)) J25) (fun j24 =>
  lX11_resultAmbiguity_141 R I a0 v18 j24 am_fu (0 : Int32) J23)) (fun j22 =>
    lX11_resultAmbiguity_61 R I a0 v18 j22 am_fu (0 : Int32) J19))
noncomputable def lX11_resultAmbiguity_51 (R : am_R) (I : am_I) (a0 : Nat) (j4 : am_L → Option (Int64 × am_L)) : Nat → Int32 → am_L → Option (Int64 × am_L)
  | 0, _, _ => none
  | n + 1, v18, J19 => sX11_resultAmbiguity_51 R I a0 j4 (lX11_resultAmbiguity_51 R I a0 j4 n) v18 J19
noncomputable def sX11_resultAmbiguity_13 (R : am_R) (I : am_I) (a0 : Nat) (j2 : am_L → Option (Int64 × am_L)) (ih60 : Int32 → am_L → Option (Int64 × am_L)) (v58 : Int32) (J59 : am_L) : Option (Int64 × am_L) :=
  if (I a0 40) ≤ v58 then (
    j2 J59) else (
    Option.bind (pX11_has (J59 a0 42) v58) (fun r63 =>
    am_let (if r63 = 0 then (0 : Int64) else (1 : Int64)) (fun v64 =>
    am_ck (am_inb v58 64) (
    am_let (am_upL J59 (R a0 17) (Int32.toNatClampNeg v58) v64) (fun J66 =>
    ih60 (v58 + (1 : Int32)) J66)))))
noncomputable def lX11_resultAmbiguity_13 (R : am_R) (I : am_I) (a0 : Nat) (j2 : am_L → Option (Int64 × am_L)) : Nat → Int32 → am_L → Option (Int64 × am_L)
  | 0, _, _ => none
  | n + 1, v58, J59 => sX11_resultAmbiguity_13 R I a0 j2 (lX11_resultAmbiguity_13 R I a0 j2 n) v58 J59
noncomputable def pX11_resultAmbiguity (R : am_R) (I : am_I) (L : am_L) (a0 : Nat) : Option (Int64 × am_L) :=
  if 0 ≤ (I a0 40) then (
    am_jn (fun (J3 : am_L) =>
  am_jn (fun (J5 : am_L) =>
  lX11_resultAmbiguity_177 R I a0 J5 am_fu (0 : Int64) (0 : Int32)) (fun j4 =>
  lX11_resultAmbiguity_51 R I a0 j4 am_fu (0 : Int32) J3)) (fun j2 =>
    lX11_resultAmbiguity_13 R I a0 j2 am_fu (0 : Int32) L)) else (
    some ((-4 : Int64), L))
noncomputable def pX11_isShelf (x0 : Int32) : Option (Int32) :=
  if x0 < 0 then (
    some (0 : Int32)) else (
    if (4 : Int32) ≤ x0 then (
      some (0 : Int32)) else (
      some (1 : Int32)))
noncomputable def sX11_keepWord_28 (R : am_R) (a0 : Nat) (x1 : Int32) (J6 : am_I) (ih10 : Int32 → am_L → Option (Int32 × am_I × am_L)) (v8 : Int32) (J9 : am_L) : Option (Int32 × am_I × am_L) :=
  if (J6 a0 16) ≤ v8 then (
    some ((J6 a0 16), J6, J9)) else (
    am_ck (am_inb v8 20) (
    am_ck (am_inb (((31 : Int32) * x1) + v8) 124) (
    am_let (am_upL J9 (R a0 46) (Int32.toNatClampNeg (((31 : Int32) * x1) + v8)) (Int32.toInt64 (J6 (R a0 15) (Int32.toNatClampNeg v8)))) (fun J14 =>
    ih10 (v8 + (1 : Int32)) J14))))
noncomputable def lX11_keepWord_28 (R : am_R) (a0 : Nat) (x1 : Int32) (J6 : am_I) : Nat → Int32 → am_L → Option (Int32 × am_I × am_L)
  | 0, _, _ => none
  | n + 1, v8, J9 => sX11_keepWord_28 R a0 x1 J6 (lX11_keepWord_28 R a0 x1 J6 n) v8 J9
noncomputable def pX11_keepWord (R : am_R) (I : am_I) (L : am_L) (a0 : Nat) (x1 : Int32) : Option (Int32 × am_I × am_L) :=
  Option.bind (pX11_isShelf x1) (fun r1 =>
  if r1 = 0 then (
    some ((-1 : Int32), I, L)) else (
    am_ck (am_inb x1 4) (
    am_let (am_upI I (R a0 44) (Int32.toNatClampNeg x1) (1 : Int32)) (fun J4 =>
    am_ck (am_inb x1 4) (
    am_let (am_upI J4 (R a0 45) (Int32.toNatClampNeg x1) (J4 a0 16)) (fun J6 =>
    lX11_keepWord_28 R a0 x1 J6 am_fu (0 : Int32) L))))))
noncomputable def sX11_keepCounts_80 (R : am_R) (a0 : Nat) (x1 : Int32) (x2 : Int32) (J10 : am_I) (ih14 : Int32 → am_L → Option (Int32 × am_I × am_L)) (v12 : Int32) (J13 : am_L) : Option (Int32 × am_I × am_L) :=
  if x2 < v12 then (
    some ((x2 + (1 : Int32)), J10, J13)) else (
    am_ck (am_inb v12 31) (
    am_ck (am_inb (((31 : Int32) * x1) + v12) 124) (
    am_let (am_upL J13 (R a0 46) (Int32.toNatClampNeg (((31 : Int32) * x1) + v12)) (J13 (R a0 47) (Int32.toNatClampNeg v12))) (fun J18 =>
    ih14 (v12 + (1 : Int32)) J18))))
noncomputable def lX11_keepCounts_80 (R : am_R) (a0 : Nat) (x1 : Int32) (x2 : Int32) (J10 : am_I) : Nat → Int32 → am_L → Option (Int32 × am_I × am_L)
  | 0, _, _ => none
  | n + 1, v12, J13 => sX11_keepCounts_80 R a0 x1 x2 J10 (lX11_keepCounts_80 R a0 x1 x2 J10 n) v12 J13
noncomputable def sX11_keepCounts_26 (R : am_R) (I : am_I) (a0 : Nat) (x1 : Int32) (x2 : Int32) (j5 : am_L → Option (Int32 × am_I × am_L)) (ih22 : Int32 → am_L → Option (Int32 × am_I × am_L)) (v20 : Int32) (J21 : am_L) : Option (Int32 × am_I × am_L) :=
  if x2 < v20 then (
    j5 J21) else (
    Option.bind (pX11_pathsOf R I J21 a0 v20) (fun r25 =>
    am_ck (am_inb v20 31) (
    am_let (am_upL r25.2 (R a0 47) (Int32.toNatClampNeg v20) r25.1) (fun J26 =>
    am_ck (am_inb v20 31) (
    if 0 ≤ (lg_cmp (J26 (R a0 47) (Int32.toNatClampNeg v20)) (0 : Int64)) then (
      ih22 (v20 + (1 : Int32)) J26) else (
      some ((-6 : Int32), I, J26)))))))
noncomputable def lX11_keepCounts_26 (R : am_R) (I : am_I) (a0 : Nat) (x1 : Int32) (x2 : Int32) (j5 : am_L → Option (Int32 × am_I × am_L)) : Nat → Int32 → am_L → Option (Int32 × am_I × am_L)
  | 0, _, _ => none
  | n + 1, v20, J21 => sX11_keepCounts_26 R I a0 x1 x2 j5 (lX11_keepCounts_26 R I a0 x1 x2 j5 n) v20 J21
noncomputable def pX11_keepCounts (R : am_R) (I : am_I) (L : am_L) (a0 : Nat) (x1 : Int32) (x2 : Int32) : Option (Int32 × am_I × am_L) :=
  Option.bind (pX11_isShelf x1) (fun r1 =>
  if r1 = 0 then (
    some ((-1 : Int32), I, L)) else (
    Option.bind (pX11_isBetween (Int32.toInt64 x2) (0 : Int64) (30 : Int64)) (fun r3 =>
    if r3 = 0 then (
      some ((-2 : Int32), I, L)) else (
      am_jn (fun (J6 : am_L) =>
  am_ck (am_inb x1 4) (
  am_let (am_upI I (R a0 44) (Int32.toNatClampNeg x1) (2 : Int32)) (fun J8 =>
  am_ck (am_inb x1 4) (
  am_let (am_upI J8 (R a0 45) (Int32.toNatClampNeg x1) (x2 + (1 : Int32))) (fun J10 =>
  lX11_keepCounts_80 R a0 x1 x2 J10 am_fu (0 : Int32) J6))))) (fun j5 =>
      lX11_keepCounts_26 R I a0 x1 x2 j5 am_fu (0 : Int32) L)))))
noncomputable def sX11_useWord_46 (R : am_R) (L : am_L) (a0 : Nat) (x1 : Int32) (ih12 : Int32 → am_I → Option (Int32 × am_I)) (v10 : Int32) (J11 : am_I) : Option (Int32 × am_I) :=
  if (J11 a0 16) ≤ v10 then (
    some ((J11 a0 16), J11)) else (
    am_ck (am_inb (((31 : Int32) * x1) + v10) 124) (
    am_ck (am_inb v10 20) (
    am_let (am_upI J11 (R a0 15) (Int32.toNatClampNeg v10) (Int64.toInt32 (L (R a0 46) (Int32.toNatClampNeg (((31 : Int32) * x1) + v10))))) (fun J16 =>
    ih12 (v10 + (1 : Int32)) J16))))
noncomputable def lX11_useWord_46 (R : am_R) (L : am_L) (a0 : Nat) (x1 : Int32) : Nat → Int32 → am_I → Option (Int32 × am_I)
  | 0, _, _ => none
  | n + 1, v10, J11 => sX11_useWord_46 R L a0 x1 (lX11_useWord_46 R L a0 x1 n) v10 J11
noncomputable def pX11_useWord (R : am_R) (I : am_I) (L : am_L) (a0 : Nat) (x1 : Int32) : Option (Int32 × am_I) :=
  Option.bind (pX11_isShelf x1) (fun r1 =>
  if r1 = 0 then (
    some ((-1 : Int32), I)) else (
    am_ck (am_inb x1 4) (
    if (I (R a0 44) (Int32.toNatClampNeg x1)) = 0 then (
      some ((-7 : Int32), I)) else (
      am_ck (am_inb x1 4) (
      if (I (R a0 44) (Int32.toNatClampNeg x1)) = (2 : Int32) then (
        some ((-8 : Int32), I)) else (
        am_ck (am_inb x1 4) (
        am_let (am_upI I a0 16 (I (R a0 45) (Int32.toNatClampNeg x1))) (fun J8 =>
        lX11_useWord_46 R L a0 x1 am_fu (0 : Int32) J8))))))))
noncomputable def pX11_shelfElement (R : am_R) (I : am_I) (L : am_L) (a0 : Nat) (x1 : Int32) (x2 : Int32) : Option (Int64) :=
  Option.bind (pX11_isShelf x1) (fun r1 =>
  if r1 = 0 then (
    some (-1 : Int64)) else (
    am_ck (am_inb x1 4) (
    if (I (R a0 44) (Int32.toNatClampNeg x1)) = 0 then (
      some (-7 : Int64)) else (
      am_ck (am_inb x1 4) (
      Option.bind (pX11_isBetween (Int32.toInt64 x2) (0 : Int64) (Int32.toInt64 ((I (R a0 45) (Int32.toNatClampNeg x1)) - (1 : Int32)))) (fun r6 =>
      if r6 = 0 then (
        some (-1 : Int64)) else (
        am_ck (am_inb (((31 : Int32) * x1) + x2) 124) (
        some (L (R a0 46) (Int32.toNatClampNeg (((31 : Int32) * x1) + x2)))))))))))
noncomputable def sX11_save_33 (R : am_R) (a0 : Nat) (j4 : am_I → Option (Int32 × am_I)) (ih15 : Int32 → am_I → Option (Int32 × am_I)) (v13 : Int32) (J14 : am_I) : Option (Int32 × am_I) :=
  if (3 : Int32) ≤ v13 then (
    j4 J14) else (
    am_ck (am_inb v13 3) (
    am_ck (am_inb ((18 : Int32) + v13) 24) (
    am_let (am_upI J14 (R a0 48) (Int32.toNatClampNeg ((18 : Int32) + v13)) (J14 (R a0 2) (Int32.toNatClampNeg v13))) (fun J19 =>
    ih15 (v13 + (1 : Int32)) J19))))
noncomputable def lX11_save_33 (R : am_R) (a0 : Nat) (j4 : am_I → Option (Int32 × am_I)) : Nat → Int32 → am_I → Option (Int32 × am_I)
  | 0, _, _ => none
  | n + 1, v13, J14 => sX11_save_33 R a0 j4 (lX11_save_33 R a0 j4 n) v13 J14
noncomputable def sX11_save_7 (R : am_R) (a0 : Nat) (j2 : am_I → Option (Int32 × am_I)) (ih23 : Int32 → am_I → Option (Int32 × am_I)) (v21 : Int32) (J22 : am_I) : Option (Int32 × am_I) :=
  if (18 : Int32) ≤ v21 then (
    j2 J22) else (
    am_ck (am_inb v21 18) (
    am_ck (am_inb v21 24) (
    am_let (am_upI J22 (R a0 48) (Int32.toNatClampNeg v21) (J22 (R a0 0) (Int32.toNatClampNeg v21))) (fun J27 =>
    ih23 (v21 + (1 : Int32)) J27))))
noncomputable def lX11_save_7 (R : am_R) (a0 : Nat) (j2 : am_I → Option (Int32 × am_I)) : Nat → Int32 → am_I → Option (Int32 × am_I)
  | 0, _, _ => none
  | n + 1, v21, J22 => sX11_save_7 R a0 j2 (lX11_save_7 R a0 j2 n) v21 J22
noncomputable def pX11_save (R : am_R) (I : am_I) (a0 : Nat) : Option (Int32 × am_I) :=
  am_let (am_upI I a0 49 (1 : Int32)) (fun J1 =>
  am_jn (fun (J3 : am_I) =>
  am_jn (fun (J5 : am_I) =>
  am_ck (am_inb (21 : Int32) 24) (
  am_let (am_upI J5 (R a0 48) (Int32.toNatClampNeg (21 : Int32)) (J5 a0 3)) (fun J7 =>
  am_ck (am_inb (22 : Int32) 24) (
  am_let (am_upI J7 (R a0 48) (Int32.toNatClampNeg (22 : Int32)) (J7 a0 4)) (fun J9 =>
  am_ck (am_inb (23 : Int32) 24) (
  am_let (am_upI J9 (R a0 48) (Int32.toNatClampNeg (23 : Int32)) (J9 a0 5)) (fun J11 =>
  some ((J11 a0 3), J11)))))))) (fun j4 =>
  lX11_save_33 R a0 j4 am_fu (0 : Int32) J3)) (fun j2 =>
  lX11_save_7 R a0 j2 am_fu (0 : Int32) J1))
noncomputable def sX11_restore_38 (R : am_R) (a0 : Nat) (j4 : am_I → Option (Int32 × am_I)) (ih16 : Int32 → am_I → Option (Int32 × am_I)) (v14 : Int32) (J15 : am_I) : Option (Int32 × am_I) :=
  if (3 : Int32) ≤ v14 then (
    j4 J15) else (
    am_ck (am_inb ((18 : Int32) + v14) 24) (
    am_ck (am_inb v14 3) (
    am_let (am_upI J15 (R a0 2) (Int32.toNatClampNeg v14) (J15 (R a0 48) (Int32.toNatClampNeg ((18 : Int32) + v14)))) (fun J20 =>
    ih16 (v14 + (1 : Int32)) J20))))
noncomputable def lX11_restore_38 (R : am_R) (a0 : Nat) (j4 : am_I → Option (Int32 × am_I)) : Nat → Int32 → am_I → Option (Int32 × am_I)
  | 0, _, _ => none
  | n + 1, v14, J15 => sX11_restore_38 R a0 j4 (lX11_restore_38 R a0 j4 n) v14 J15
noncomputable def sX11_restore_12 (R : am_R) (a0 : Nat) (j2 : am_I → Option (Int32 × am_I)) (ih24 : Int32 → am_I → Option (Int32 × am_I)) (v22 : Int32) (J23 : am_I) : Option (Int32 × am_I) :=
  if (18 : Int32) ≤ v22 then (
    j2 J23) else (
    am_ck (am_inb v22 24) (
    am_ck (am_inb v22 18) (
    am_let (am_upI J23 (R a0 0) (Int32.toNatClampNeg v22) (J23 (R a0 48) (Int32.toNatClampNeg v22))) (fun J28 =>
    ih24 (v22 + (1 : Int32)) J28))))
noncomputable def lX11_restore_12 (R : am_R) (a0 : Nat) (j2 : am_I → Option (Int32 × am_I)) : Nat → Int32 → am_I → Option (Int32 × am_I)
  | 0, _, _ => none
  | n + 1, v22, J23 => sX11_restore_12 R a0 j2 (lX11_restore_12 R a0 j2 n) v22 J23
noncomputable def pX11_restore (R : am_R) (I : am_I) (a0 : Nat) : Option (Int32 × am_I) :=
  if (I a0 49) = 0 then (
    some ((-4 : Int32), I)) else (
    am_jn (fun (J3 : am_I) =>
  am_jn (fun (J5 : am_I) =>
  am_ck (am_inb (21 : Int32) 24) (
  am_let (am_upI J5 a0 3 (J5 (R a0 48) (Int32.toNatClampNeg (21 : Int32)))) (fun J7 =>
  am_ck (am_inb (22 : Int32) 24) (
  am_let (am_upI J7 a0 4 (J7 (R a0 48) (Int32.toNatClampNeg (22 : Int32)))) (fun J9 =>
  am_ck (am_inb (23 : Int32) 24) (
  am_let (am_upI J9 a0 5 (J9 (R a0 48) (Int32.toNatClampNeg (23 : Int32)))) (fun J11 =>
  am_let (am_upI J11 a0 6 (0 : Int32)) (fun J12 =>
  some ((J12 a0 3), J12))))))))) (fun j4 =>
  lX11_restore_38 R a0 j4 am_fu (0 : Int32) J3)) (fun j2 =>
    lX11_restore_12 R a0 j2 am_fu (0 : Int32) I))
