noncomputable def sX0_clear_17 (R : am_R) (a0 : Nat) (ih7 : Int32 → am_I → Option (am_I)) (v5 : Int32) (J6 : am_I) : Option (am_I) :=
  if (18 : Int32) ≤ v5 then (
    some J6) else (
    am_ck (am_inb v5 18) (
    am_let (am_upI J6 (R a0 3) (Int32.toNatClampNeg v5) (0 : Int32)) (fun J11 =>
    ih7 (v5 + (1 : Int32)) J11)))
noncomputable def lX0_clear_17 (R : am_R) (a0 : Nat) : Nat → Int32 → am_I → Option (am_I)
  | 0, _, _ => none
  | n + 1, v5, J6 => sX0_clear_17 R a0 (lX0_clear_17 R a0 n) v5 J6
noncomputable def pX0_clear (R : am_R) (I : am_I) (a0 : Nat) (x1 : Int32) : Option (am_I) :=
  am_let (am_upI I a0 0 x1) (fun J1 =>
  am_let (am_upI J1 a0 1 (0 : Int32)) (fun J2 =>
  am_let (am_upI J2 a0 2 (0 : Int32)) (fun J3 =>
  lX0_clear_17 R a0 am_fu (0 : Int32) J3)))
noncomputable def sX0_copyFrom_26 (R : am_R) (a0 : Nat) (a1 : Nat) (ih8 : Int32 → am_I → Option (am_I)) (v6 : Int32) (J7 : am_I) : Option (am_I) :=
  if (18 : Int32) ≤ v6 then (
    some J7) else (
    am_ck (am_inb v6 18) (
    am_ck (am_inb v6 18) (
    am_let (am_upI J7 (R a0 3) (Int32.toNatClampNeg v6) (J7 (R a1 3) (Int32.toNatClampNeg v6))) (fun J13 =>
    ih8 (v6 + (1 : Int32)) J13))))
noncomputable def lX0_copyFrom_26 (R : am_R) (a0 : Nat) (a1 : Nat) : Nat → Int32 → am_I → Option (am_I)
  | 0, _, _ => none
  | n + 1, v6, J7 => sX0_copyFrom_26 R a0 a1 (lX0_copyFrom_26 R a0 a1 n) v6 J7
noncomputable def pX0_copyFrom (R : am_R) (I : am_I) (a0 : Nat) (a1 : Nat) : Option (am_I) :=
  am_let (am_upI I a0 0 (I a1 0)) (fun J1 =>
  am_let (am_upI J1 a0 1 (J1 a1 1)) (fun J2 =>
  am_let (am_upI J2 a0 2 (J2 a1 2)) (fun J3 =>
  lX0_copyFrom_26 R a0 a1 am_fu (0 : Int32) J3)))
noncomputable def pX0_hasState (I : am_I) (a0 : Nat) (x1 : Int32) : Option (Int32) :=
  if x1 < 0 then (
    some (0 : Int32)) else (
    if (I a0 0) ≤ x1 then (
      some (0 : Int32)) else (
      some (1 : Int32)))
noncomputable def pX10_isLetter (x0 : Int32) : Option (Int32) :=
  if x0 < 0 then (
    some (0 : Int32)) else (
    if (3 : Int32) ≤ x0 then (
      some (0 : Int32)) else (
      some (1 : Int32)))
noncomputable def pX0_couldHave (I : am_I) (a0 : Nat) (x1 : Int32) (x2 : Int32) (x3 : Int32) : Option (Int32) :=
  Option.bind (pX0_hasState I a0 x1) (fun r1 =>
  if r1 = 0 then (
    some (0 : Int32)) else (
    Option.bind (pX10_isLetter x2) (fun r3 =>
    if r3 = 0 then (
      some (0 : Int32)) else (
      Option.bind (pX0_hasState I a0 x3) (fun r5 =>
      if r5 = 0 then (
        some (0 : Int32)) else (
        some (1 : Int32)))))))
noncomputable def pX0_targetsOf (R : am_R) (I : am_I) (a0 : Nat) (x1 : Int32) (x2 : Int32) : Option (Int32) :=
  am_let (if x1 < 0 then (0 : Int32) else (if (I a0 0) ≤ x1 then (0 : Int32) else (if x2 < 0 then (0 : Int32) else (if (3 : Int32) ≤ x2 then (0 : Int32) else (1 : Int32))))) (fun v1 =>
  if v1 = 0 then (
    some (0 : Int32)) else (
    am_ck (am_inb ((x1 * (3 : Int32)) + x2) 18) (
    some (I (R a0 3) (Int32.toNatClampNeg ((x1 * (3 : Int32)) + x2))))))
noncomputable def pX10_contains (x0 : Int32) (x1 : Int32) : Option (Int32) :=
  if ((x0 >>> (x1 &&& 31)) &&& (1 : Int32)) = 0 then (
    some (0 : Int32)) else (
    some (1 : Int32))
noncomputable def pX0_add (R : am_R) (I : am_I) (a0 : Nat) (x1 : Int32) (x2 : Int32) (x3 : Int32) : Option (Int32 × am_I) :=
  Option.bind (pX0_couldHave I a0 x1 x2 x3) (fun r1 =>
  if r1 = 0 then (
    some ((0 : Int32), I)) else (
    Option.bind (pX0_targetsOf R I a0 x1 x2) (fun r3 =>
    Option.bind (pX10_contains r3 x3) (fun r4 =>
    if r4 = 0 then (
      am_ck (am_inb ((x1 * (3 : Int32)) + x2) 18) (
      am_ck (am_inb ((x1 * (3 : Int32)) + x2) 18) (
      am_let (am_upI I (R a0 3) (Int32.toNatClampNeg ((x1 * (3 : Int32)) + x2)) ((I (R a0 3) (Int32.toNatClampNeg ((x1 * (3 : Int32)) + x2))) ||| ((1 : Int32) <<< (x3 &&& 31)))) (fun J7 =>
      some ((1 : Int32), J7))))) else (
      some ((0 : Int32), I))))))
noncomputable def pX0_remove (R : am_R) (I : am_I) (a0 : Nat) (x1 : Int32) (x2 : Int32) (x3 : Int32) : Option (Int32 × am_I) :=
  Option.bind (pX0_couldHave I a0 x1 x2 x3) (fun r1 =>
  if r1 = 0 then (
    some ((0 : Int32), I)) else (
    Option.bind (pX0_targetsOf R I a0 x1 x2) (fun r3 =>
    Option.bind (pX10_contains r3 x3) (fun r4 =>
    if r4 = 0 then (
      some ((0 : Int32), I)) else (
      am_ck (am_inb ((x1 * (3 : Int32)) + x2) 18) (
      am_ck (am_inb ((x1 * (3 : Int32)) + x2) 18) (
      am_let (am_upI I (R a0 3) (Int32.toNatClampNeg ((x1 * (3 : Int32)) + x2)) ((I (R a0 3) (Int32.toNatClampNeg ((x1 * (3 : Int32)) + x2))) &&& (((1 : Int32) <<< (x3 &&& 31)) ^^^ (-1 : Int32)))) (fun J7 =>
      some ((1 : Int32), J7)))))))))
noncomputable def pJ6_bitCount_0f7a4 (x0 : Int32) : Option (Int32) :=
  am_let (x0 - ((Int32.toUInt32 x0 >>> (Int32.toUInt32 (1 : Int32) &&& Int32.toUInt32 31)).toInt32 &&& (1431655765 : Int32))) (fun v1 =>
  am_let ((v1 &&& (858993459 : Int32)) + ((Int32.toUInt32 v1 >>> (Int32.toUInt32 (2 : Int32) &&& Int32.toUInt32 31)).toInt32 &&& (858993459 : Int32))) (fun v2 =>
  am_let ((v2 + (Int32.toUInt32 v2 >>> (Int32.toUInt32 (4 : Int32) &&& Int32.toUInt32 31)).toInt32) &&& (252645135 : Int32)) (fun v3 =>
  am_let (v3 + (Int32.toUInt32 v3 >>> (Int32.toUInt32 (8 : Int32) &&& Int32.toUInt32 31)).toInt32) (fun v4 =>
  am_let (v4 + (Int32.toUInt32 v4 >>> (Int32.toUInt32 (16 : Int32) &&& Int32.toUInt32 31)).toInt32) (fun v5 =>
  some (v5 &&& (63 : Int32)))))))
noncomputable def sX0_countTransitions_4 (R : am_R) (I : am_I) (a0 : Nat) (ih4 : Int32 → Int32 → Option (Int32)) (v2 : Int32) (v3 : Int32) : Option (Int32) :=
  if (18 : Int32) ≤ v3 then (
    some v2) else (
    am_ck (am_inb v3 18) (
    Option.bind (pJ6_bitCount_0f7a4 (I (R a0 3) (Int32.toNatClampNeg v3))) (fun r8 =>
    am_let (v2 + r8) (fun v9 =>
    ih4 v9 (v3 + (1 : Int32))))))
noncomputable def lX0_countTransitions_4 (R : am_R) (I : am_I) (a0 : Nat) : Nat → Int32 → Int32 → Option (Int32)
  | 0, _, _ => none
  | n + 1, v2, v3 => sX0_countTransitions_4 R I a0 (lX0_countTransitions_4 R I a0 n) v2 v3
noncomputable def pX0_countTransitions (R : am_R) (I : am_I) (a0 : Nat) : Option (Int32) :=
  lX0_countTransitions_4 R I a0 am_fu (0 : Int32) (0 : Int32)
noncomputable def pX0_nextRandom (x0 : Int32) : Option (Int32) :=
  some ((x0 * (1103515245 : Int32)) + (12345 : Int32))
noncomputable def pX0_draw (x0 : Int32) (x1 : Int32) : Option (Int32) :=
  if (1 : Int32) ≤ x1 then (
    am_ck (!(x1 == 0)) (
    some ((Int32.toUInt32 x0 >>> (Int32.toUInt32 (16 : Int32) &&& Int32.toUInt32 31)).toInt32 - (Int32.toUInt32 x0 >>> (Int32.toUInt32 (16 : Int32) &&& Int32.toUInt32 31)).toInt32 / x1 * x1))) else (
    some (0 : Int32))
noncomputable def sX0_addRandom_5 (R : am_R) (a0 : Nat) (x2 : Int32) (ih5 : Int32 → Int32 → am_I → Option (am_I)) (v2 : Int32) (v3 : Int32) (J4 : am_I) : Option (am_I) :=
  if x2 ≤ v3 then (
    some J4) else (
    Option.bind (pX0_nextRandom v2) (fun r7 =>
    Option.bind (pX0_draw r7 (J4 a0 0)) (fun r8 =>
    Option.bind (pX0_nextRandom r7) (fun r9 =>
    Option.bind (pX0_draw r9 (3 : Int32)) (fun r10 =>
    Option.bind (pX0_nextRandom r9) (fun r11 =>
    Option.bind (pX0_draw r11 (J4 a0 0)) (fun r12 =>
    Option.bind (pX0_add R J4 a0 r8 r10 r12) (fun r13 =>
    ih5 r11 (v3 + (1 : Int32)) r13.2))))))))
noncomputable def lX0_addRandom_5 (R : am_R) (a0 : Nat) (x2 : Int32) : Nat → Int32 → Int32 → am_I → Option (am_I)
  | 0, _, _, _ => none
  | n + 1, v2, v3, J4 => sX0_addRandom_5 R a0 x2 (lX0_addRandom_5 R a0 x2 n) v2 v3 J4
noncomputable def pX0_addRandom (R : am_R) (I : am_I) (a0 : Nat) (x1 : Int32) (x2 : Int32) : Option (am_I) :=
  lX0_addRandom_5 R a0 x2 am_fu x1 (0 : Int32) I
noncomputable def sX0_neighbours_4 (R : am_R) (I : am_I) (a0 : Nat) (x1 : Int32) (ih4 : Int32 → Int32 → Option (Int32)) (v2 : Int32) (v3 : Int32) : Option (Int32) :=
  if (3 : Int32) ≤ v3 then (
    some v2) else (
    Option.bind (pX0_targetsOf R I a0 x1 v3) (fun r6 =>
    am_let (v2 ||| r6) (fun v7 =>
    ih4 v7 (v3 + (1 : Int32)))))
noncomputable def lX0_neighbours_4 (R : am_R) (I : am_I) (a0 : Nat) (x1 : Int32) : Nat → Int32 → Int32 → Option (Int32)
  | 0, _, _ => none
  | n + 1, v2, v3 => sX0_neighbours_4 R I a0 x1 (lX0_neighbours_4 R I a0 x1 n) v2 v3
noncomputable def pX0_neighbours (R : am_R) (I : am_I) (a0 : Nat) (x1 : Int32) : Option (Int32) :=
  lX0_neighbours_4 R I a0 x1 am_fu (0 : Int32) (0 : Int32)
noncomputable def sX0_reachedFrom_15 (R : am_R) (I : am_I) (a0 : Nat) (v3 : Int32) (j6 : Int32 → Option (Int32)) (ih11 : Int32 → Int32 → Option (Int32)) (v9 : Int32) (v10 : Int32) : Option (Int32) :=
  if (I a0 0) ≤ v10 then (
    j6 v9) else (
    Option.bind (pX10_contains v9 v10) (fun r13 =>
    am_jn (fun (v15 : Int32) =>
  am_let (v9 ||| v15) (fun v16 =>
  ih11 v16 (v10 + (1 : Int32)))) (fun j14 =>
    if r13 = 0 then (
      j14 (0 : Int32)) else (
      Option.bind (pX0_neighbours R I a0 v10) (fun r18 =>
      j14 r18)))))
noncomputable def lX0_reachedFrom_15 (R : am_R) (I : am_I) (a0 : Nat) (v3 : Int32) (j6 : Int32 → Option (Int32)) : Nat → Int32 → Int32 → Option (Int32)
  | 0, _, _ => none
  | n + 1, v9, v10 => sX0_reachedFrom_15 R I a0 v3 j6 (lX0_reachedFrom_15 R I a0 v3 j6 n) v9 v10
noncomputable def sX0_reachedFrom_4 (R : am_R) (I : am_I) (a0 : Nat) (ih4 : Int32 → Int32 → Option (Int32)) (v2 : Int32) (v3 : Int32) : Option (Int32) :=
  if (I a0 0) ≤ v3 then (
    some v2) else (
    am_jn (fun (v7 : Int32) =>
  ih4 v7 (v3 + (1 : Int32))) (fun j6 =>
    lX0_reachedFrom_15 R I a0 v3 j6 am_fu v2 (0 : Int32)))
noncomputable def lX0_reachedFrom_4 (R : am_R) (I : am_I) (a0 : Nat) : Nat → Int32 → Int32 → Option (Int32)
  | 0, _, _ => none
  | n + 1, v2, v3 => sX0_reachedFrom_4 R I a0 (lX0_reachedFrom_4 R I a0 n) v2 v3
noncomputable def pX0_reachedFrom (R : am_R) (I : am_I) (a0 : Nat) (x1 : Int32) : Option (Int32) :=
  lX0_reachedFrom_4 R I a0 am_fu x1 (0 : Int32)
noncomputable def sX0_reaching_15 (R : am_R) (I : am_I) (a0 : Nat) (v3 : Int32) (j6 : Int32 → Option (Int32)) (ih11 : Int32 → Int32 → Option (Int32)) (v9 : Int32) (v10 : Int32) : Option (Int32) :=
  if (I a0 0) ≤ v10 then (
    j6 v9) else (
    Option.bind (pX0_neighbours R I a0 v10) (fun r13 =>
    am_let (if (r13 &&& v9) = 0 then (0 : Int32) else ((1 : Int32) <<< (v10 &&& 31))) (fun v14 =>
    am_let (v9 ||| v14) (fun v16 =>
    ih11 v16 (v10 + (1 : Int32))))))
noncomputable def lX0_reaching_15 (R : am_R) (I : am_I) (a0 : Nat) (v3 : Int32) (j6 : Int32 → Option (Int32)) : Nat → Int32 → Int32 → Option (Int32)
  | 0, _, _ => none
  | n + 1, v9, v10 => sX0_reaching_15 R I a0 v3 j6 (lX0_reaching_15 R I a0 v3 j6 n) v9 v10
noncomputable def sX0_reaching_4 (R : am_R) (I : am_I) (a0 : Nat) (ih4 : Int32 → Int32 → Option (Int32)) (v2 : Int32) (v3 : Int32) : Option (Int32) :=
  if (I a0 0) ≤ v3 then (
    some v2) else (
    am_jn (fun (v7 : Int32) =>
  ih4 v7 (v3 + (1 : Int32))) (fun j6 =>
    lX0_reaching_15 R I a0 v3 j6 am_fu v2 (0 : Int32)))
noncomputable def lX0_reaching_4 (R : am_R) (I : am_I) (a0 : Nat) : Nat → Int32 → Int32 → Option (Int32)
  | 0, _, _ => none
  | n + 1, v2, v3 => sX0_reaching_4 R I a0 (lX0_reaching_4 R I a0 n) v2 v3
noncomputable def pX0_reaching (R : am_R) (I : am_I) (a0 : Nat) (x1 : Int32) : Option (Int32) :=
  lX0_reaching_4 R I a0 am_fu x1 (0 : Int32)
noncomputable def pX0_usefulSet (R : am_R) (I : am_I) (a0 : Nat) : Option (Int32) :=
  Option.bind (pX0_reachedFrom R I a0 (I a0 1)) (fun r1 =>
  Option.bind (pX0_reaching R I a0 (I a0 2)) (fun r2 =>
  some (r1 &&& r2)))
noncomputable def sX0_squeeze_7 (x0 : Int32) (x1 : Int32) (ih4 : Int32 → Int32 → Int32 → Option (Int32)) (v1 : Int32) (v2 : Int32) (v3 : Int32) : Option (Int32) :=
  if (6 : Int32) ≤ v3 then (
    some v1) else (
    Option.bind (pX10_contains x1 v3) (fun r6 =>
    am_jn (fun (v8 : Int32) (v9 : Int32) =>
  ih4 v8 v9 (v3 + (1 : Int32))) (fun j7 =>
    if r6 = 0 then (
      j7 v1 v2) else (
      Option.bind (pX10_contains x0 v3) (fun r11 =>
      am_let (if r11 = 0 then (0 : Int32) else ((1 : Int32) <<< (v2 &&& 31))) (fun v12 =>
      am_let (v1 ||| v12) (fun v14 =>
      j7 v14 (v2 + (1 : Int32)))))))))
noncomputable def lX0_squeeze_7 (x0 : Int32) (x1 : Int32) : Nat → Int32 → Int32 → Int32 → Option (Int32)
  | 0, _, _, _ => none
  | n + 1, v1, v2, v3 => sX0_squeeze_7 x0 x1 (lX0_squeeze_7 x0 x1 n) v1 v2 v3
noncomputable def pX0_squeeze (x0 : Int32) (x1 : Int32) : Option (Int32) :=
  lX0_squeeze_7 x0 x1 am_fu (0 : Int32) (0 : Int32) (0 : Int32)
noncomputable def sX0_moveTargets_14 (R : am_R) (a0 : Nat) (x1 : Int32) (x2 : Int32) (x3 : Int32) (ih6 : Int32 → am_I → Option (am_I)) (v4 : Int32) (J5 : am_I) : Option (am_I) :=
  if (3 : Int32) ≤ v4 then (
    some J5) else (
    Option.bind (pX0_targetsOf R J5 a0 x1 v4) (fun r9 =>
    Option.bind (pX0_squeeze r9 x3) (fun r10 =>
    am_ck (am_inb ((x2 * (3 : Int32)) + v4) 18) (
    am_let (am_upI J5 (R a0 3) (Int32.toNatClampNeg ((x2 * (3 : Int32)) + v4)) r10) (fun J11 =>
    ih6 (v4 + (1 : Int32)) J11)))))
noncomputable def lX0_moveTargets_14 (R : am_R) (a0 : Nat) (x1 : Int32) (x2 : Int32) (x3 : Int32) : Nat → Int32 → am_I → Option (am_I)
  | 0, _, _ => none
  | n + 1, v4, J5 => sX0_moveTargets_14 R a0 x1 x2 x3 (lX0_moveTargets_14 R a0 x1 x2 x3 n) v4 J5
noncomputable def pX0_moveTargets (R : am_R) (I : am_I) (a0 : Nat) (x1 : Int32) (x2 : Int32) (x3 : Int32) : Option (am_I) :=
  if x2 < 0 then (
    some I) else (
    if x2 < (6 : Int32) then (
      lX0_moveTargets_14 R a0 x1 x2 x3 am_fu (0 : Int32) I) else (
      some I))
noncomputable def sX0_keepOnly_40 (R : am_R) (a0 : Nat) (x1 : Int32) (v2 : Int32) (j5 : am_I → Option (am_I)) (ih15 : Int32 → am_I → Option (am_I)) (v13 : Int32) (J14 : am_I) : Option (am_I) :=
  if (18 : Int32) ≤ v13 then (
    j5 J14) else (
    am_ck (am_inb v13 18) (
    am_let (am_upI J14 (R a0 3) (Int32.toNatClampNeg v13) (0 : Int32)) (fun J19 =>
    ih15 (v13 + (1 : Int32)) J19)))
noncomputable def lX0_keepOnly_40 (R : am_R) (a0 : Nat) (x1 : Int32) (v2 : Int32) (j5 : am_I → Option (am_I)) : Nat → Int32 → am_I → Option (am_I)
  | 0, _, _ => none
  | n + 1, v13, J14 => sX0_keepOnly_40 R a0 x1 v2 j5 (lX0_keepOnly_40 R a0 x1 v2 j5 n) v13 J14
noncomputable def sX0_keepOnly_4 (R : am_R) (a0 : Nat) (x1 : Int32) (j1 : Int32 → am_I → Option (am_I)) (ih24 : Int32 → Int32 → am_I → Option (am_I)) (v21 : Int32) (v22 : Int32) (J23 : am_I) : Option (am_I) :=
  if (J23 a0 0) ≤ v22 then (
    j1 v21 J23) else (
    Option.bind (pX10_contains x1 v22) (fun r26 =>
    am_jn (fun (v28 : Int32) (J29 : am_I) =>
  ih24 v28 (v22 + (1 : Int32)) J29) (fun j27 =>
    if r26 = 0 then (
      j27 v21 J23) else (
      Option.bind (pX0_moveTargets R J23 a0 v22 v21 x1) (fun r31 =>
      j27 (v21 + (1 : Int32)) r31)))))
noncomputable def lX0_keepOnly_4 (R : am_R) (a0 : Nat) (x1 : Int32) (j1 : Int32 → am_I → Option (am_I)) : Nat → Int32 → Int32 → am_I → Option (am_I)
  | 0, _, _, _ => none
  | n + 1, v21, v22, J23 => sX0_keepOnly_4 R a0 x1 j1 (lX0_keepOnly_4 R a0 x1 j1 n) v21 v22 J23
noncomputable def pX0_keepOnly (R : am_R) (I : am_I) (a0 : Nat) (x1 : Int32) : Option (am_I) :=
  am_jn (fun (v2 : Int32) (J3 : am_I) =>
  am_let (v2 * (3 : Int32)) (fun v4 =>
  am_jn (fun (J6 : am_I) =>
  Option.bind (pX0_squeeze (J6 a0 1) x1) (fun r7 =>
  am_let (am_upI J6 a0 1 r7) (fun J8 =>
  Option.bind (pX0_squeeze (J8 a0 2) x1) (fun r9 =>
  am_let (am_upI J8 a0 2 r9) (fun J10 =>
  am_let (am_upI J10 a0 0 v2) (fun J11 =>
  some J11)))))) (fun j5 =>
  lX0_keepOnly_40 R a0 x1 v2 j5 am_fu v4 J3))) (fun j1 =>
  lX0_keepOnly_4 R a0 x1 j1 am_fu (0 : Int32) (0 : Int32) I)
noncomputable def pX1_sum (x0 : Int64) (x2 : Int64) : Option (Int64) :=
  if (lg_cmp x0 (0 : Int64)) < 0 then (
    some (-6 : Int64)) else (
    if (lg_cmp x2 (0 : Int64)) < 0 then (
      some (-6 : Int64)) else (
      if 0 ≤ (lg_cmp (x0 + x2) (0 : Int64)) then (
        some (x0 + x2)) else (
        some (-6 : Int64))))
noncomputable def sX1_startPaths_2 (R : am_R) (I : am_I) (a0 : Nat) (a1 : Nat) (ih5 : Int32 → am_L → Option (am_L)) (v3 : Int32) (J4 : am_L) : Option (am_L) :=
  if (6 : Int32) ≤ v3 then (
    some J4) else (
    Option.bind (pX10_contains (I a1 1) v3) (fun r8 =>
    am_let (if r8 = 0 then (0 : Int64) else (1 : Int64)) (fun v9 =>
    am_ck (am_inb v3 6) (
    am_let (am_upL J4 (R a0 0) (Int32.toNatClampNeg v3) v9) (fun J11 =>
    am_ck (am_inb v3 6) (
    am_let (am_upL J11 (R a0 1) (Int32.toNatClampNeg v3) (0 : Int64)) (fun J13 =>
    ih5 (v3 + (1 : Int32)) J13)))))))
noncomputable def lX1_startPaths_2 (R : am_R) (I : am_I) (a0 : Nat) (a1 : Nat) : Nat → Int32 → am_L → Option (am_L)
  | 0, _, _ => none
  | n + 1, v3, J4 => sX1_startPaths_2 R I a0 a1 (lX1_startPaths_2 R I a0 a1 n) v3 J4
noncomputable def pX1_startPaths (R : am_R) (I : am_I) (L : am_L) (a0 : Nat) (a1 : Nat) : Option (am_L) :=
  lX1_startPaths_2 R I a0 a1 am_fu (0 : Int32) L
noncomputable def pX8_hasPosition (R : am_R) (I : am_I) (a0 : Nat) (x1 : Int32) : Option (Int32) :=
  if x1 < 0 then (
    some (0 : Int32)) else (
    if (I a0 0) ≤ x1 then (
      some (0 : Int32)) else (
      if (216 : Int32) ≤ x1 then (
        some (0 : Int32)) else (
        some (1 : Int32))))
noncomputable def pX8_letterAt (R : am_R) (I : am_I) (a0 : Nat) (x1 : Int32) : Option (Int32) :=
  Option.bind (pX8_hasPosition R I a0 x1) (fun r1 =>
  if r1 = 0 then (
    some (0 : Int32)) else (
    am_ck (am_inb x1 216) (
    some (I (R a0 1) (Int32.toNatClampNeg x1)))))
noncomputable def sX1_extendPathsBy_19 (R : am_R) (I : am_I) (a0 : Nat) (a1 : Nat) (x2 : Int32) (v3 : Int32) (r7 : Int32) (j8 : am_L → Option (am_L)) (ih14 : Int32 → am_L → Option (am_L)) (v12 : Int32) (J13 : am_L) : Option (am_L) :=
  if (6 : Int32) ≤ v12 then (
    j8 J13) else (
    Option.bind (pX10_contains r7 v12) (fun r16 =>
    am_jn (fun (J18 : am_L) =>
  ih14 (v12 + (1 : Int32)) J18) (fun j17 =>
    if r16 = 0 then (
      j17 J13) else (
      am_ck (am_inb v12 6) (
      am_ck (am_inb v3 6) (
      Option.bind (pX1_sum (J13 (R a0 1) (Int32.toNatClampNeg v12)) (J13 (R a0 0) (Int32.toNatClampNeg v3))) (fun r23 =>
      am_ck (am_inb v12 6) (
      am_let (am_upL J13 (R a0 1) (Int32.toNatClampNeg v12) r23) (fun J24 =>
      j17 J24)))))))))
noncomputable def lX1_extendPathsBy_19 (R : am_R) (I : am_I) (a0 : Nat) (a1 : Nat) (x2 : Int32) (v3 : Int32) (r7 : Int32) (j8 : am_L → Option (am_L)) : Nat → Int32 → am_L → Option (am_L)
  | 0, _, _ => none
  | n + 1, v12, J13 => sX1_extendPathsBy_19 R I a0 a1 x2 v3 r7 j8 (lX1_extendPathsBy_19 R I a0 a1 x2 v3 r7 j8 n) v12 J13
noncomputable def sX1_extendPathsBy_2 (R : am_R) (I : am_I) (a0 : Nat) (a1 : Nat) (x2 : Int32) (ih5 : Int32 → am_L → Option (am_L)) (v3 : Int32) (J4 : am_L) : Option (am_L) :=
  if (6 : Int32) ≤ v3 then (
    some J4) else (
    Option.bind (pX0_targetsOf R I a1 v3 x2) (fun r7 =>
    am_jn (fun (J9 : am_L) =>
  ih5 (v3 + (1 : Int32)) J9) (fun j8 =>
    lX1_extendPathsBy_19 R I a0 a1 x2 v3 r7 j8 am_fu (0 : Int32) J4)))
noncomputable def lX1_extendPathsBy_2 (R : am_R) (I : am_I) (a0 : Nat) (a1 : Nat) (x2 : Int32) : Nat → Int32 → am_L → Option (am_L)
  | 0, _, _ => none
  | n + 1, v3, J4 => sX1_extendPathsBy_2 R I a0 a1 x2 (lX1_extendPathsBy_2 R I a0 a1 x2 n) v3 J4
noncomputable def pX1_extendPathsBy (R : am_R) (I : am_I) (L : am_L) (a0 : Nat) (a1 : Nat) (x2 : Int32) : Option (am_L) :=
  lX1_extendPathsBy_2 R I a0 a1 x2 am_fu (0 : Int32) L
noncomputable def sX1_takeNextPaths_2 (R : am_R) (a0 : Nat) (ih4 : Int32 → am_L → Option (am_L)) (v2 : Int32) (J3 : am_L) : Option (am_L) :=
  if (6 : Int32) ≤ v2 then (
    some J3) else (
    am_ck (am_inb v2 6) (
    am_ck (am_inb v2 6) (
    am_let (am_upL J3 (R a0 0) (Int32.toNatClampNeg v2) (J3 (R a0 1) (Int32.toNatClampNeg v2))) (fun J8 =>
    am_ck (am_inb v2 6) (
    am_let (am_upL J8 (R a0 1) (Int32.toNatClampNeg v2) (0 : Int64)) (fun J10 =>
    ih4 (v2 + (1 : Int32)) J10))))))
noncomputable def lX1_takeNextPaths_2 (R : am_R) (a0 : Nat) : Nat → Int32 → am_L → Option (am_L)
  | 0, _, _ => none
  | n + 1, v2, J3 => sX1_takeNextPaths_2 R a0 (lX1_takeNextPaths_2 R a0 n) v2 J3
noncomputable def pX1_takeNextPaths (R : am_R) (L : am_L) (a0 : Nat) : Option (am_L) :=
  lX1_takeNextPaths_2 R a0 am_fu (0 : Int32) L
noncomputable def sX1_acceptedPaths_5 (R : am_R) (I : am_I) (L : am_L) (a0 : Nat) (a1 : Nat) (ih5 : Int64 → Int32 → Option (Int64)) (v3 : Int64) (v4 : Int32) : Option (Int64) :=
  if (6 : Int32) ≤ v4 then (
    some v3) else (
    Option.bind (pX10_contains (I a1 2) v4) (fun r7 =>
    am_jn (fun (v9 : Int64) =>
  ih5 v9 (v4 + (1 : Int32))) (fun j8 =>
    if r7 = 0 then (
      j8 v3) else (
      am_ck (am_inb v4 6) (
      Option.bind (pX1_sum v3 (L (R a0 0) (Int32.toNatClampNeg v4))) (fun r12 =>
      j8 r12))))))
noncomputable def lX1_acceptedPaths_5 (R : am_R) (I : am_I) (L : am_L) (a0 : Nat) (a1 : Nat) : Nat → Int64 → Int32 → Option (Int64)
  | 0, _, _ => none
  | n + 1, v3, v4 => sX1_acceptedPaths_5 R I L a0 a1 (lX1_acceptedPaths_5 R I L a0 a1 n) v3 v4
noncomputable def pX1_acceptedPaths (R : am_R) (I : am_I) (L : am_L) (a0 : Nat) (a1 : Nat) : Option (Int64) :=
  lX1_acceptedPaths_5 R I L a0 a1 am_fu (0 : Int64) (0 : Int32)
noncomputable def sX1_pathsOf_7 (R : am_R) (I : am_I) (a0 : Nat) (a1 : Nat) (a2 : Nat) (j2 : am_L → Option (Int64 × am_L)) (ih10 : Int32 → am_L → Option (Int64 × am_L)) (v8 : Int32) (J9 : am_L) : Option (Int64 × am_L) :=
  if (I a2 0) ≤ v8 then (
    j2 J9) else (
    Option.bind (pX8_letterAt R I a2 v8) (fun r12 =>
    Option.bind (pX1_extendPathsBy R I J9 a0 a1 r12) (fun r13 =>
    Option.bind (pX1_takeNextPaths R r13 a0) (fun r14 =>
    ih10 (v8 + (1 : Int32)) r14))))
noncomputable def lX1_pathsOf_7 (R : am_R) (I : am_I) (a0 : Nat) (a1 : Nat) (a2 : Nat) (j2 : am_L → Option (Int64 × am_L)) : Nat → Int32 → am_L → Option (Int64 × am_L)
  | 0, _, _ => none
  | n + 1, v8, J9 => sX1_pathsOf_7 R I a0 a1 a2 j2 (lX1_pathsOf_7 R I a0 a1 a2 j2 n) v8 J9
noncomputable def pX1_pathsOf (R : am_R) (I : am_I) (L : am_L) (a0 : Nat) (a1 : Nat) (a2 : Nat) : Option (Int64 × am_L) :=
  Option.bind (pX1_startPaths R I L a0 a1) (fun r1 =>
  am_jn (fun (J3 : am_L) =>
  Option.bind (pX1_acceptedPaths R I J3 a0 a1) (fun r4 =>
  some (r4, J3))) (fun j2 =>
  lX1_pathsOf_7 R I a0 a1 a2 j2 am_fu (0 : Int32) r1))
noncomputable def sX1_extendPaths_2 (R : am_R) (I : am_I) (a0 : Nat) (a1 : Nat) (j1 : am_L → Option (am_L)) (ih8 : Int32 → am_L → Option (am_L)) (v6 : Int32) (J7 : am_L) : Option (am_L) :=
  if (3 : Int32) ≤ v6 then (
    j1 J7) else (
    Option.bind (pX1_extendPathsBy R I J7 a0 a1 v6) (fun r10 =>
    ih8 (v6 + (1 : Int32)) r10))
noncomputable def lX1_extendPaths_2 (R : am_R) (I : am_I) (a0 : Nat) (a1 : Nat) (j1 : am_L → Option (am_L)) : Nat → Int32 → am_L → Option (am_L)
  | 0, _, _ => none
  | n + 1, v6, J7 => sX1_extendPaths_2 R I a0 a1 j1 (lX1_extendPaths_2 R I a0 a1 j1 n) v6 J7
noncomputable def pX1_extendPaths (R : am_R) (I : am_I) (L : am_L) (a0 : Nat) (a1 : Nat) : Option (am_L) :=
  am_jn (fun (J2 : am_L) =>
  Option.bind (pX1_takeNextPaths R J2 a0) (fun r3 =>
  some r3)) (fun j1 =>
  lX1_extendPaths_2 R I a0 a1 j1 am_fu (0 : Int32) L)
noncomputable def sX1_countPaths_7 (R : am_R) (I : am_I) (a0 : Nat) (a1 : Nat) (x2 : Int32) (j2 : am_L → Option (Int64 × am_L)) (ih9 : Int32 → am_L → Option (Int64 × am_L)) (v7 : Int32) (J8 : am_L) : Option (Int64 × am_L) :=
  if x2 ≤ v7 then (
    j2 J8) else (
    Option.bind (pX1_extendPaths R I J8 a0 a1) (fun r11 =>
    ih9 (v7 + (1 : Int32)) r11))
noncomputable def lX1_countPaths_7 (R : am_R) (I : am_I) (a0 : Nat) (a1 : Nat) (x2 : Int32) (j2 : am_L → Option (Int64 × am_L)) : Nat → Int32 → am_L → Option (Int64 × am_L)
  | 0, _, _ => none
  | n + 1, v7, J8 => sX1_countPaths_7 R I a0 a1 x2 j2 (lX1_countPaths_7 R I a0 a1 x2 j2 n) v7 J8
noncomputable def pX1_countPaths (R : am_R) (I : am_I) (L : am_L) (a0 : Nat) (a1 : Nat) (x2 : Int32) : Option (Int64 × am_L) :=
  Option.bind (pX1_startPaths R I L a0 a1) (fun r1 =>
  am_jn (fun (J3 : am_L) =>
  Option.bind (pX1_acceptedPaths R I J3 a0 a1) (fun r4 =>
  some (r4, J3))) (fun j2 =>
  lX1_countPaths_7 R I a0 a1 x2 j2 am_fu (0 : Int32) r1))
noncomputable def sX1_fillCounts_8 (R : am_R) (I : am_I) (a0 : Nat) (a1 : Nat) (a2 : Nat) (x3 : Int32) (ih7 : Int32 → am_L → Option (Int32 × am_L)) (v5 : Int32) (J6 : am_L) : Option (Int32 × am_L) :=
  if x3 ≤ v5 then (
    some ((1 : Int32), J6)) else (
    if (31 : Int32) ≤ v5 then (
      some ((1 : Int32), J6)) else (
      Option.bind (pX1_acceptedPaths R I J6 a0 a1) (fun r10 =>
      am_ck (am_inb v5 31) (
      am_let (am_upL J6 a2 (Int32.toNatClampNeg v5) r10) (fun J11 =>
      am_ck (am_inb v5 31) (
      if 0 ≤ (lg_cmp (J11 a2 (Int32.toNatClampNeg v5)) (0 : Int64)) then (
        Option.bind (pX1_extendPaths R I J11 a0 a1) (fun r13 =>
        ih7 (v5 + (1 : Int32)) r13)) else (
        some ((0 : Int32), J11))))))))
noncomputable def lX1_fillCounts_8 (R : am_R) (I : am_I) (a0 : Nat) (a1 : Nat) (a2 : Nat) (x3 : Int32) : Nat → Int32 → am_L → Option (Int32 × am_L)
  | 0, _, _ => none
  | n + 1, v5, J6 => sX1_fillCounts_8 R I a0 a1 a2 x3 (lX1_fillCounts_8 R I a0 a1 a2 x3 n) v5 J6
noncomputable def pX1_fillCounts (R : am_R) (I : am_I) (L : am_L) (a0 : Nat) (a1 : Nat) (a2 : Nat) (x3 : Int32) : Option (Int32 × am_L) :=
  Option.bind (pX1_startPaths R I L a0 a1) (fun r1 =>
  lX1_fillCounts_8 R I a0 a1 a2 x3 am_fu (0 : Int32) r1)
noncomputable def pX6_reachedOnce (R : am_R) (I : am_I) (a0 : Nat) (x1 : Int32) (x2 : Int32) : Option (Int32) :=
  am_let (if x1 < 0 then (0 : Int32) else (if (64 : Int32) ≤ x1 then (0 : Int32) else (if x2 < 0 then (0 : Int32) else (if (3 : Int32) ≤ x2 then (0 : Int32) else (1 : Int32))))) (fun v1 =>
  if v1 = 0 then (
    some (0 : Int32)) else (
    am_ck (am_inb ((x2 * (64 : Int32)) + x1) 192) (
    some (I (R a0 0) (Int32.toNatClampNeg ((x2 * (64 : Int32)) + x1))))))
noncomputable def sX1_extendWords_104 (R : am_R) (I : am_I) (a0 : Nat) (ih8 : Int32 → am_L → Option (am_L)) (v6 : Int32) (J7 : am_L) : Option (am_L) :=
  if (64 : Int32) ≤ v6 then (
    some J7) else (
    am_ck (am_inb v6 64) (
    am_ck (am_inb v6 64) (
    am_let (am_upL J7 (R a0 2) (Int32.toNatClampNeg v6) (J7 (R a0 3) (Int32.toNatClampNeg v6))) (fun J12 =>
    ih8 (v6 + (1 : Int32)) J12))))
noncomputable def lX1_extendWords_104 (R : am_R) (I : am_I) (a0 : Nat) : Nat → Int32 → am_L → Option (am_L)
  | 0, _, _ => none
  | n + 1, v6, J7 => sX1_extendWords_104 R I a0 (lX1_extendWords_104 R I a0 n) v6 J7
noncomputable def sX1_extendWords_31 (R : am_R) (I : am_I) (a0 : Nat) (a1 : Nat) (v15 : Int32) (j19 : am_L → Option (am_L)) (ih25 : Int32 → am_L → Option (am_L)) (v23 : Int32) (J24 : am_L) : Option (am_L) :=
  am_ck (am_inb v15 64) (
  if (lg_cmp (J24 (R a0 2) (Int32.toNatClampNeg v15)) (0 : Int64)) = 0 then (
    j19 J24) else (
    if (3 : Int32) ≤ v23 then (
      j19 J24) else (
      Option.bind (pX6_reachedOnce R I a1 v15 v23) (fun r29 =>
      am_jn (fun (J31 : am_L) =>
  ih25 (v23 + (1 : Int32)) J31) (fun j30 =>
      if r29 < 0 then (
        j30 J24) else (
        if (64 : Int32) ≤ r29 then (
          j30 J24) else (
          am_ck (am_inb r29 64) (
          am_ck (am_inb v15 64) (
          Option.bind (pX1_sum (J24 (R a0 3) (Int32.toNatClampNeg r29)) (J24 (R a0 2) (Int32.toNatClampNeg v15))) (fun r37 =>
          am_ck (am_inb r29 64) (
          am_let (am_upL J24 (R a0 3) (Int32.toNatClampNeg r29) r37) (fun J38 =>
          j30 J38))))))))))))
noncomputable def lX1_extendWords_31 (R : am_R) (I : am_I) (a0 : Nat) (a1 : Nat) (v15 : Int32) (j19 : am_L → Option (am_L)) : Nat → Int32 → am_L → Option (am_L)
  | 0, _, _ => none
  | n + 1, v23, J24 => sX1_extendWords_31 R I a0 a1 v15 j19 (lX1_extendWords_31 R I a0 a1 v15 j19 n) v23 J24
noncomputable def sX1_extendWords_23 (R : am_R) (I : am_I) (a0 : Nat) (a1 : Nat) (j3 : am_L → Option (am_L)) (ih17 : Int32 → am_L → Option (am_L)) (v15 : Int32) (J16 : am_L) : Option (am_L) :=
  if (64 : Int32) ≤ v15 then (
    j3 J16) else (
    am_jn (fun (J20 : am_L) =>
  ih17 (v15 + (1 : Int32)) J20) (fun j19 =>
    lX1_extendWords_31 R I a0 a1 v15 j19 am_fu (0 : Int32) J16))
noncomputable def lX1_extendWords_23 (R : am_R) (I : am_I) (a0 : Nat) (a1 : Nat) (j3 : am_L → Option (am_L)) : Nat → Int32 → am_L → Option (am_L)
  | 0, _, _ => none
  | n + 1, v15, J16 => sX1_extendWords_23 R I a0 a1 j3 (lX1_extendWords_23 R I a0 a1 j3 n) v15 J16
noncomputable def sX1_extendWords_2 (R : am_R) (I : am_I) (a0 : Nat) (a1 : Nat) (j1 : am_L → Option (am_L)) (ih43 : Int32 → am_L → Option (am_L)) (v41 : Int32) (J42 : am_L) : Option (am_L) :=
  if (64 : Int32) ≤ v41 then (
    j1 J42) else (
    am_ck (am_inb v41 64) (
    am_let (am_upL J42 (R a0 3) (Int32.toNatClampNeg v41) (0 : Int64)) (fun J46 =>
    ih43 (v41 + (1 : Int32)) J46)))
noncomputable def lX1_extendWords_2 (R : am_R) (I : am_I) (a0 : Nat) (a1 : Nat) (j1 : am_L → Option (am_L)) : Nat → Int32 → am_L → Option (am_L)
  | 0, _, _ => none
  | n + 1, v41, J42 => sX1_extendWords_2 R I a0 a1 j1 (lX1_extendWords_2 R I a0 a1 j1 n) v41 J42
noncomputable def pX1_extendWords (R : am_R) (I : am_I) (L : am_L) (a0 : Nat) (a1 : Nat) : Option (am_L) :=
  am_jn (fun (J2 : am_L) =>
  am_jn (fun (J4 : am_L) =>
  lX1_extendWords_104 R I a0 am_fu (0 : Int32) J4) (fun j3 =>
  lX1_extendWords_23 R I a0 a1 j3 am_fu (1 : Int32) J2)) (fun j1 =>
  lX1_extendWords_2 R I a0 a1 j1 am_fu (0 : Int32) L)
noncomputable def sX1_countWords_63 (R : am_R) (I : am_I) (a0 : Nat) (a1 : Nat) (J4 : am_L) (ih9 : Int64 → Int32 → Option (Int64 × am_L)) (v7 : Int64) (v8 : Int32) : Option (Int64 × am_L) :=
  if (64 : Int32) ≤ v8 then (
    some (v7, J4)) else (
    am_jn (fun (v12 : Int64) =>
  ih9 v12 (v8 + (1 : Int32))) (fun j11 =>
    if (v8 &&& (I a1 2)) = 0 then (
      j11 v7) else (
      am_ck (am_inb v8 64) (
      Option.bind (pX1_sum v7 (J4 (R a0 2) (Int32.toNatClampNeg v8))) (fun r15 =>
      j11 r15)))))
noncomputable def lX1_countWords_63 (R : am_R) (I : am_I) (a0 : Nat) (a1 : Nat) (J4 : am_L) : Nat → Int64 → Int32 → Option (Int64 × am_L)
  | 0, _, _ => none
  | n + 1, v7, v8 => sX1_countWords_63 R I a0 a1 J4 (lX1_countWords_63 R I a0 a1 J4 n) v7 v8
noncomputable def sX1_countWords_40 (R : am_R) (I : am_I) (a0 : Nat) (a1 : Nat) (a2 : Nat) (x3 : Int32) (j3 : am_L → Option (Int64 × am_L)) (ih21 : Int32 → am_L → Option (Int64 × am_L)) (v19 : Int32) (J20 : am_L) : Option (Int64 × am_L) :=
  if x3 ≤ v19 then (
    j3 J20) else (
    Option.bind (pX1_extendWords R I J20 a0 a2) (fun r23 =>
    ih21 (v19 + (1 : Int32)) r23))
noncomputable def lX1_countWords_40 (R : am_R) (I : am_I) (a0 : Nat) (a1 : Nat) (a2 : Nat) (x3 : Int32) (j3 : am_L → Option (Int64 × am_L)) : Nat → Int32 → am_L → Option (Int64 × am_L)
  | 0, _, _ => none
  | n + 1, v19, J20 => sX1_countWords_40 R I a0 a1 a2 x3 j3 (lX1_countWords_40 R I a0 a1 a2 x3 j3 n) v19 J20
noncomputable def sX1_countWords_3 (R : am_R) (I : am_I) (a0 : Nat) (a1 : Nat) (a2 : Nat) (x3 : Int32) (j1 : am_L → Option (Int64 × am_L)) (ih29 : Int32 → am_L → Option (Int64 × am_L)) (v27 : Int32) (J28 : am_L) : Option (Int64 × am_L) :=
  if (64 : Int32) ≤ v27 then (
    j1 J28) else (
    am_let (if v27 = (I a1 1) then (1 : Int64) else (0 : Int64)) (fun v32 =>
    am_ck (am_inb v27 64) (
    am_let (am_upL J28 (R a0 2) (Int32.toNatClampNeg v27) v32) (fun J34 =>
    ih29 (v27 + (1 : Int32)) J34))))
noncomputable def lX1_countWords_3 (R : am_R) (I : am_I) (a0 : Nat) (a1 : Nat) (a2 : Nat) (x3 : Int32) (j1 : am_L → Option (Int64 × am_L)) : Nat → Int32 → am_L → Option (Int64 × am_L)
  | 0, _, _ => none
  | n + 1, v27, J28 => sX1_countWords_3 R I a0 a1 a2 x3 j1 (lX1_countWords_3 R I a0 a1 a2 x3 j1 n) v27 J28
noncomputable def pX1_countWords (R : am_R) (I : am_I) (L : am_L) (a0 : Nat) (a1 : Nat) (a2 : Nat) (x3 : Int32) : Option (Int64 × am_L) :=
  am_jn (fun (J2 : am_L) =>
  am_jn (fun (J4 : am_L) =>
  lX1_countWords_63 R I a0 a1 J4 am_fu (0 : Int64) (0 : Int32)) (fun j3 =>
  lX1_countWords_40 R I a0 a1 a2 x3 j3 am_fu (0 : Int32) J2)) (fun j1 =>
  lX1_countWords_3 R I a0 a1 a2 x3 j1 am_fu (0 : Int32) L)
noncomputable def sX1_bitsOfQuotient_20 (j3 : UInt64 → Int32 → Option (Int64)) (ih9 : UInt64 → Int32 → Option (Int64)) (v7 : UInt64) (v8 : Int32) : Option (Int64) :=
  if (Op.cmpValue (FP.dcmp v7 (4611686018427387904 : UInt64)) .l) < 0 then (
    j3 v7 v8) else (
    if (64 : Int32) ≤ v8 then (
      j3 v7 v8) else (
      am_ck (decide ((FP.ddiv v7 (4611686018427387904 : UInt64)) &&& 0x7fffffffffffffff ≤ 0x7ff0000000000000)) (
      am_let (FP.ddiv v7 (4611686018427387904 : UInt64)) (fun v12 =>
      ih9 v12 (v8 + (1 : Int32))))))
noncomputable def lX1_bitsOfQuotient_20 (j3 : UInt64 → Int32 → Option (Int64)) : Nat → UInt64 → Int32 → Option (Int64)
  | 0, _, _ => none
  | n + 1, v7, v8 => sX1_bitsOfQuotient_20 j3 (lX1_bitsOfQuotient_20 j3 n) v7 v8
noncomputable def pX1_bitsOfQuotient (x0 : Int64) (x2 : Int64) : Option (Int64) :=
  if 0 < (lg_cmp x2 (0 : Int64)) then (
    am_ck (decide ((FP.ddiv (FP.l2d x0) (FP.l2d x2)) &&& 0x7fffffffffffffff ≤ 0x7ff0000000000000)) (
    am_let (FP.ddiv (FP.l2d x0) (FP.l2d x2)) (fun v2 =>
    am_jn (fun (v4 : UInt64) (v5 : Int32) =>
  am_ck (decide ((FP.dsub v4 (FP.dconst1)) &&& 0x7fffffffffffffff ≤ 0x7ff0000000000000)) (
  am_ck (decide ((FP.dmul (FP.dsub v4 (FP.dconst1)) (4841369599423283200 : UInt64)) &&& 0x7fffffffffffffff ≤ 0x7ff0000000000000)) (
  am_let (FP.d2l (FP.dmul (FP.dsub v4 (FP.dconst1)) (4841369599423283200 : UInt64))) (fun v6 =>
  some (((Int32.toInt64 ((1023 : Int32) + v5)) <<< (Int32.toInt64 (52 : Int32) &&& 63)) + v6))))) (fun j3 =>
    lX1_bitsOfQuotient_20 j3 am_fu v2 (0 : Int32))))) else (
    some (9221120237041090560 : Int64))
noncomputable def sX2_cheapest_5 (R : am_R) (I : am_I) (a0 : Nat) (x1 : Int32) (ih4 : Int32 → Int32 → Option (Int32)) (v2 : Int32) (v3 : Int32) : Option (Int32) :=
  if (6 : Int32) ≤ v3 then (
    some v2) else (
    Option.bind (pX10_contains x1 v3) (fun r6 =>
    am_jn (fun (v8 : Int32) =>
  ih4 v8 (v3 + (1 : Int32))) (fun j7 =>
    if r6 = 0 then (
      j7 v2) else (
      am_ck (am_inb v3 6) (
      j7 (if (I (R a0 0) (Int32.toNatClampNeg v3)) < v2 then (I (R a0 0) (Int32.toNatClampNeg v3)) else v2))))))
noncomputable def lX2_cheapest_5 (R : am_R) (I : am_I) (a0 : Nat) (x1 : Int32) : Nat → Int32 → Int32 → Option (Int32)
  | 0, _, _ => none
  | n + 1, v2, v3 => sX2_cheapest_5 R I a0 x1 (lX2_cheapest_5 R I a0 x1 n) v2 v3
noncomputable def pX2_cheapest (R : am_R) (I : am_I) (a0 : Nat) (x1 : Int32) : Option (Int32) :=
  lX2_cheapest_5 R I a0 x1 am_fu (1000000 : Int32) (0 : Int32)
noncomputable def pX2_price (I : am_I) (a0 : Nat) (x1 : Int32) : Option (Int32) :=
  if x1 < 0 then (
    some (1 : Int32)) else (
    if (3 : Int32) ≤ x1 then (
      some (1 : Int32)) else (
      am_ck (am_inb x1 3) (
      some (((I a0 (Int32.toNatClampNeg x1)) * (64 : Int32)) + (1 : Int32)))))
noncomputable def sX2_computeCosts_60 (R : am_R) (a0 : Nat) (a1 : Nat) (a2 : Nat) (v6 : Int32) (v15 : Int32) (j19 : am_I → Option (am_I)) (ih26 : Int32 → am_I → Option (am_I)) (v24 : Int32) (J25 : am_I) : Option (am_I) :=
  if (3 : Int32) ≤ v24 then (
    j19 J25) else (
    Option.bind (pX0_targetsOf R J25 a1 v15 v24) (fun r28 =>
    Option.bind (pX2_cheapest R J25 a0 r28) (fun r29 =>
    am_ck (am_inb v15 6) (
    Option.bind (pX2_price J25 a2 v24) (fun r32 =>
    am_ck (am_inb v15 6) (
    am_let (am_upI J25 (R a0 0) (Int32.toNatClampNeg v15) (if (r29 + r32) < (J25 (R a0 0) (Int32.toNatClampNeg v15)) then (r29 + r32) else (J25 (R a0 0) (Int32.toNatClampNeg v15)))) (fun J33 =>
    ih26 (v24 + (1 : Int32)) J33)))))))
noncomputable def lX2_computeCosts_60 (R : am_R) (a0 : Nat) (a1 : Nat) (a2 : Nat) (v6 : Int32) (v15 : Int32) (j19 : am_I → Option (am_I)) : Nat → Int32 → am_I → Option (am_I)
  | 0, _, _ => none
  | n + 1, v24, J25 => sX2_computeCosts_60 R a0 a1 a2 v6 v15 j19 (lX2_computeCosts_60 R a0 a1 a2 v6 v15 j19 n) v24 J25
noncomputable def sX2_computeCosts_50 (R : am_R) (a0 : Nat) (a1 : Nat) (a2 : Nat) (v6 : Int32) (j10 : am_I → Option (am_I)) (ih17 : Int32 → am_I → Option (am_I)) (v15 : Int32) (J16 : am_I) : Option (am_I) :=
  if (6 : Int32) ≤ v15 then (
    j10 J16) else (
    am_jn (fun (J20 : am_I) =>
  ih17 (v15 + (1 : Int32)) J20) (fun j19 =>
    lX2_computeCosts_60 R a0 a1 a2 v6 v15 j19 am_fu (0 : Int32) J16))
noncomputable def lX2_computeCosts_50 (R : am_R) (a0 : Nat) (a1 : Nat) (a2 : Nat) (v6 : Int32) (j10 : am_I → Option (am_I)) : Nat → Int32 → am_I → Option (am_I)
  | 0, _, _ => none
  | n + 1, v15, J16 => sX2_computeCosts_50 R a0 a1 a2 v6 j10 (lX2_computeCosts_50 R a0 a1 a2 v6 j10 n) v15 J16
noncomputable def sX2_computeCosts_39 (R : am_R) (a0 : Nat) (a1 : Nat) (a2 : Nat) (ih8 : Int32 → am_I → Option (am_I)) (v6 : Int32) (J7 : am_I) : Option (am_I) :=
  if (J7 a1 0) ≤ v6 then (
    some J7) else (
    am_jn (fun (J11 : am_I) =>
  ih8 (v6 + (1 : Int32)) J11) (fun j10 =>
    lX2_computeCosts_50 R a0 a1 a2 v6 j10 am_fu (0 : Int32) J7))
noncomputable def lX2_computeCosts_39 (R : am_R) (a0 : Nat) (a1 : Nat) (a2 : Nat) : Nat → Int32 → am_I → Option (am_I)
  | 0, _, _ => none
  | n + 1, v6, J7 => sX2_computeCosts_39 R a0 a1 a2 (lX2_computeCosts_39 R a0 a1 a2 n) v6 J7
noncomputable def sX2_computeCosts_2 (R : am_R) (a0 : Nat) (a1 : Nat) (a2 : Nat) (j1 : am_I → Option (am_I)) (ih39 : Int32 → am_I → Option (am_I)) (v37 : Int32) (J38 : am_I) : Option (am_I) :=
  if (6 : Int32) ≤ v37 then (
    j1 J38) else (
    Option.bind (pX10_contains (J38 a1 2) v37) (fun r42 =>
    am_let (if r42 = 0 then (1000000 : Int32) else (0 : Int32)) (fun v43 =>
    am_ck (am_inb v37 6) (
    am_let (am_upI J38 (R a0 0) (Int32.toNatClampNeg v37) v43) (fun J45 =>
    ih39 (v37 + (1 : Int32)) J45)))))
noncomputable def lX2_computeCosts_2 (R : am_R) (a0 : Nat) (a1 : Nat) (a2 : Nat) (j1 : am_I → Option (am_I)) : Nat → Int32 → am_I → Option (am_I)
  | 0, _, _ => none
  | n + 1, v37, J38 => sX2_computeCosts_2 R a0 a1 a2 j1 (lX2_computeCosts_2 R a0 a1 a2 j1 n) v37 J38
noncomputable def pX2_computeCosts (R : am_R) (I : am_I) (a0 : Nat) (a1 : Nat) (a2 : Nat) : Option (am_I) :=
  am_jn (fun (J2 : am_I) =>
  lX2_computeCosts_39 R a0 a1 a2 am_fu (1 : Int32) J2) (fun j1 =>
  lX2_computeCosts_2 R a0 a1 a2 j1 am_fu (0 : Int32) I)
noncomputable def sX2_statesOfCost_5 (R : am_R) (I : am_I) (a0 : Nat) (x1 : Int32) (x2 : Int32) (ih4 : Int32 → Int32 → Option (Int32)) (v2 : Int32) (v3 : Int32) : Option (Int32) :=
  if (6 : Int32) ≤ v3 then (
    some v2) else (
    Option.bind (pX10_contains x1 v3) (fun r6 =>
    am_jn (fun (v8 : Int32) =>
  am_let (v2 ||| v8) (fun v9 =>
  ih4 v9 (v3 + (1 : Int32)))) (fun j7 =>
    am_jn (
  j7 (0 : Int32)) (fun j10 =>
    if r6 = 0 then (
      j10) else (
      am_ck (am_inb v3 6) (
      if (I (R a0 0) (Int32.toNatClampNeg v3)) = x2 then (
        j7 ((1 : Int32) <<< (v3 &&& 31))) else (
        j10)))))))
noncomputable def lX2_statesOfCost_5 (R : am_R) (I : am_I) (a0 : Nat) (x1 : Int32) (x2 : Int32) : Nat → Int32 → Int32 → Option (Int32)
  | 0, _, _ => none
  | n + 1, v2, v3 => sX2_statesOfCost_5 R I a0 x1 x2 (lX2_statesOfCost_5 R I a0 x1 x2 n) v2 v3
noncomputable def pX2_statesOfCost (R : am_R) (I : am_I) (a0 : Nat) (x1 : Int32) (x2 : Int32) : Option (Int32) :=
  lX2_statesOfCost_5 R I a0 x1 x2 am_fu (0 : Int32) (0 : Int32)
noncomputable def sX2_image_5 (R : am_R) (I : am_I) (a0 : Nat) (x1 : Int32) (x2 : Int32) (ih4 : Int32 → Int32 → Option (Int32)) (v2 : Int32) (v3 : Int32) : Option (Int32) :=
  if (6 : Int32) ≤ v3 then (
    some v2) else (
    Option.bind (pX10_contains x1 v3) (fun r6 =>
    am_jn (fun (v8 : Int32) =>
  am_let (v2 ||| v8) (fun v9 =>
  ih4 v9 (v3 + (1 : Int32)))) (fun j7 =>
    if r6 = 0 then (
      j7 (0 : Int32)) else (
      Option.bind (pX0_targetsOf R I a0 v3 x2) (fun r11 =>
      j7 r11)))))
noncomputable def lX2_image_5 (R : am_R) (I : am_I) (a0 : Nat) (x1 : Int32) (x2 : Int32) : Nat → Int32 → Int32 → Option (Int32)
  | 0, _, _ => none
  | n + 1, v2, v3 => sX2_image_5 R I a0 x1 x2 (lX2_image_5 R I a0 x1 x2 n) v2 v3
noncomputable def pX2_image (R : am_R) (I : am_I) (a0 : Nat) (x1 : Int32) (x2 : Int32) : Option (Int32) :=
  lX2_image_5 R I a0 x1 x2 am_fu (0 : Int32) (0 : Int32)
noncomputable def sX2_firstLetter_3 (R : am_R) (I : am_I) (a0 : Nat) (a1 : Nat) (a2 : Nat) (x3 : Int32) (x4 : Int32) (ih5 : Int32 → Option (Int32)) (v4 : Int32) : Option (Int32) :=
  if (2 : Int32) ≤ v4 then (
    some (2 : Int32)) else (
    Option.bind (pX2_price I a2 v4) (fun r7 =>
    am_let (x4 - r7) (fun v8 =>
    Option.bind (pX2_image R I a1 x3 v4) (fun r9 =>
    Option.bind (pX2_statesOfCost R I a0 r9 v8) (fun r10 =>
    if r10 = 0 then (
      ih5 (v4 + (1 : Int32))) else (
      some v4))))))
noncomputable def lX2_firstLetter_3 (R : am_R) (I : am_I) (a0 : Nat) (a1 : Nat) (a2 : Nat) (x3 : Int32) (x4 : Int32) : Nat → Int32 → Option (Int32)
  | 0, _ => none
  | n + 1, v4 => sX2_firstLetter_3 R I a0 a1 a2 x3 x4 (lX2_firstLetter_3 R I a0 a1 a2 x3 x4 n) v4
noncomputable def pX2_firstLetter (R : am_R) (I : am_I) (a0 : Nat) (a1 : Nat) (a2 : Nat) (x3 : Int32) (x4 : Int32) : Option (Int32) :=
  lX2_firstLetter_3 R I a0 a1 a2 x3 x4 am_fu (0 : Int32)
noncomputable def pX8_setLetter (R : am_R) (I : am_I) (a0 : Nat) (x1 : Int32) (x2 : Int32) : Option (am_I) :=
  Option.bind (pX8_hasPosition R I a0 x1) (fun r1 =>
  if r1 = 0 then (
    some I) else (
    am_ck (am_inb x1 216) (
    am_let (am_upI I (R a0 1) (Int32.toNatClampNeg x1) x2) (fun J4 =>
    some J4))))
noncomputable def pX8_add (R : am_R) (I : am_I) (a0 : Nat) (x1 : Int32) : Option (am_I) :=
  if (216 : Int32) ≤ (I a0 0) then (
    some I) else (
    am_let (am_upI I a0 0 ((I a0 0) + (1 : Int32))) (fun J3 =>
    Option.bind (pX8_setLetter R J3 a0 ((J3 a0 0) - (1 : Int32)) x1) (fun r4 =>
    some r4)))
noncomputable def sX2_find_45 (R : am_R) (a0 : Nat) (a1 : Nat) (a2 : Nat) (a3 : Nat) (ih14 : Int32 → Int32 → Int32 → am_I → Option (Int32 × am_I)) (v10 : Int32) (v11 : Int32) (v12 : Int32) (J13 : am_I) : Option (Int32 × am_I) :=
  if (6 : Int32) ≤ v12 then (
    some ((1 : Int32), J13)) else (
    if v10 ≤ 0 then (
      some ((1 : Int32), J13)) else (
      Option.bind (pX2_firstLetter R J13 a0 a1 a2 v11 v10) (fun r17 =>
      Option.bind (pX2_price J13 a2 r17) (fun r18 =>
      am_let (v10 - r18) (fun v19 =>
      Option.bind (pX2_image R J13 a1 v11 r17) (fun r20 =>
      Option.bind (pX2_statesOfCost R J13 a0 r20 v19) (fun r21 =>
      Option.bind (pX8_add R J13 a3 r17) (fun r22 =>
      ih14 v19 r21 (v12 + (1 : Int32)) r22))))))))
noncomputable def lX2_find_45 (R : am_R) (a0 : Nat) (a1 : Nat) (a2 : Nat) (a3 : Nat) : Nat → Int32 → Int32 → Int32 → am_I → Option (Int32 × am_I)
  | 0, _, _, _, _ => none
  | n + 1, v10, v11, v12, J13 => sX2_find_45 R a0 a1 a2 a3 (lX2_find_45 R a0 a1 a2 a3 n) v10 v11 v12 J13
noncomputable def pX2_find (R : am_R) (I : am_I) (a0 : Nat) (a1 : Nat) (a2 : Nat) (a3 : Nat) : Option (Int32 × am_I) :=
  Option.bind (pX2_computeCosts R I a0 a1 a2) (fun r1 =>
  Option.bind (pX2_cheapest R r1 a0 (r1 a1 1)) (fun r2 =>
  if r2 < (1000000 : Int32) then (
    am_let (am_upI r1 a3 0 (0 : Int32)) (fun J4 =>
    Option.bind (pX2_statesOfCost R J4 a0 (J4 a1 1) r2) (fun r5 =>
    lX2_find_45 R a0 a1 a2 a3 am_fu r2 r5 (0 : Int32) J4))) else (
    some ((0 : Int32), r1))))
noncomputable def sX3_makeEmpty_41 (R : am_R) (a0 : Nat) (J5 : am_L) (ih9 : Int32 → am_I → Option (am_I × am_L)) (v7 : Int32) (J8 : am_I) : Option (am_I × am_L) :=
  if (384 : Int32) ≤ v7 then (
    some (J8, J5)) else (
    am_ck (am_inb v7 384) (
    am_let (am_upI J8 (R a0 5) (Int32.toNatClampNeg v7) (-1 : Int32)) (fun J13 =>
    ih9 (v7 + (1 : Int32)) J13)))
noncomputable def lX3_makeEmpty_41 (R : am_R) (a0 : Nat) (J5 : am_L) : Nat → Int32 → am_I → Option (am_I × am_L)
  | 0, _, _ => none
  | n + 1, v7, J8 => sX3_makeEmpty_41 R a0 J5 (lX3_makeEmpty_41 R a0 J5 n) v7 J8
noncomputable def sX3_makeEmpty_17 (R : am_R) (a0 : Nat) (J1 : am_I) (j4 : am_L → Option (am_I × am_L)) (ih17 : Int32 → am_L → Option (am_I × am_L)) (v15 : Int32) (J16 : am_L) : Option (am_I × am_L) :=
  if (192 : Int32) ≤ v15 then (
    j4 J16) else (
    am_ck (am_inb v15 192) (
    am_let (am_upL J16 (R a0 3) (Int32.toNatClampNeg v15) (0 : Int64)) (fun J21 =>
    ih17 (v15 + (1 : Int32)) J21)))
noncomputable def lX3_makeEmpty_17 (R : am_R) (a0 : Nat) (J1 : am_I) (j4 : am_L → Option (am_I × am_L)) : Nat → Int32 → am_L → Option (am_I × am_L)
  | 0, _, _ => none
  | n + 1, v15, J16 => sX3_makeEmpty_17 R a0 J1 j4 (lX3_makeEmpty_17 R a0 J1 j4 n) v15 J16
noncomputable def pX3_makeEmpty (R : am_R) (I : am_I) (L : am_L) (a0 : Nat) : Option (am_I × am_L) :=
  am_let (am_upI I a0 0 (0 : Int32)) (fun J1 =>
  am_let (am_upL L a0 1 (0 : Int64)) (fun J2 =>
  am_let (am_upL J2 a0 2 (0 : Int64)) (fun J3 =>
  am_jn (fun (J5 : am_L) =>
  lX3_makeEmpty_41 R a0 J5 am_fu (0 : Int32) J1) (fun j4 =>
  lX3_makeEmpty_17 R a0 J1 j4 am_fu (0 : Int32) J3))))
noncomputable def pX3_bitOf (R : am_R) (I : am_I) (L : am_L) (a0 : Nat) (x1 : Int32) (x2 : Int32) : Option (Int64 × am_I × am_L) :=
  if x1 < 0 then (
    some ((0 : Int64), I, L)) else (
    if x1 < (384 : Int32) then (
      am_ck (am_inb x1 384) (
      am_jn (fun (J6 : am_I) (J7 : am_L) =>
  am_ck (am_inb x1 384) (
  some (((1 : Int64) <<< (Int32.toInt64 (J6 (R a0 5) (Int32.toNatClampNeg x1)) &&& 63)), J6, J7))) (fun j5 =>
      if (I (R a0 5) (Int32.toNatClampNeg x1)) = (-1 : Int32) then (
        if (I a0 0) < (64 : Int32) then (
          am_ck (am_inb x1 384) (
          am_let (am_upI I (R a0 5) (Int32.toNatClampNeg x1) (I a0 0)) (fun J12 =>
          am_ck (am_inb (J12 a0 0) 64) (
          am_let (am_upI J12 (R a0 4) (Int32.toNatClampNeg (J12 a0 0)) x1) (fun J14 =>
          am_let (if x2 = 0 then (0 : Int64) else ((1 : Int64) <<< (Int32.toInt64 (J14 a0 0) &&& 63))) (fun v15 =>
          am_let (am_upL L a0 2 ((L a0 2) ||| v15)) (fun J17 =>
          am_let (am_upI J14 a0 0 ((J14 a0 0) + (1 : Int32))) (fun J18 =>
          j5 J18 J17)))))))) else (
          some ((0 : Int64), I, L))) else (
        j5 I L)))) else (
      some ((0 : Int64), I, L)))
noncomputable def pX3_bitOfSet (R : am_R) (I : am_I) (L : am_L) (a0 : Nat) (a1 : Nat) (x2 : Int32) : Option (Int64 × am_I × am_L) :=
  am_let (if (x2 &&& (I a1 2)) = 0 then (0 : Int32) else (1 : Int32)) (fun v1 =>
  Option.bind (pX3_bitOf R I L a0 x2 v1) (fun r3 =>
  some (r3.1, r3.2.1, r3.2.2)))
noncomputable def sX3_makeSubsets_43 (R : am_R) (a0 : Nat) (a1 : Nat) (a2 : Nat) (v8 : Int32) (j14 : am_I → am_L → Option (Int32 × am_I × am_L)) (ih23 : Int32 → am_I → am_L → Option (Int32 × am_I × am_L)) (v20 : Int32) (J21 : am_I) (J22 : am_L) : Option (Int32 × am_I × am_L) :=
  if (3 : Int32) ≤ v20 then (
    j14 J21 J22) else (
    am_ck (am_inb v8 64) (
    Option.bind (pX6_reachedOnce R J21 a2 (J21 (R a0 4) (Int32.toNatClampNeg v8)) v20) (fun r26 =>
    am_jn (fun (J28 : am_I) (J29 : am_L) =>
  ih23 (v20 + (1 : Int32)) J28 J29) (fun j27 =>
    if r26 = 0 then (
      j27 J21 J22) else (
      Option.bind (pX3_bitOfSet R J21 J22 a0 a1 r26) (fun r32 =>
      am_ck (am_inb ((v8 * (3 : Int32)) + v20) 192) (
      am_let (am_upL r32.2.2 (R a0 3) (Int32.toNatClampNeg ((v8 * (3 : Int32)) + v20)) r32.1) (fun J33 =>
      j27 r32.2.1 J33))))))))
noncomputable def lX3_makeSubsets_43 (R : am_R) (a0 : Nat) (a1 : Nat) (a2 : Nat) (v8 : Int32) (j14 : am_I → am_L → Option (Int32 × am_I × am_L)) : Nat → Int32 → am_I → am_L → Option (Int32 × am_I × am_L)
  | 0, _, _, _ => none
  | n + 1, v20, J21, J22 => sX3_makeSubsets_43 R a0 a1 a2 v8 j14 (lX3_makeSubsets_43 R a0 a1 a2 v8 j14 n) v20 J21 J22
noncomputable def sX3_makeSubsets_26 (R : am_R) (a0 : Nat) (a1 : Nat) (a2 : Nat) (ih11 : Int32 → am_I → am_L → Option (Int32 × am_I × am_L)) (v8 : Int32) (J9 : am_I) (J10 : am_L) : Option (Int32 × am_I × am_L) :=
  if (J9 a0 0) ≤ v8 then (
    some ((1 : Int32), J9, J10)) else (
    if (64 : Int32) ≤ v8 then (
      some ((1 : Int32), J9, J10)) else (
      am_jn (fun (J15 : am_I) (J16 : am_L) =>
  ih11 (v8 + (1 : Int32)) J15 J16) (fun j14 =>
      lX3_makeSubsets_43 R a0 a1 a2 v8 j14 am_fu (0 : Int32) J9 J10)))
noncomputable def lX3_makeSubsets_26 (R : am_R) (a0 : Nat) (a1 : Nat) (a2 : Nat) : Nat → Int32 → am_I → am_L → Option (Int32 × am_I × am_L)
  | 0, _, _, _ => none
  | n + 1, v8, J9, J10 => sX3_makeSubsets_26 R a0 a1 a2 (lX3_makeSubsets_26 R a0 a1 a2 n) v8 J9 J10
noncomputable def pX3_makeSubsets (R : am_R) (I : am_I) (L : am_L) (a0 : Nat) (a1 : Nat) (a2 : Nat) : Option (Int32 × am_I × am_L) :=
  Option.bind (pX3_makeEmpty R I L a0) (fun r1 =>
  am_jn (fun (J3 : am_I) (J4 : am_L) =>
  lX3_makeSubsets_26 R a0 a1 a2 am_fu (0 : Int32) J3 J4) (fun j2 =>
  if (r1.1 a1 1) = 0 then (
    j2 r1.1 r1.2) else (
    Option.bind (pX3_bitOfSet R r1.1 r1.2 a0 a1 (r1.1 a1 1)) (fun r35 =>
    am_let (am_upL r35.2.2 a0 1 r35.1) (fun J36 =>
    j2 r35.2.1 J36)))))
noncomputable def pX3_below (x0 : Int32) (x1 : Int32) : Option (Int32) :=
  some (x0 &&& (((1 : Int32) <<< (x1 &&& 31)) - (1 : Int32)))
noncomputable def pX3_bitOfPair (R : am_R) (I : am_I) (L : am_L) (a0 : Nat) (a1 : Nat) (x2 : Int32) (x3 : Int32) : Option (Int64 × am_I × am_L) :=
  Option.bind (pX10_contains (I a1 2) x2) (fun r1 =>
  am_let (if r1 = 0 then (0 : Int32) else (if (x3 &&& (I a1 2)) = 0 then (1 : Int32) else (0 : Int32))) (fun v2 =>
  Option.bind (pX3_bitOf R I L a0 ((x2 * (64 : Int32)) + x3) v2) (fun r4 =>
  some (r4.1, r4.2.1, r4.2.2))))
noncomputable def sX3_addPairsAfter_54 (R : am_R) (a0 : Nat) (a1 : Nat) (x3 : Int32) (x4 : Int32) (r3 : Int32) (r4 : Int32) (j5 : Int64 → am_I → am_L → Option (Int32 × am_I × am_L)) (ih21 : Int64 → Int32 → am_I → am_L → Option (Int32 × am_I × am_L)) (v17 : Int64) (v18 : Int32) (J19 : am_I) (J20 : am_L) : Option (Int32 × am_I × am_L) :=
  if (6 : Int32) ≤ v18 then (
    j5 v17 J19 J20) else (
    Option.bind (pX10_contains r3 v18) (fun r23 =>
    am_jn (fun (v25 : Int64) (J26 : am_I) (J27 : am_L) =>
  ih21 v25 (v18 + (1 : Int32)) J26 J27) (fun j24 =>
    if r23 = 0 then (
      j24 v17 J19 J20) else (
      Option.bind (pX3_below r3 v18) (fun r29 =>
      Option.bind (pX3_bitOfPair R J19 J20 a0 a1 v18 (r4 ||| r29)) (fun r30 =>
      if (lg_cmp r30.1 (0 : Int64)) = 0 then (
        some ((0 : Int32), r30.2.1, r30.2.2)) else (
        am_let (v17 ||| r30.1) (fun v32 =>
        j24 v32 r30.2.1 r30.2.2))))))))
noncomputable def lX3_addPairsAfter_54 (R : am_R) (a0 : Nat) (a1 : Nat) (x3 : Int32) (x4 : Int32) (r3 : Int32) (r4 : Int32) (j5 : Int64 → am_I → am_L → Option (Int32 × am_I × am_L)) : Nat → Int64 → Int32 → am_I → am_L → Option (Int32 × am_I × am_L)
  | 0, _, _, _, _ => none
  | n + 1, v17, v18, J19, J20 => sX3_addPairsAfter_54 R a0 a1 x3 x4 r3 r4 j5 (lX3_addPairsAfter_54 R a0 a1 x3 x4 r3 r4 j5 n) v17 v18 J19 J20
noncomputable def pX3_addPairsAfter (R : am_R) (I : am_I) (L : am_L) (a0 : Nat) (a1 : Nat) (a2 : Nat) (x3 : Int32) (x4 : Int32) : Option (Int32 × am_I × am_L) :=
  am_jn (fun (v2 : Int32) =>
  Option.bind (pX0_targetsOf R I a1 (v2 / (64 : Int32)) x4) (fun r3 =>
  Option.bind (pX6_reachedOnce R I a2 (v2 - v2 / (64 : Int32) * (64 : Int32)) x4) (fun r4 =>
  am_jn (fun (v6 : Int64) (J7 : am_I) (J8 : am_L) =>
  am_let ((x3 * (3 : Int32)) + x4) (fun v9 =>
  if v9 < 0 then (
    some ((1 : Int32), J7, J8)) else (
    if (192 : Int32) ≤ v9 then (
      some ((1 : Int32), J7, J8)) else (
      am_ck (am_inb v9 192) (
      am_let (am_upL J8 (R a0 3) (Int32.toNatClampNeg v9) v6) (fun J14 =>
      some ((1 : Int32), J7, J14))))))) (fun j5 =>
  lX3_addPairsAfter_54 R a0 a1 x3 x4 r3 r4 j5 am_fu (0 : Int64) (0 : Int32) I L)))) (fun j1 =>
  am_jn (
  j1 (0 : Int32)) (fun j33 =>
  if x3 < 0 then (
    j33) else (
    if (64 : Int32) ≤ x3 then (
      j33) else (
      am_ck (am_inb x3 64) (
      j1 (I (R a0 4) (Int32.toNatClampNeg x3)))))))
noncomputable def sX3_makeLeastPaths_73 (R : am_R) (a0 : Nat) (a1 : Nat) (a2 : Nat) (v8 : Int32) (j14 : am_I → am_L → Option (Int32 × am_I × am_L)) (ih23 : Int32 → am_I → am_L → Option (Int32 × am_I × am_L)) (v20 : Int32) (J21 : am_I) (J22 : am_L) : Option (Int32 × am_I × am_L) :=
  if (3 : Int32) ≤ v20 then (
    j14 J21 J22) else (
    Option.bind (pX3_addPairsAfter R J21 J22 a0 a1 a2 v8 v20) (fun r25 =>
    if r25.1 = 0 then (
      some ((0 : Int32), r25.2.1, r25.2.2)) else (
      ih23 (v20 + (1 : Int32)) r25.2.1 r25.2.2)))
noncomputable def lX3_makeLeastPaths_73 (R : am_R) (a0 : Nat) (a1 : Nat) (a2 : Nat) (v8 : Int32) (j14 : am_I → am_L → Option (Int32 × am_I × am_L)) : Nat → Int32 → am_I → am_L → Option (Int32 × am_I × am_L)
  | 0, _, _, _ => none
  | n + 1, v20, J21, J22 => sX3_makeLeastPaths_73 R a0 a1 a2 v8 j14 (lX3_makeLeastPaths_73 R a0 a1 a2 v8 j14 n) v20 J21 J22
noncomputable def sX3_makeLeastPaths_56 (R : am_R) (a0 : Nat) (a1 : Nat) (a2 : Nat) (ih11 : Int32 → am_I → am_L → Option (Int32 × am_I × am_L)) (v8 : Int32) (J9 : am_I) (J10 : am_L) : Option (Int32 × am_I × am_L) :=
  if (J9 a0 0) ≤ v8 then (
    some ((1 : Int32), J9, J10)) else (
    if (64 : Int32) ≤ v8 then (
      some ((1 : Int32), J9, J10)) else (
      am_jn (fun (J15 : am_I) (J16 : am_L) =>
  ih11 (v8 + (1 : Int32)) J15 J16) (fun j14 =>
      lX3_makeLeastPaths_73 R a0 a1 a2 v8 j14 am_fu (0 : Int32) J9 J10)))
noncomputable def lX3_makeLeastPaths_56 (R : am_R) (a0 : Nat) (a1 : Nat) (a2 : Nat) : Nat → Int32 → am_I → am_L → Option (Int32 × am_I × am_L)
  | 0, _, _, _ => none
  | n + 1, v8, J9, J10 => sX3_makeLeastPaths_56 R a0 a1 a2 (lX3_makeLeastPaths_56 R a0 a1 a2 n) v8 J9 J10
noncomputable def sX3_makeLeastPaths_6 (R : am_R) (a0 : Nat) (a1 : Nat) (a2 : Nat) (j2 : am_I → am_L → Option (Int32 × am_I × am_L)) (ih33 : Int32 → am_I → am_L → Option (Int32 × am_I × am_L)) (v30 : Int32) (J31 : am_I) (J32 : am_L) : Option (Int32 × am_I × am_L) :=
  if (J31 a1 0) ≤ v30 then (
    j2 J31 J32) else (
    Option.bind (pX10_contains (J31 a1 1) v30) (fun r35 =>
    am_jn (fun (J37 : am_I) (J38 : am_L) =>
  ih33 (v30 + (1 : Int32)) J37 J38) (fun j36 =>
    if r35 = 0 then (
      j36 J31 J32) else (
      Option.bind (pX3_below (J31 a1 1) v30) (fun r40 =>
      Option.bind (pX3_bitOfPair R J31 J32 a0 a1 v30 r40) (fun r41 =>
      am_let (am_upL r41.2.2 a0 1 ((J32 a0 1) ||| r41.1)) (fun J42 =>
      j36 r41.2.1 J42)))))))
noncomputable def lX3_makeLeastPaths_6 (R : am_R) (a0 : Nat) (a1 : Nat) (a2 : Nat) (j2 : am_I → am_L → Option (Int32 × am_I × am_L)) : Nat → Int32 → am_I → am_L → Option (Int32 × am_I × am_L)
  | 0, _, _, _ => none
  | n + 1, v30, J31, J32 => sX3_makeLeastPaths_6 R a0 a1 a2 j2 (lX3_makeLeastPaths_6 R a0 a1 a2 j2 n) v30 J31 J32
noncomputable def pX3_makeLeastPaths (R : am_R) (I : am_I) (L : am_L) (a0 : Nat) (a1 : Nat) (a2 : Nat) : Option (Int32 × am_I × am_L) :=
  Option.bind (pX3_makeEmpty R I L a0) (fun r1 =>
  am_jn (fun (J3 : am_I) (J4 : am_L) =>
  lX3_makeLeastPaths_56 R a0 a1 a2 am_fu (0 : Int32) J3 J4) (fun j2 =>
  lX3_makeLeastPaths_6 R a0 a1 a2 j2 am_fu (0 : Int32) r1.1 r1.2))
noncomputable def pX3_targetsOf (R : am_R) (I : am_I) (L : am_L) (a0 : Nat) (x1 : Int32) (x2 : Int32) : Option (Int64) :=
  am_jn (fun (v2 : Int32) =>
  if v2 = 0 then (
    some (0 : Int64)) else (
    am_ck (am_inb ((x1 * (3 : Int32)) + x2) 192) (
    some (L (R a0 3) (Int32.toNatClampNeg ((x1 * (3 : Int32)) + x2)))))) (fun j1 =>
  am_jn (
  j1 (0 : Int32)) (fun j5 =>
  if x1 < 0 then (
    j5) else (
    if (I a0 0) ≤ x1 then (
      j5) else (
      if (64 : Int32) ≤ x1 then (
        j5) else (
        Option.bind (pX10_isLetter x2) (fun r9 =>
        if r9 = 0 then (
          j5) else (
          j1 (1 : Int32))))))))
noncomputable def sX3_accepts_23 (R : am_R) (I : am_I) (L : am_L) (a0 : Nat) (a1 : Nat) (v7 : Int64) (v8 : Int32) (j11 : Int64 → Option (Int32)) (ih17 : Int64 → Int32 → Option (Int32)) (v15 : Int64) (v16 : Int32) : Option (Int32) :=
  if (I a0 0) ≤ v16 then (
    j11 v15) else (
    am_jn (fun (v20 : Int64) =>
  am_let (v15 ||| v20) (fun v21 =>
  ih17 v21 (v16 + (1 : Int32)))) (fun j19 =>
    if (lg_cmp ((v7 >>> (Int32.toInt64 v16 &&& 63)) &&& (1 : Int64)) (0 : Int64)) = 0 then (
      j19 (0 : Int64)) else (
      Option.bind (pX8_letterAt R I a1 v8) (fun r23 =>
      Option.bind (pX3_targetsOf R I L a0 v16 r23) (fun r24 =>
      j19 r24)))))
noncomputable def lX3_accepts_23 (R : am_R) (I : am_I) (L : am_L) (a0 : Nat) (a1 : Nat) (v7 : Int64) (v8 : Int32) (j11 : Int64 → Option (Int32)) : Nat → Int64 → Int32 → Option (Int32)
  | 0, _, _ => none
  | n + 1, v15, v16 => sX3_accepts_23 R I L a0 a1 v7 v8 j11 (lX3_accepts_23 R I L a0 a1 v7 v8 j11 n) v15 v16
noncomputable def sX3_accepts_8 (R : am_R) (I : am_I) (L : am_L) (a0 : Nat) (a1 : Nat) (j2 : Int64 → Option (Int32)) (ih9 : Int64 → Int32 → Option (Int32)) (v7 : Int64) (v8 : Int32) : Option (Int32) :=
  if (I a1 0) ≤ v8 then (
    j2 v7) else (
    am_jn (fun (v12 : Int64) =>
  ih9 v12 (v8 + (1 : Int32))) (fun j11 =>
    lX3_accepts_23 R I L a0 a1 v7 v8 j11 am_fu (0 : Int64) (0 : Int32)))
noncomputable def lX3_accepts_8 (R : am_R) (I : am_I) (L : am_L) (a0 : Nat) (a1 : Nat) (j2 : Int64 → Option (Int32)) : Nat → Int64 → Int32 → Option (Int32)
  | 0, _, _ => none
  | n + 1, v7, v8 => sX3_accepts_8 R I L a0 a1 j2 (lX3_accepts_8 R I L a0 a1 j2 n) v7 v8
noncomputable def pX3_accepts (R : am_R) (I : am_I) (L : am_L) (a0 : Nat) (a1 : Nat) : Option (Int32) :=
  am_let (L a0 1) (fun v1 =>
  am_jn (fun (v3 : Int64) =>
  if (lg_cmp (v3 &&& (L a0 2)) (0 : Int64)) = 0 then (
    some (0 : Int32)) else (
    some (1 : Int32))) (fun j2 =>
  lX3_accepts_8 R I L a0 a1 j2 am_fu v1 (0 : Int32)))
noncomputable def sX4_makeEmpty_7 (R : am_R) (a0 : Nat) (ih5 : Int32 → am_I → Option (am_I)) (v3 : Int32) (J4 : am_I) : Option (am_I) :=
  if (256 : Int32) ≤ v3 then (
    some J4) else (
    am_ck (am_inb v3 256) (
    am_let (am_upI J4 (R a0 2) (Int32.toNatClampNeg v3) (-1 : Int32)) (fun J8 =>
    ih5 (v3 + (1 : Int32)) J8)))
noncomputable def lX4_makeEmpty_7 (R : am_R) (a0 : Nat) : Nat → Int32 → am_I → Option (am_I)
  | 0, _, _ => none
  | n + 1, v3, J4 => sX4_makeEmpty_7 R a0 (lX4_makeEmpty_7 R a0 n) v3 J4
noncomputable def pX4_makeEmpty (R : am_R) (I : am_I) (a0 : Nat) : Option (am_I) :=
  am_let (am_upI I a0 4 (0 : Int32)) (fun J1 =>
  lX4_makeEmpty_7 R a0 am_fu (0 : Int32) J1)
noncomputable def sX4_bucketOfFresh_4 (R : am_R) (L : am_L) (a0 : Nat) (ih4 : Int64 → Int32 → Option (Int32)) (v2 : Int64) (v3 : Int32) : Option (Int32) :=
  if (6 : Int32) ≤ v3 then (
    some ((Int64.toInt32 (v2 ^^^ (v2 >>> (Int32.toInt64 (8 : Int32) &&& 63)))) &&& (255 : Int32))) else (
    am_ck (am_inb v3 6) (
    am_let ((v2 * (31 : Int64)) + (L (R a0 1) (Int32.toNatClampNeg v3))) (fun v7 =>
    ih4 v7 (v3 + (1 : Int32)))))
noncomputable def lX4_bucketOfFresh_4 (R : am_R) (L : am_L) (a0 : Nat) : Nat → Int64 → Int32 → Option (Int32)
  | 0, _, _ => none
  | n + 1, v2, v3 => sX4_bucketOfFresh_4 R L a0 (lX4_bucketOfFresh_4 R L a0 n) v2 v3
noncomputable def pX4_bucketOfFresh (R : am_R) (L : am_L) (a0 : Nat) : Option (Int32) :=
  lX4_bucketOfFresh_4 R L a0 am_fu (0 : Int64) (0 : Int32)
noncomputable def pX4_cell (R : am_R) (L : am_L) (a0 : Nat) (x1 : Int32) (x2 : Int32) : Option (Int64) :=
  am_let ((x1 * (6 : Int32)) + x2) (fun v1 =>
  if v1 < 0 then (
    some (0 : Int64)) else (
    if (6000 : Int32) ≤ v1 then (
      some (0 : Int64)) else (
      am_ck (am_inb v1 6000) (
      some (L (R a0 0) (Int32.toNatClampNeg v1))))))
noncomputable def sX4_equalsFresh_2 (R : am_R) (L : am_L) (a0 : Nat) (x1 : Int32) (ih3 : Int32 → Option (Int32)) (v2 : Int32) : Option (Int32) :=
  if (6 : Int32) ≤ v2 then (
    some (1 : Int32)) else (
    Option.bind (pX4_cell R L a0 x1 v2) (fun r5 =>
    am_ck (am_inb v2 6) (
    if (lg_cmp r5 (L (R a0 1) (Int32.toNatClampNeg v2))) = 0 then (
      ih3 (v2 + (1 : Int32))) else (
      some (0 : Int32)))))
noncomputable def lX4_equalsFresh_2 (R : am_R) (L : am_L) (a0 : Nat) (x1 : Int32) : Nat → Int32 → Option (Int32)
  | 0, _ => none
  | n + 1, v2 => sX4_equalsFresh_2 R L a0 x1 (lX4_equalsFresh_2 R L a0 x1 n) v2
noncomputable def pX4_equalsFresh (R : am_R) (L : am_L) (a0 : Nat) (x1 : Int32) : Option (Int32) :=
  lX4_equalsFresh_2 R L a0 x1 am_fu (0 : Int32)
noncomputable def sX4_isKept_4 (R : am_R) (I : am_I) (L : am_L) (a0 : Nat) (ih4 : Int32 → Int32 → Option (Int32)) (v2 : Int32) (v3 : Int32) : Option (Int32) :=
  if (1000 : Int32) ≤ v3 then (
    some (0 : Int32)) else (
    if v2 < 0 then (
      some (0 : Int32)) else (
      if (1000 : Int32) ≤ v2 then (
        some (0 : Int32)) else (
        Option.bind (pX4_equalsFresh R L a0 v2) (fun r8 =>
        if r8 = 0 then (
          am_ck (am_inb v2 1000) (
          am_let (I (R a0 3) (Int32.toNatClampNeg v2)) (fun v11 =>
          ih4 v11 (v3 + (1 : Int32))))) else (
          some (1 : Int32))))))
noncomputable def lX4_isKept_4 (R : am_R) (I : am_I) (L : am_L) (a0 : Nat) : Nat → Int32 → Int32 → Option (Int32)
  | 0, _, _ => none
  | n + 1, v2, v3 => sX4_isKept_4 R I L a0 (lX4_isKept_4 R I L a0 n) v2 v3
noncomputable def pX4_isKept (R : am_R) (I : am_I) (L : am_L) (a0 : Nat) (x1 : Int32) : Option (Int32) :=
  lX4_isKept_4 R I L a0 am_fu x1 (0 : Int32)
noncomputable def sX4_keepFresh_34 (R : am_R) (I : am_I) (a0 : Nat) (r1 : Int32) (j6 : am_L → Option (Int32 × am_I × am_L)) (ih17 : Int32 → am_L → Option (Int32 × am_I × am_L)) (v15 : Int32) (J16 : am_L) : Option (Int32 × am_I × am_L) :=
  if (6 : Int32) ≤ v15 then (
    j6 J16) else (
    am_ck (am_inb v15 6) (
    am_ck (am_inb (((I a0 4) * (6 : Int32)) + v15) 6000) (
    am_let (am_upL J16 (R a0 0) (Int32.toNatClampNeg (((I a0 4) * (6 : Int32)) + v15)) (J16 (R a0 1) (Int32.toNatClampNeg v15))) (fun J21 =>
    ih17 (v15 + (1 : Int32)) J21))))
noncomputable def lX4_keepFresh_34 (R : am_R) (I : am_I) (a0 : Nat) (r1 : Int32) (j6 : am_L → Option (Int32 × am_I × am_L)) : Nat → Int32 → am_L → Option (Int32 × am_I × am_L)
  | 0, _, _ => none
  | n + 1, v15, J16 => sX4_keepFresh_34 R I a0 r1 j6 (lX4_keepFresh_34 R I a0 r1 j6 n) v15 J16
noncomputable def pX4_keepFresh (R : am_R) (I : am_I) (L : am_L) (a0 : Nat) : Option (Int32 × am_I × am_L) :=
  Option.bind (pX4_bucketOfFresh R L a0) (fun r1 =>
  am_ck (am_inb r1 256) (
  Option.bind (pX4_isKept R I L a0 (I (R a0 2) (Int32.toNatClampNeg r1))) (fun r3 =>
  if r3 = 0 then (
    if (I a0 4) < (1000 : Int32) then (
      am_jn (fun (J7 : am_L) =>
  am_ck (am_inb r1 256) (
  am_ck (am_inb (I a0 4) 1000) (
  am_let (am_upI I (R a0 3) (Int32.toNatClampNeg (I a0 4)) (I (R a0 2) (Int32.toNatClampNeg r1))) (fun J10 =>
  am_ck (am_inb r1 256) (
  am_let (am_upI J10 (R a0 2) (Int32.toNatClampNeg r1) (J10 a0 4)) (fun J12 =>
  am_let (am_upI J12 a0 4 ((J12 a0 4) + (1 : Int32))) (fun J13 =>
  some ((1 : Int32), J13, J7)))))))) (fun j6 =>
      lX4_keepFresh_34 R I a0 r1 j6 am_fu (0 : Int32) L)) else (
      some ((0 : Int32), I, L))) else (
    some ((1 : Int32), I, L)))))
noncomputable def sX4_sumOver_5 (R : am_R) (L : am_L) (a0 : Nat) (x1 : Int32) (x2 : Int32) (ih4 : Int64 → Int32 → Option (Int64)) (v2 : Int64) (v3 : Int32) : Option (Int64) :=
  if (6 : Int32) ≤ v3 then (
    some v2) else (
    Option.bind (pX10_contains x2 v3) (fun r6 =>
    am_jn (fun (v8 : Int64) =>
  am_let (v2 + v8) (fun v9 =>
  ih4 v9 (v3 + (1 : Int32)))) (fun j7 =>
    if r6 = 0 then (
      j7 (0 : Int64)) else (
      Option.bind (pX4_cell R L a0 x1 v3) (fun r11 =>
      j7 r11)))))
noncomputable def lX4_sumOver_5 (R : am_R) (L : am_L) (a0 : Nat) (x1 : Int32) (x2 : Int32) : Nat → Int64 → Int32 → Option (Int64)
  | 0, _, _ => none
  | n + 1, v2, v3 => sX4_sumOver_5 R L a0 x1 x2 (lX4_sumOver_5 R L a0 x1 x2 n) v2 v3
noncomputable def pX4_sumOver (R : am_R) (L : am_L) (a0 : Nat) (x1 : Int32) (x2 : Int32) : Option (Int64) :=
  lX4_sumOver_5 R L a0 x1 x2 am_fu (0 : Int64) (0 : Int32)
noncomputable def sX4_makeFresh_58 (R : am_R) (I : am_I) (a0 : Nat) (x1 : Int32) (a2 : Nat) (x3 : Int32) (x4 : Int32) (v5 : Int32) (v10 : Int32) (r11 : Int64) (j12 : am_L → Option (am_L)) (ih18 : Int32 → am_L → Option (am_L)) (v16 : Int32) (J17 : am_L) : Option (am_L) :=
  if (lg_cmp r11 (0 : Int64)) = 0 then (
    j12 J17) else (
    if (6 : Int32) ≤ v16 then (
      j12 J17) else (
      am_ck (am_inb v16 6) (
      Option.bind (pX10_contains v10 v16) (fun r22 =>
      am_let (if r22 = 0 then (0 : Int64) else r11) (fun v23 =>
      am_ck (am_inb v16 6) (
      am_let (am_upL J17 (R a0 1) (Int32.toNatClampNeg v16) ((J17 (R a0 1) (Int32.toNatClampNeg v16)) + v23)) (fun J25 =>
      ih18 (v16 + (1 : Int32)) J25)))))))
noncomputable def lX4_makeFresh_58 (R : am_R) (I : am_I) (a0 : Nat) (x1 : Int32) (a2 : Nat) (x3 : Int32) (x4 : Int32) (v5 : Int32) (v10 : Int32) (r11 : Int64) (j12 : am_L → Option (am_L)) : Nat → Int32 → am_L → Option (am_L)
  | 0, _, _ => none
  | n + 1, v16, J17 => sX4_makeFresh_58 R I a0 x1 a2 x3 x4 v5 v10 r11 j12 (lX4_makeFresh_58 R I a0 x1 a2 x3 x4 v5 v10 r11 j12 n) v16 J17
noncomputable def sX4_makeFresh_27 (R : am_R) (I : am_I) (a0 : Nat) (x1 : Int32) (a2 : Nat) (x3 : Int32) (x4 : Int32) (ih7 : Int32 → am_L → Option (am_L)) (v5 : Int32) (J6 : am_L) : Option (am_L) :=
  if (6 : Int32) ≤ v5 then (
    some J6) else (
    Option.bind (pX0_targetsOf R I a2 v5 x3) (fun r9 =>
    am_let (r9 &&& x4) (fun v10 =>
    Option.bind (pX4_cell R J6 a0 x1 v5) (fun r11 =>
    am_jn (fun (J13 : am_L) =>
  ih7 (v5 + (1 : Int32)) J13) (fun j12 =>
    lX4_makeFresh_58 R I a0 x1 a2 x3 x4 v5 v10 r11 j12 am_fu (0 : Int32) J6)))))
noncomputable def lX4_makeFresh_27 (R : am_R) (I : am_I) (a0 : Nat) (x1 : Int32) (a2 : Nat) (x3 : Int32) (x4 : Int32) : Nat → Int32 → am_L → Option (am_L)
  | 0, _, _ => none
  | n + 1, v5, J6 => sX4_makeFresh_27 R I a0 x1 a2 x3 x4 (lX4_makeFresh_27 R I a0 x1 a2 x3 x4 n) v5 J6
noncomputable def sX4_makeFresh_3 (R : am_R) (I : am_I) (a0 : Nat) (x1 : Int32) (a2 : Nat) (x3 : Int32) (x4 : Int32) (j1 : am_L → Option (am_L)) (ih31 : Int32 → am_L → Option (am_L)) (v29 : Int32) (J30 : am_L) : Option (am_L) :=
  if (6 : Int32) ≤ v29 then (
    j1 J30) else (
    am_ck (am_inb v29 6) (
    am_let (am_upL J30 (R a0 1) (Int32.toNatClampNeg v29) (0 : Int64)) (fun J34 =>
    ih31 (v29 + (1 : Int32)) J34)))
noncomputable def lX4_makeFresh_3 (R : am_R) (I : am_I) (a0 : Nat) (x1 : Int32) (a2 : Nat) (x3 : Int32) (x4 : Int32) (j1 : am_L → Option (am_L)) : Nat → Int32 → am_L → Option (am_L)
  | 0, _, _ => none
  | n + 1, v29, J30 => sX4_makeFresh_3 R I a0 x1 a2 x3 x4 j1 (lX4_makeFresh_3 R I a0 x1 a2 x3 x4 j1 n) v29 J30
noncomputable def pX4_makeFresh (R : am_R) (I : am_I) (L : am_L) (a0 : Nat) (x1 : Int32) (a2 : Nat) (x3 : Int32) (x4 : Int32) : Option (am_L) :=
  am_jn (fun (J2 : am_L) =>
  lX4_makeFresh_27 R I a0 x1 a2 x3 x4 am_fu (0 : Int32) J2) (fun j1 =>
  lX4_makeFresh_3 R I a0 x1 a2 x3 x4 j1 am_fu (0 : Int32) L)
noncomputable def sX4_highestAmbiguity_99 (R : am_R) (a0 : Nat) (a1 : Nat) (r1 : Int32) (v24 : Int64) (v16 : Int32) (j25 : Int32 → am_I → am_L → Option (Int64 × am_I × am_L)) (ih35 : Int32 → Int32 → am_I → am_L → Option (Int64 × am_I × am_L)) (v31 : Int32) (v32 : Int32) (J33 : am_I) (J34 : am_L) : Option (Int64 × am_I × am_L) :=
  if v31 = 0 then (
    j25 v31 J33 J34) else (
    if (3 : Int32) ≤ v32 then (
      j25 v31 J33 J34) else (
      Option.bind (pX4_makeFresh R J33 J34 a0 v16 a1 v32 r1) (fun r38 =>
      Option.bind (pX4_keepFresh R J33 r38 a0) (fun r39 =>
      ih35 r39.1 (v32 + (1 : Int32)) r39.2.1 r39.2.2))))
noncomputable def lX4_highestAmbiguity_99 (R : am_R) (a0 : Nat) (a1 : Nat) (r1 : Int32) (v24 : Int64) (v16 : Int32) (j25 : Int32 → am_I → am_L → Option (Int64 × am_I × am_L)) : Nat → Int32 → Int32 → am_I → am_L → Option (Int64 × am_I × am_L)
  | 0, _, _, _, _ => none
  | n + 1, v31, v32, J33, J34 => sX4_highestAmbiguity_99 R a0 a1 r1 v24 v16 j25 (lX4_highestAmbiguity_99 R a0 a1 r1 v24 v16 j25 n) v31 v32 J33 J34
noncomputable def sX4_highestAmbiguity_58 (R : am_R) (a0 : Nat) (a1 : Nat) (r1 : Int32) (j6 : Int32 → Int64 → am_I → am_L → Option (Int64 × am_I × am_L)) (ih19 : Int32 → Int64 → Int32 → am_I → am_L → Option (Int64 × am_I × am_L)) (v14 : Int32) (v15 : Int64) (v16 : Int32) (J17 : am_I) (J18 : am_L) : Option (Int64 × am_I × am_L) :=
  if v14 = 0 then (
    j6 v14 v15 J17 J18) else (
    if (J17 a0 4) ≤ v16 then (
      j6 v14 v15 J17 J18) else (
      if (1000 : Int32) ≤ v16 then (
        j6 v14 v15 J17 J18) else (
        Option.bind (pX4_sumOver R J18 a0 v16 (J17 a1 2)) (fun r23 =>
        am_let (if r23 < v15 then v15 else r23) (fun v24 =>
        am_jn (fun (v26 : Int32) (J27 : am_I) (J28 : am_L) =>
  ih19 v26 v24 (v16 + (1 : Int32)) J27 J28) (fun j25 =>
        lX4_highestAmbiguity_99 R a0 a1 r1 v24 v16 j25 am_fu v14 (0 : Int32) J17 J18))))))
noncomputable def lX4_highestAmbiguity_58 (R : am_R) (a0 : Nat) (a1 : Nat) (r1 : Int32) (j6 : Int32 → Int64 → am_I → am_L → Option (Int64 × am_I × am_L)) : Nat → Int32 → Int64 → Int32 → am_I → am_L → Option (Int64 × am_I × am_L)
  | 0, _, _, _, _, _ => none
  | n + 1, v14, v15, v16, J17, J18 => sX4_highestAmbiguity_58 R a0 a1 r1 j6 (lX4_highestAmbiguity_58 R a0 a1 r1 j6 n) v14 v15 v16 J17 J18
noncomputable def sX4_highestAmbiguity_11 (R : am_R) (a0 : Nat) (a1 : Nat) (r1 : Int32) (r2 : am_I) (j3 : am_L → Option (Int64 × am_I × am_L)) (ih44 : Int32 → am_L → Option (Int64 × am_I × am_L)) (v42 : Int32) (J43 : am_L) : Option (Int64 × am_I × am_L) :=
  if (6 : Int32) ≤ v42 then (
    j3 J43) else (
    Option.bind (pX10_contains ((r2 a1 1) &&& r1) v42) (fun r47 =>
    am_let (if r47 = 0 then (0 : Int64) else (1 : Int64)) (fun v48 =>
    am_ck (am_inb v42 6) (
    am_let (am_upL J43 (R a0 1) (Int32.toNatClampNeg v42) v48) (fun J50 =>
    ih44 (v42 + (1 : Int32)) J50)))))
noncomputable def lX4_highestAmbiguity_11 (R : am_R) (a0 : Nat) (a1 : Nat) (r1 : Int32) (r2 : am_I) (j3 : am_L → Option (Int64 × am_I × am_L)) : Nat → Int32 → am_L → Option (Int64 × am_I × am_L)
  | 0, _, _ => none
  | n + 1, v42, J43 => sX4_highestAmbiguity_11 R a0 a1 r1 r2 j3 (lX4_highestAmbiguity_11 R a0 a1 r1 r2 j3 n) v42 J43
noncomputable def pX4_highestAmbiguity (R : am_R) (I : am_I) (L : am_L) (a0 : Nat) (a1 : Nat) : Option (Int64 × am_I × am_L) :=
  Option.bind (pX0_usefulSet R I a1) (fun r1 =>
  Option.bind (pX4_makeEmpty R I a0) (fun r2 =>
  am_jn (fun (J4 : am_L) =>
  Option.bind (pX4_keepFresh R r2 J4 a0) (fun r5 =>
  am_jn (fun (v7 : Int32) (v8 : Int64) (J9 : am_I) (J10 : am_L) =>
  if v7 = 0 then (
    some ((-5 : Int64), J9, J10)) else (
    some (v8, J9, J10))) (fun j6 =>
  lX4_highestAmbiguity_58 R a0 a1 r1 j6 am_fu r5.1 (0 : Int64) (0 : Int32) r5.2.1 r5.2.2))) (fun j3 =>
  lX4_highestAmbiguity_11 R a0 a1 r1 r2 j3 am_fu (0 : Int32) L)))
noncomputable def pX5_hasPosition (R : am_R) (I : am_I) (a0 : Nat) (x1 : Int32) : Option (Int32) :=
  if x1 < 0 then (
    some (0 : Int32)) else (
    if (I a0 1) ≤ x1 then (
      some (0 : Int32)) else (
      if (31 : Int32) ≤ x1 then (
        some (0 : Int32)) else (
        some (1 : Int32))))
noncomputable def pX5_elementAt (R : am_R) (I : am_I) (L : am_L) (a0 : Nat) (x1 : Int32) : Option (Int64) :=
  Option.bind (pX5_hasPosition R I a0 x1) (fun r1 =>
  if r1 = 0 then (
    some (0 : Int64)) else (
    am_ck (am_inb x1 31) (
    some (L (R a0 2) (Int32.toNatClampNeg x1)))))
noncomputable def sX5_putWord_15 (R : am_R) (a0 : Nat) (a1 : Nat) (J2 : am_I) (ih7 : Int32 → am_L → Option (am_I × am_L)) (v5 : Int32) (J6 : am_L) : Option (am_I × am_L) :=
  if (J2 a0 1) ≤ v5 then (
    some (J2, J6)) else (
    if (31 : Int32) ≤ v5 then (
      some (J2, J6)) else (
      Option.bind (pX8_letterAt R J2 a1 v5) (fun r12 =>
      am_ck (am_inb v5 31) (
      am_let (am_upL J6 (R a0 2) (Int32.toNatClampNeg v5) (Int32.toInt64 r12)) (fun J13 =>
      ih7 (v5 + (1 : Int32)) J13)))))
noncomputable def lX5_putWord_15 (R : am_R) (a0 : Nat) (a1 : Nat) (J2 : am_I) : Nat → Int32 → am_L → Option (am_I × am_L)
  | 0, _, _ => none
  | n + 1, v5, J6 => sX5_putWord_15 R a0 a1 J2 (lX5_putWord_15 R a0 a1 J2 n) v5 J6
noncomputable def pX5_putWord (R : am_R) (I : am_I) (L : am_L) (a0 : Nat) (a1 : Nat) : Option (am_I × am_L) :=
  am_let (am_upI I a0 0 (1 : Int32)) (fun J1 =>
  am_let (am_upI J1 a0 1 (J1 a1 0)) (fun J2 =>
  lX5_putWord_15 R a0 a1 J2 am_fu (0 : Int32) L))
noncomputable def sX5_putCounts_12 (R : am_R) (a0 : Nat) (a1 : Nat) (J2 : am_I) (ih7 : Int32 → am_L → Option (am_I × am_L)) (v5 : Int32) (J6 : am_L) : Option (am_I × am_L) :=
  if (J2 a0 1) ≤ v5 then (
    some (J2, J6)) else (
    if (31 : Int32) ≤ v5 then (
      some (J2, J6)) else (
      if (31 : Int32) ≤ v5 then (
        some (J2, J6)) else (
        am_ck (am_inb v5 31) (
        am_ck (am_inb v5 31) (
        am_let (am_upL J6 (R a0 2) (Int32.toNatClampNeg v5) (J6 a1 (Int32.toNatClampNeg v5))) (fun J13 =>
        ih7 (v5 + (1 : Int32)) J13))))))
noncomputable def lX5_putCounts_12 (R : am_R) (a0 : Nat) (a1 : Nat) (J2 : am_I) : Nat → Int32 → am_L → Option (am_I × am_L)
  | 0, _, _ => none
  | n + 1, v5, J6 => sX5_putCounts_12 R a0 a1 J2 (lX5_putCounts_12 R a0 a1 J2 n) v5 J6
noncomputable def pX5_putCounts (R : am_R) (I : am_I) (L : am_L) (a0 : Nat) (a1 : Nat) (x2 : Int32) : Option (am_I × am_L) :=
  am_let (am_upI I a0 0 (2 : Int32)) (fun J1 =>
  am_let (am_upI J1 a0 1 x2) (fun J2 =>
  lX5_putCounts_12 R a0 a1 J2 am_fu (0 : Int32) L))
noncomputable def sX5_copyWordTo_7 (R : am_R) (L : am_L) (a0 : Nat) (a1 : Nat) (ih6 : Int32 → am_I → Option (am_I)) (v4 : Int32) (J5 : am_I) : Option (am_I) :=
  if (J5 a0 1) ≤ v4 then (
    some J5) else (
    Option.bind (pX5_elementAt R J5 L a0 v4) (fun r8 =>
    Option.bind (pX8_add R J5 a1 (Int64.toInt32 r8)) (fun r9 =>
    ih6 (v4 + (1 : Int32)) r9)))
noncomputable def lX5_copyWordTo_7 (R : am_R) (L : am_L) (a0 : Nat) (a1 : Nat) : Nat → Int32 → am_I → Option (am_I)
  | 0, _, _ => none
  | n + 1, v4, J5 => sX5_copyWordTo_7 R L a0 a1 (lX5_copyWordTo_7 R L a0 a1 n) v4 J5
noncomputable def pX5_copyWordTo (R : am_R) (I : am_I) (L : am_L) (a0 : Nat) (a1 : Nat) : Option (am_I) :=
  am_let (am_upI I a1 0 (0 : Int32)) (fun J1 =>
  lX5_copyWordTo_7 R L a0 a1 am_fu (0 : Int32) J1)
noncomputable def sX6_loadSetsUpTo_26 (R : am_R) (a0 : Nat) (x2 : Int32) (x3 : Int32) (v5 : Int32) (ih9 : Int32 → am_I → Option (am_I)) (v7 : Int32) (J8 : am_I) : Option (am_I) :=
  if v5 ≤ v7 then (
    some J8) else (
    am_let ((x2 * (64 : Int32)) + v7) (fun v11 =>
    am_let (v11 + v5) (fun v12 =>
    am_ck (am_inb v11 192) (
    am_ck (am_inb v12 192) (
    am_let (am_upI J8 (R a0 0) (Int32.toNatClampNeg v12) ((J8 (R a0 0) (Int32.toNatClampNeg v11)) ||| x3)) (fun J15 =>
    am_ck (am_inb v11 192) (
    am_ck (am_inb v11 192) (
    am_ck (am_inb v12 192) (
    am_let (am_upI J15 (R a0 1) (Int32.toNatClampNeg v12) ((J15 (R a0 1) (Int32.toNatClampNeg v11)) ||| ((J15 (R a0 0) (Int32.toNatClampNeg v11)) &&& x3))) (fun J19 =>
    ih9 (v7 + (1 : Int32)) J19))))))))))
noncomputable def lX6_loadSetsUpTo_26 (R : am_R) (a0 : Nat) (x2 : Int32) (x3 : Int32) (v5 : Int32) : Nat → Int32 → am_I → Option (am_I)
  | 0, _, _ => none
  | n + 1, v7, J8 => sX6_loadSetsUpTo_26 R a0 x2 x3 v5 (lX6_loadSetsUpTo_26 R a0 x2 x3 v5 n) v7 J8
noncomputable def pX6_loadSetsUpTo (R : am_R) (I : am_I) (a0 : Nat) (x1 : Int32) (x2 : Int32) (x3 : Int32) : Option (am_I) :=
  if x1 < 0 then (
    some I) else (
    if (6 : Int32) ≤ x1 then (
      some I) else (
      Option.bind (pX10_isLetter x2) (fun r3 =>
      if r3 = 0 then (
        some I) else (
        am_let ((1 : Int32) <<< (x1 &&& 31)) (fun v5 =>
        lX6_loadSetsUpTo_26 R a0 x2 x3 v5 am_fu (0 : Int32) I)))))
noncomputable def sX6_load_9 (R : am_R) (a0 : Nat) (a1 : Nat) (v3 : Int32) (j7 : am_I → Option (am_I)) (ih13 : Int32 → am_I → Option (am_I)) (v11 : Int32) (J12 : am_I) : Option (am_I) :=
  if (6 : Int32) ≤ v11 then (
    j7 J12) else (
    Option.bind (pX0_targetsOf R J12 a1 v11 v3) (fun r15 =>
    Option.bind (pX6_loadSetsUpTo R J12 a0 v11 v3 r15) (fun r16 =>
    ih13 (v11 + (1 : Int32)) r16)))
noncomputable def lX6_load_9 (R : am_R) (a0 : Nat) (a1 : Nat) (v3 : Int32) (j7 : am_I → Option (am_I)) : Nat → Int32 → am_I → Option (am_I)
  | 0, _, _ => none
  | n + 1, v11, J12 => sX6_load_9 R a0 a1 v3 j7 (lX6_load_9 R a0 a1 v3 j7 n) v11 J12
noncomputable def sX6_load_2 (R : am_R) (a0 : Nat) (a1 : Nat) (ih5 : Int32 → am_I → Option (am_I)) (v3 : Int32) (J4 : am_I) : Option (am_I) :=
  if (3 : Int32) ≤ v3 then (
    some J4) else (
    am_jn (fun (J8 : am_I) =>
  ih5 (v3 + (1 : Int32)) J8) (fun j7 =>
    lX6_load_9 R a0 a1 v3 j7 am_fu (0 : Int32) J4))
noncomputable def lX6_load_2 (R : am_R) (a0 : Nat) (a1 : Nat) : Nat → Int32 → am_I → Option (am_I)
  | 0, _, _ => none
  | n + 1, v3, J4 => sX6_load_2 R a0 a1 (lX6_load_2 R a0 a1 n) v3 J4
noncomputable def pX6_load (R : am_R) (I : am_I) (a0 : Nat) (a1 : Nat) : Option (am_I) :=
  lX6_load_2 R a0 a1 am_fu (0 : Int32) I
noncomputable def pX6_reachedTwice (R : am_R) (I : am_I) (a0 : Nat) (x1 : Int32) (x2 : Int32) : Option (Int32) :=
  am_let (if x1 < 0 then (0 : Int32) else (if (64 : Int32) ≤ x1 then (0 : Int32) else (if x2 < 0 then (0 : Int32) else (if (3 : Int32) ≤ x2 then (0 : Int32) else (1 : Int32))))) (fun v1 =>
  if v1 = 0 then (
    some (0 : Int32)) else (
    am_ck (am_inb ((x2 * (64 : Int32)) + x1) 192) (
    some (I (R a0 1) (Int32.toNatClampNeg ((x2 * (64 : Int32)) + x1))))))
noncomputable def pX7_add (R : am_R) (I : am_I) (a0 : Nat) (x1 : Int32) : Option (Int32 × am_I) :=
  if (I a0 0) < 0 then (
    some ((0 : Int32), I)) else (
    if (I a0 0) < (60 : Int32) then (
      am_ck (am_inb (I a0 0) 60) (
      am_let (am_upI I (R a0 1) (Int32.toNatClampNeg (I a0 0)) x1) (fun J5 =>
      am_let (am_upI J5 a0 0 ((J5 a0 0) + (1 : Int32))) (fun J6 =>
      some ((1 : Int32), J6))))) else (
      some ((0 : Int32), I)))
noncomputable def pX7_characterAt (R : am_R) (I : am_I) (a0 : Nat) (x1 : Int32) : Option (Int32) :=
  if x1 < 0 then (
    some (0 : Int32)) else (
    if (I a0 0) ≤ x1 then (
      some (0 : Int32)) else (
      if (60 : Int32) ≤ x1 then (
        some (0 : Int32)) else (
        am_ck (am_inb x1 60) (
        some (I (R a0 1) (Int32.toNatClampNeg x1))))))
noncomputable def pX7_nextMode (x0 : Int32) (x1 : Int32) (x2 : Int32) : Option (Int32) :=
  am_let (if x1 < (48 : Int32) then (0 : Int32) else (if ((48 : Int32) + x2) ≤ x1 then (0 : Int32) else (1 : Int32))) (fun v1 =>
  if x0 = (0 : Int32) then (
    if x1 = (62 : Int32) then (
      some (1 : Int32)) else (
      if v1 = 0 then (
        some (-1 : Int32)) else (
        some (2 : Int32)))) else (
    if x0 = (1 : Int32) then (
      if v1 = 0 then (
        some (-1 : Int32)) else (
        some (4 : Int32))) else (
      if x0 = (2 : Int32) then (
        if x1 = (33 : Int32) then (
          some (4 : Int32)) else (
          Option.bind (pX10_isLetter (x1 - (97 : Int32))) (fun r7 =>
          if r7 = 0 then (
            some (-1 : Int32)) else (
            some (3 : Int32))))) else (
        if x0 = (3 : Int32) then (
          if v1 = 0 then (
            some (-1 : Int32)) else (
            some (4 : Int32))) else (
          if x1 = (59 : Int32) then (
            some (0 : Int32)) else (
            some (-1 : Int32)))))))
noncomputable def sX7_errorPosition_4 (R : am_R) (I : am_I) (a0 : Nat) (x1 : Int32) (j1 : Int32 → Option (Int32)) (ih7 : Int32 → Int32 → Option (Int32)) (v5 : Int32) (v6 : Int32) : Option (Int32) :=
  if (I a0 0) ≤ v6 then (
    j1 v5) else (
    Option.bind (pX7_characterAt R I a0 v6) (fun r9 =>
    Option.bind (pX7_nextMode v5 r9 x1) (fun r10 =>
    if r10 = (-1 : Int32) then (
      some v6) else (
      ih7 r10 (v6 + (1 : Int32))))))
noncomputable def lX7_errorPosition_4 (R : am_R) (I : am_I) (a0 : Nat) (x1 : Int32) (j1 : Int32 → Option (Int32)) : Nat → Int32 → Int32 → Option (Int32)
  | 0, _, _ => none
  | n + 1, v5, v6 => sX7_errorPosition_4 R I a0 x1 j1 (lX7_errorPosition_4 R I a0 x1 j1 n) v5 v6
noncomputable def pX7_errorPosition (R : am_R) (I : am_I) (a0 : Nat) (x1 : Int32) : Option (Int32) :=
  am_jn (fun (v2 : Int32) =>
  if v2 = (4 : Int32) then (
    some (-1 : Int32)) else (
    some (I a0 0))) (fun j1 =>
  lX7_errorPosition_4 R I a0 x1 j1 am_fu (0 : Int32) (0 : Int32))
noncomputable def pX7_addItemTo (R : am_R) (I : am_I) (a0 : Nat) (a1 : Nat) (x2 : Int32) : Option (Int32 × am_I) :=
  Option.bind (pX7_characterAt R I a0 x2) (fun r1 =>
  Option.bind (pX7_characterAt R I a0 (x2 + (1 : Int32))) (fun r2 =>
  if r1 = (62 : Int32) then (
    am_let (am_upI I a1 1 ((I a1 1) ||| ((1 : Int32) <<< ((r2 - (48 : Int32)) &&& 31)))) (fun J8 =>
    some ((2 : Int32), J8))) else (
    if r2 = (33 : Int32) then (
      am_let (am_upI I a1 2 ((I a1 2) ||| ((1 : Int32) <<< ((r1 - (48 : Int32)) &&& 31)))) (fun J7 =>
      some ((2 : Int32), J7))) else (
      Option.bind (pX7_characterAt R I a0 (x2 + (2 : Int32))) (fun r5 =>
      Option.bind (pX0_add R I a1 (r1 - (48 : Int32)) (r2 - (97 : Int32)) (r5 - (48 : Int32))) (fun r6 =>
      some ((3 : Int32), r6.2)))))))
noncomputable def sX7_addItemsTo_4 (R : am_R) (a0 : Nat) (a1 : Nat) (ih6 : Int32 → Int32 → am_I → Option (Int32 × am_I)) (v3 : Int32) (v4 : Int32) (J5 : am_I) : Option (Int32 × am_I) :=
  if (J5 a0 0) ≤ v4 then (
    some (v3, J5)) else (
    if (60 : Int32) ≤ v3 then (
      some (v3, J5)) else (
      Option.bind (pX7_addItemTo R J5 a0 a1 v4) (fun r9 =>
      am_let (v4 + (r9.1 + (1 : Int32))) (fun v10 =>
      ih6 (v3 + (1 : Int32)) v10 r9.2))))
noncomputable def lX7_addItemsTo_4 (R : am_R) (a0 : Nat) (a1 : Nat) : Nat → Int32 → Int32 → am_I → Option (Int32 × am_I)
  | 0, _, _, _ => none
  | n + 1, v3, v4, J5 => sX7_addItemsTo_4 R a0 a1 (lX7_addItemsTo_4 R a0 a1 n) v3 v4 J5
noncomputable def pX7_addItemsTo (R : am_R) (I : am_I) (a0 : Nat) (a1 : Nat) : Option (Int32 × am_I) :=
  lX7_addItemsTo_4 R a0 a1 am_fu (0 : Int32) (0 : Int32) I
noncomputable def sX8_copyFrom_10 (R : am_R) (a0 : Nat) (a1 : Nat) (ih6 : Int32 → am_I → Option (am_I)) (v4 : Int32) (J5 : am_I) : Option (am_I) :=
  if (J5 a0 0) ≤ v4 then (
    some J5) else (
    Option.bind (pX8_letterAt R J5 a1 v4) (fun r8 =>
    Option.bind (pX8_setLetter R J5 a0 v4 r8) (fun r9 =>
    ih6 (v4 + (1 : Int32)) r9)))
noncomputable def lX8_copyFrom_10 (R : am_R) (a0 : Nat) (a1 : Nat) : Nat → Int32 → am_I → Option (am_I)
  | 0, _, _ => none
  | n + 1, v4, J5 => sX8_copyFrom_10 R a0 a1 (lX8_copyFrom_10 R a0 a1 n) v4 J5
noncomputable def pX8_copyFrom (R : am_R) (I : am_I) (a0 : Nat) (a1 : Nat) : Option (am_I) :=
  am_let (am_upI I a0 0 (I a1 0)) (fun J1 =>
  lX8_copyFrom_10 R a0 a1 am_fu (0 : Int32) J1)
noncomputable def pX9_look (R : am_R) (I : am_I) (a0 : Nat) (a1 : Nat) : Option (am_I) :=
  Option.bind (pX6_load R I (R a0 0) a1) (fun r2 =>
  am_let (am_upI r2 a0 1 (r2 a1 0)) (fun J3 =>
  am_let (am_upI J3 a0 2 (J3 a1 1)) (fun J4 =>
  am_let (am_upI J4 a0 3 (J4 a1 2)) (fun J5 =>
  Option.bind (pX0_usefulSet R J5 a1) (fun r6 =>
  am_let (am_upI J5 a0 4 r6) (fun J7 =>
  some J7))))))
noncomputable def pX9_meet (R : am_R) (I : am_I) (L : am_L) (a0 : Nat) (x1 : Int32) (x2 : Int32) (x3 : Int32) : Option (am_I × am_L) :=
  if x1 < 0 then (
    some (I, L)) else (
    if (64 : Int32) ≤ x1 then (
      some (I, L)) else (
      if (I a0 9) < (4096 : Int32) then (
        am_ck (am_inb x1 64) (
        if (lg_cmp (((L (R a0 11) (Int32.toNatClampNeg x1)) >>> (Int32.toInt64 x2 &&& 63)) &&& (1 : Int64)) (0 : Int64)) = 0 then (
          am_ck (am_inb x1 64) (
          am_ck (am_inb x1 64) (
          am_let (am_upL L (R a0 11) (Int32.toNatClampNeg x1) ((L (R a0 11) (Int32.toNatClampNeg x1)) ||| ((1 : Int64) <<< (Int32.toInt64 x2 &&& 63)))) (fun J8 =>
          am_ck (am_inb (I a0 9) 4096) (
          am_let (am_upI I (R a0 8) (Int32.toNatClampNeg (I a0 9)) ((x3 ||| (x1 <<< ((6 : Int32) &&& 31))) ||| x2)) (fun J10 =>
          am_let (am_upI J10 a0 9 ((J10 a0 9) + (1 : Int32))) (fun J11 =>
          some (J11, J8)))))))) else (
          some (I, L)))) else (
        some (I, L))))
noncomputable def pX9_nodeAt (R : am_R) (I : am_I) (a0 : Nat) (x1 : Int32) : Option (Int32) :=
  if x1 < 0 then (
    some (0 : Int32)) else (
    if (4096 : Int32) ≤ x1 then (
      some (0 : Int32)) else (
      am_ck (am_inb x1 4096) (
      some (I (R a0 8) (Int32.toNatClampNeg x1)))))
noncomputable def pX9_firstSet (R : am_R) (I : am_I) (a0 : Nat) (x1 : Int32) : Option (Int32) :=
  Option.bind (pX9_nodeAt R I a0 x1) (fun r1 =>
  some ((r1 >>> ((6 : Int32) &&& 31)) &&& (63 : Int32)))
noncomputable def pX9_secondSet (R : am_R) (I : am_I) (a0 : Nat) (x1 : Int32) : Option (Int32) :=
  Option.bind (pX9_nodeAt R I a0 x1) (fun r1 =>
  some (r1 &&& (63 : Int32)))
noncomputable def pX9_isGoal (I : am_I) (a0 : Nat) (x1 : Int32) (x2 : Int32) : Option (Int32) :=
  if (I a0 5) = (2 : Int32) then (
    am_let ((I a0 6) ||| (I a0 7)) (fun v7 =>
    if (x1 &&& v7) = v7 then (
      if (x2 &&& (I a0 7)) = 0 then (
        some (0 : Int32)) else (
        some (1 : Int32))) else (
      some (0 : Int32)))) else (
    if (I a0 5) = (1 : Int32) then (
      if (x2 &&& (I a0 6)) = 0 then (
        some (0 : Int32)) else (
        some (1 : Int32))) else (
      if (x2 &&& (I a0 3)) = 0 then (
        Option.bind (pJ6_bitCount_0f7a4 (x1 &&& (I a0 3))) (fun r4 =>
        if r4 ≤ (1 : Int32) then (
          some (0 : Int32)) else (
          some (1 : Int32)))) else (
        some (1 : Int32))))
noncomputable def pX9_goOn (R : am_R) (I : am_I) (L : am_L) (a0 : Nat) (x1 : Int32) (x2 : Int32) : Option (am_I × am_L) :=
  Option.bind (pX9_firstSet R I a0 x1) (fun r1 =>
  Option.bind (pX9_secondSet R I a0 x1) (fun r2 =>
  Option.bind (pX6_reachedOnce R I (R a0 0) r1 x2) (fun r4 =>
  Option.bind (pX6_reachedOnce R I (R a0 0) r2 x2) (fun r6 =>
  am_jn (fun (v8 : Int32) =>
  Option.bind (pX9_meet R I L a0 r4 v8 ((x1 <<< ((14 : Int32) &&& 31)) ||| (x2 <<< ((12 : Int32) &&& 31)))) (fun r9 =>
  some (r9.1, r9.2))) (fun j7 =>
  if (I a0 5) = (2 : Int32) then (
    j7 r6) else (
    Option.bind (pX6_reachedTwice R I (R a0 0) (r1 &&& (r2 ^^^ (-1 : Int32))) x2) (fun r12 =>
    am_let (r6 ||| r12) (fun v13 =>
    j7 v13))))))))
noncomputable def sX9_run_84 (R : am_R) (a0 : Nat) (v7 : Int32) (j18 : am_I → am_L → Option (Int32 × am_I × am_L)) (ih25 : Int32 → am_I → am_L → Option (Int32 × am_I × am_L)) (v22 : Int32) (J23 : am_I) (J24 : am_L) : Option (Int32 × am_I × am_L) :=
  if (3 : Int32) ≤ v22 then (
    j18 J23 J24) else (
    Option.bind (pX9_goOn R J23 J24 a0 v7 v22) (fun r27 =>
    ih25 (v22 + (1 : Int32)) r27.1 r27.2))
noncomputable def lX9_run_84 (R : am_R) (a0 : Nat) (v7 : Int32) (j18 : am_I → am_L → Option (Int32 × am_I × am_L)) : Nat → Int32 → am_I → am_L → Option (Int32 × am_I × am_L)
  | 0, _, _, _ => none
  | n + 1, v22, J23, J24 => sX9_run_84 R a0 v7 j18 (lX9_run_84 R a0 v7 j18 n) v22 J23 J24
noncomputable def sX9_run_40 (R : am_R) (a0 : Nat) (ih10 : Int32 → am_I → am_L → Option (Int32 × am_I × am_L)) (v7 : Int32) (J8 : am_I) (J9 : am_L) : Option (Int32 × am_I × am_L) :=
  if (J8 a0 9) ≤ v7 then (
    some ((0 : Int32), J8, J9)) else (
    if (4096 : Int32) ≤ v7 then (
      some ((0 : Int32), J8, J9)) else (
      Option.bind (pX9_firstSet R J8 a0 v7) (fun r14 =>
      Option.bind (pX9_secondSet R J8 a0 v7) (fun r15 =>
      Option.bind (pX9_isGoal J8 a0 r14 r15) (fun r16 =>
      if r16 = 0 then (
        am_jn (fun (J19 : am_I) (J20 : am_L) =>
  ih10 (v7 + (1 : Int32)) J19 J20) (fun j18 =>
        lX9_run_84 R a0 v7 j18 am_fu (0 : Int32) J8 J9)) else (
        am_let (am_upI J8 a0 10 v7) (fun J28 =>
        some ((1 : Int32), J28, J9))))))))
noncomputable def lX9_run_40 (R : am_R) (a0 : Nat) : Nat → Int32 → am_I → am_L → Option (Int32 × am_I × am_L)
  | 0, _, _, _ => none
  | n + 1, v7, J8, J9 => sX9_run_40 R a0 (lX9_run_40 R a0 n) v7 J8 J9
noncomputable def sX9_run_2 (R : am_R) (I : am_I) (a0 : Nat) (x1 : Int32) (x2 : Int32) (j1 : am_L → Option (Int32 × am_I × am_L)) (ih32 : Int32 → am_L → Option (Int32 × am_I × am_L)) (v30 : Int32) (J31 : am_L) : Option (Int32 × am_I × am_L) :=
  if (64 : Int32) ≤ v30 then (
    j1 J31) else (
    am_ck (am_inb v30 64) (
    am_let (am_upL J31 (R a0 11) (Int32.toNatClampNeg v30) (0 : Int64)) (fun J35 =>
    ih32 (v30 + (1 : Int32)) J35)))
noncomputable def lX9_run_2 (R : am_R) (I : am_I) (a0 : Nat) (x1 : Int32) (x2 : Int32) (j1 : am_L → Option (Int32 × am_I × am_L)) : Nat → Int32 → am_L → Option (Int32 × am_I × am_L)
  | 0, _, _ => none
  | n + 1, v30, J31 => sX9_run_2 R I a0 x1 x2 j1 (lX9_run_2 R I a0 x1 x2 j1 n) v30 J31
noncomputable def pX9_run (R : am_R) (I : am_I) (L : am_L) (a0 : Nat) (x1 : Int32) (x2 : Int32) : Option (Int32 × am_I × am_L) :=
  am_jn (fun (J2 : am_L) =>
  am_let (am_upI I a0 9 (0 : Int32)) (fun J3 =>
  am_let (am_upI J3 a0 10 (-1 : Int32)) (fun J4 =>
  Option.bind (pX9_meet R J4 J2 a0 x1 x2 (0 : Int32)) (fun r5 =>
  lX9_run_40 R a0 am_fu (0 : Int32) r5.1 r5.2)))) (fun j1 =>
  lX9_run_2 R I a0 x1 x2 j1 am_fu (0 : Int32) L)
noncomputable def pX9_findAmbiguousWord (R : am_R) (I : am_I) (L : am_L) (a0 : Nat) : Option (Int32 × am_I × am_L) :=
  am_let (am_upI I a0 5 (0 : Int32)) (fun J1 =>
  Option.bind (pX9_run R J1 L a0 (J1 a0 2) (0 : Int32)) (fun r2 =>
  am_ck (am_isb r2.1) (
  some (r2.1, r2.2.1, r2.2.2))))
noncomputable def pX9_findLoopWord (R : am_R) (I : am_I) (L : am_L) (a0 : Nat) (x1 : Int32) : Option (Int32 × am_I × am_L) :=
  am_let (am_upI I a0 5 (1 : Int32)) (fun J1 =>
  am_let (am_upI J1 a0 6 ((1 : Int32) <<< (x1 &&& 31))) (fun J2 =>
  Option.bind (pX10_contains (J2 a0 4) x1) (fun r3 =>
  if r3 = 0 then (
    some ((0 : Int32), J2, L)) else (
    Option.bind (pX9_run R J2 L a0 (J2 a0 6) (0 : Int32)) (fun r5 =>
    if r5.1 = 0 then (
      some ((0 : Int32), r5.2.1, r5.2.2)) else (
      some ((1 : Int32), r5.2.1, r5.2.2)))))))
noncomputable def sX9_lowestLoopState_2 (R : am_R) (a0 : Nat) (ih5 : Int32 → am_I → am_L → Option (Int32 × am_I × am_L)) (v2 : Int32) (J3 : am_I) (J4 : am_L) : Option (Int32 × am_I × am_L) :=
  if (J3 a0 1) ≤ v2 then (
    some ((-1 : Int32), J3, J4)) else (
    Option.bind (pX9_findLoopWord R J3 J4 a0 v2) (fun r7 =>
    if r7.1 = 0 then (
      ih5 (v2 + (1 : Int32)) r7.2.1 r7.2.2) else (
      some (v2, r7.2.1, r7.2.2))))
noncomputable def lX9_lowestLoopState_2 (R : am_R) (a0 : Nat) : Nat → Int32 → am_I → am_L → Option (Int32 × am_I × am_L)
  | 0, _, _, _ => none
  | n + 1, v2, J3, J4 => sX9_lowestLoopState_2 R a0 (lX9_lowestLoopState_2 R a0 n) v2 J3 J4
noncomputable def pX9_lowestLoopState (R : am_R) (I : am_I) (L : am_L) (a0 : Nat) : Option (Int32 × am_I × am_L) :=
  lX9_lowestLoopState_2 R a0 am_fu (0 : Int32) I L
noncomputable def pX9_findSplitWord (R : am_R) (I : am_I) (L : am_L) (a0 : Nat) (x1 : Int32) (x2 : Int32) : Option (Int32 × am_I × am_L) :=
  am_let (am_upI I a0 5 (2 : Int32)) (fun J1 =>
  am_let (am_upI J1 a0 6 ((1 : Int32) <<< (x1 &&& 31))) (fun J2 =>
  am_let (am_upI J2 a0 7 ((1 : Int32) <<< (x2 &&& 31))) (fun J3 =>
  if x1 = x2 then (
    some ((0 : Int32), J3, L)) else (
    Option.bind (pX10_contains (J3 a0 4) x1) (fun r5 =>
    if r5 = 0 then (
      some ((0 : Int32), J3, L)) else (
      Option.bind (pX10_contains (J3 a0 4) x2) (fun r7 =>
      if r7 = 0 then (
        some ((0 : Int32), J3, L)) else (
        Option.bind (pX9_run R J3 L a0 (J3 a0 6) (J3 a0 7)) (fun r9 =>
        if r9.1 = 0 then (
          some ((0 : Int32), r9.2.1, r9.2.2)) else (
          some ((1 : Int32), r9.2.1, r9.2.2)))))))))))
noncomputable def sX9_firstSplitPair_12 (R : am_R) (a0 : Nat) (v2 : Int32) (j7 : am_I → am_L → Option (Int32 × am_I × am_L)) (ih14 : Int32 → am_I → am_L → Option (Int32 × am_I × am_L)) (v11 : Int32) (J12 : am_I) (J13 : am_L) : Option (Int32 × am_I × am_L) :=
  if (J12 a0 1) ≤ v11 then (
    j7 J12 J13) else (
    Option.bind (pX9_findSplitWord R J12 J13 a0 v2 v11) (fun r16 =>
    if r16.1 = 0 then (
      ih14 (v11 + (1 : Int32)) r16.2.1 r16.2.2) else (
      some ((((8 : Int32) * v2) + v11), r16.2.1, r16.2.2))))
noncomputable def lX9_firstSplitPair_12 (R : am_R) (a0 : Nat) (v2 : Int32) (j7 : am_I → am_L → Option (Int32 × am_I × am_L)) : Nat → Int32 → am_I → am_L → Option (Int32 × am_I × am_L)
  | 0, _, _, _ => none
  | n + 1, v11, J12, J13 => sX9_firstSplitPair_12 R a0 v2 j7 (lX9_firstSplitPair_12 R a0 v2 j7 n) v11 J12 J13
noncomputable def sX9_firstSplitPair_2 (R : am_R) (a0 : Nat) (ih5 : Int32 → am_I → am_L → Option (Int32 × am_I × am_L)) (v2 : Int32) (J3 : am_I) (J4 : am_L) : Option (Int32 × am_I × am_L) :=
  if (J3 a0 1) ≤ v2 then (
    some ((-1 : Int32), J3, J4)) else (
    am_jn (fun (J8 : am_I) (J9 : am_L) =>
  ih5 (v2 + (1 : Int32)) J8 J9) (fun j7 =>
    lX9_firstSplitPair_12 R a0 v2 j7 am_fu (0 : Int32) J3 J4))
noncomputable def lX9_firstSplitPair_2 (R : am_R) (a0 : Nat) : Nat → Int32 → am_I → am_L → Option (Int32 × am_I × am_L)
  | 0, _, _, _ => none
  | n + 1, v2, J3, J4 => sX9_firstSplitPair_2 R a0 (lX9_firstSplitPair_2 R a0 n) v2 J3 J4
noncomputable def pX9_firstSplitPair (R : am_R) (I : am_I) (L : am_L) (a0 : Nat) : Option (Int32 × am_I × am_L) :=
  lX9_firstSplitPair_2 R a0 am_fu (0 : Int32) I L
noncomputable def pX9_growthKind (R : am_R) (I : am_I) (L : am_L) (a0 : Nat) : Option (Int32 × am_I × am_L) :=
  Option.bind (pX9_findAmbiguousWord R I L a0) (fun r1 =>
  if r1.1 = 0 then (
    some ((0 : Int32), r1.2.1, r1.2.2)) else (
    Option.bind (pX9_lowestLoopState R r1.2.1 r1.2.2 a0) (fun r3 =>
    if r3.1 = (-1 : Int32) then (
      Option.bind (pX9_firstSplitPair R r3.2.1 r3.2.2 a0) (fun r5 =>
      if r5.1 = (-1 : Int32) then (
        some ((1 : Int32), r5.2.1, r5.2.2)) else (
        some ((2 : Int32), r5.2.1, r5.2.2)))) else (
      some ((3 : Int32), r3.2.1, r3.2.2)))))
noncomputable def sX9_splitPairs_15 (R : am_R) (a0 : Nat) (v3 : Int32) (j8 : Int64 → am_I → am_L → Option (Int64 × am_I × am_L)) (ih17 : Int64 → Int32 → am_I → am_L → Option (Int64 × am_I × am_L)) (v13 : Int64) (v14 : Int32) (J15 : am_I) (J16 : am_L) : Option (Int64 × am_I × am_L) :=
  if (J15 a0 1) ≤ v14 then (
    j8 v13 J15 J16) else (
    Option.bind (pX9_findSplitWord R J15 J16 a0 v3 v14) (fun r19 =>
    am_let (if r19.1 = 0 then (0 : Int64) else ((1 : Int64) <<< (Int32.toInt64 ((v3 * (6 : Int32)) + v14) &&& 63))) (fun v20 =>
    am_let (v13 ||| v20) (fun v22 =>
    ih17 v22 (v14 + (1 : Int32)) r19.2.1 r19.2.2))))
noncomputable def lX9_splitPairs_15 (R : am_R) (a0 : Nat) (v3 : Int32) (j8 : Int64 → am_I → am_L → Option (Int64 × am_I × am_L)) : Nat → Int64 → Int32 → am_I → am_L → Option (Int64 × am_I × am_L)
  | 0, _, _, _, _ => none
  | n + 1, v13, v14, J15, J16 => sX9_splitPairs_15 R a0 v3 j8 (lX9_splitPairs_15 R a0 v3 j8 n) v13 v14 J15 J16
noncomputable def sX9_splitPairs_4 (R : am_R) (a0 : Nat) (ih6 : Int64 → Int32 → am_I → am_L → Option (Int64 × am_I × am_L)) (v2 : Int64) (v3 : Int32) (J4 : am_I) (J5 : am_L) : Option (Int64 × am_I × am_L) :=
  if (J4 a0 1) ≤ v3 then (
    some (v2, J4, J5)) else (
    am_jn (fun (v9 : Int64) (J10 : am_I) (J11 : am_L) =>
  ih6 v9 (v3 + (1 : Int32)) J10 J11) (fun j8 =>
    lX9_splitPairs_15 R a0 v3 j8 am_fu v2 (0 : Int32) J4 J5))
noncomputable def lX9_splitPairs_4 (R : am_R) (a0 : Nat) : Nat → Int64 → Int32 → am_I → am_L → Option (Int64 × am_I × am_L)
  | 0, _, _, _, _ => none
  | n + 1, v2, v3, J4, J5 => sX9_splitPairs_4 R a0 (lX9_splitPairs_4 R a0 n) v2 v3 J4 J5
noncomputable def pX9_splitPairs (R : am_R) (I : am_I) (L : am_L) (a0 : Nat) : Option (Int64 × am_I × am_L) :=
  lX9_splitPairs_4 R a0 am_fu (0 : Int64) (0 : Int32) I L
noncomputable def sX9_prolongChains_33 (R : am_R) (a0 : Nat) (v4 : Int32) (r5 : Int32) (ih9 : Int32 → am_I → Option (am_I)) (v7 : Int32) (J8 : am_I) : Option (am_I) :=
  if (6 : Int32) ≤ v7 then (
    some J8) else (
    Option.bind (pX10_contains r5 v7) (fun r11 =>
    am_jn (fun (J13 : am_I) =>
  ih9 (v7 + (1 : Int32)) J13) (fun j12 =>
    if r11 = 0 then (
      j12 J8) else (
      am_ck (am_inb v7 6) (
      am_ck (am_inb v7 6) (
      am_let (am_upI J8 (R a0 12) (Int32.toNatClampNeg v7) (if (J8 (R a0 12) (Int32.toNatClampNeg v7)) < v4 then v4 else (J8 (R a0 12) (Int32.toNatClampNeg v7)))) (fun J17 =>
      j12 J17)))))))
noncomputable def lX9_prolongChains_33 (R : am_R) (a0 : Nat) (v4 : Int32) (r5 : Int32) : Nat → Int32 → am_I → Option (am_I)
  | 0, _, _ => none
  | n + 1, v7, J8 => sX9_prolongChains_33 R a0 v4 r5 (lX9_prolongChains_33 R a0 v4 r5 n) v7 J8
noncomputable def pX9_prolongChains (R : am_R) (I : am_I) (a0 : Nat) (a1 : Nat) (x2 : Int32) (x3 : Int32) : Option (am_I) :=
  if x2 < 0 then (
    some I) else (
    if x2 < (6 : Int32) then (
      am_ck (am_inb x2 6) (
      am_let ((I (R a0 12) (Int32.toNatClampNeg x2)) + (1 : Int32)) (fun v4 =>
      Option.bind (pX0_reachedFrom R I a1 ((1 : Int32) <<< (x3 &&& 31))) (fun r5 =>
      lX9_prolongChains_33 R a0 v4 r5 am_fu (0 : Int32) I)))) else (
      some I))
noncomputable def sX9_longestChain_95 (R : am_R) (a0 : Nat) (J5 : am_I) (J9 : am_L) (ih10 : Int32 → Int32 → Option (Int32 × am_I × am_L)) (v7 : Int32) (v8 : Int32) : Option (Int32 × am_I × am_L) :=
  if (6 : Int32) ≤ v8 then (
    some (v7, J5, J9)) else (
    am_ck (am_inb v8 6) (
    am_let (if v7 < (J5 (R a0 12) (Int32.toNatClampNeg v8)) then (J5 (R a0 12) (Int32.toNatClampNeg v8)) else v7) (fun v13 =>
    ih10 v13 (v8 + (1 : Int32)))))
noncomputable def lX9_longestChain_95 (R : am_R) (a0 : Nat) (J5 : am_I) (J9 : am_L) : Nat → Int32 → Int32 → Option (Int32 × am_I × am_L)
  | 0, _, _ => none
  | n + 1, v7, v8 => sX9_longestChain_95 R a0 J5 J9 (lX9_longestChain_95 R a0 J5 J9 n) v7 v8
noncomputable def sX9_longestChain_44 (R : am_R) (a0 : Nat) (a1 : Nat) (c16 : Int64) (v17 : Int32) (J19 : am_L) (j22 : am_I → Option (Int32 × am_I × am_L)) (ih28 : Int32 → am_I → Option (Int32 × am_I × am_L)) (v26 : Int32) (J27 : am_I) : Option (Int32 × am_I × am_L) :=
  if (36 : Int32) ≤ v26 then (
    j22 J27) else (
    am_jn (fun (J31 : am_I) =>
  ih28 (v26 + (1 : Int32)) J31) (fun j30 =>
    if (lg_cmp ((c16 >>> (Int32.toInt64 v26 &&& 63)) &&& (1 : Int64)) (0 : Int64)) = 0 then (
      j30 J27) else (
      Option.bind (pX9_prolongChains R J27 a0 a1 (v26 / (6 : Int32)) (v26 - v26 / (6 : Int32) * (6 : Int32))) (fun r33 =>
      j30 r33))))
noncomputable def lX9_longestChain_44 (R : am_R) (a0 : Nat) (a1 : Nat) (c16 : Int64) (v17 : Int32) (J19 : am_L) (j22 : am_I → Option (Int32 × am_I × am_L)) : Nat → Int32 → am_I → Option (Int32 × am_I × am_L)
  | 0, _, _ => none
  | n + 1, v26, J27 => sX9_longestChain_44 R a0 a1 c16 v17 J19 j22 (lX9_longestChain_44 R a0 a1 c16 v17 J19 j22 n) v26 J27
noncomputable def sX9_longestChain_32 (R : am_R) (a0 : Nat) (a1 : Nat) (c16 : Int64) (J19 : am_L) (j4 : am_I → Option (Int32 × am_I × am_L)) (ih20 : Int32 → am_I → Option (Int32 × am_I × am_L)) (v17 : Int32) (J18 : am_I) : Option (Int32 × am_I × am_L) :=
  if (J18 a0 1) ≤ v17 then (
    j4 J18) else (
    am_jn (fun (J23 : am_I) =>
  ih20 (v17 + (1 : Int32)) J23) (fun j22 =>
    lX9_longestChain_44 R a0 a1 c16 v17 J19 j22 am_fu (0 : Int32) J18))
noncomputable def lX9_longestChain_32 (R : am_R) (a0 : Nat) (a1 : Nat) (c16 : Int64) (J19 : am_L) (j4 : am_I → Option (Int32 × am_I × am_L)) : Nat → Int32 → am_I → Option (Int32 × am_I × am_L)
  | 0, _, _ => none
  | n + 1, v17, J18 => sX9_longestChain_32 R a0 a1 c16 J19 j4 (lX9_longestChain_32 R a0 a1 c16 J19 j4 n) v17 J18
noncomputable def sX9_longestChain_8 (R : am_R) (a0 : Nat) (a1 : Nat) (c36 : Int64) (J39 : am_L) (j2 : am_I → Option (Int32 × am_I × am_L)) (ih40 : Int32 → am_I → Option (Int32 × am_I × am_L)) (v37 : Int32) (J38 : am_I) : Option (Int32 × am_I × am_L) :=
  if (6 : Int32) ≤ v37 then (
    j2 J38) else (
    am_ck (am_inb v37 6) (
    am_let (am_upI J38 (R a0 12) (Int32.toNatClampNeg v37) (0 : Int32)) (fun J43 =>
    ih40 (v37 + (1 : Int32)) J43)))
noncomputable def lX9_longestChain_8 (R : am_R) (a0 : Nat) (a1 : Nat) (c36 : Int64) (J39 : am_L) (j2 : am_I → Option (Int32 × am_I × am_L)) : Nat → Int32 → am_I → Option (Int32 × am_I × am_L)
  | 0, _, _ => none
  | n + 1, v37, J38 => sX9_longestChain_8 R a0 a1 c36 J39 j2 (lX9_longestChain_8 R a0 a1 c36 J39 j2 n) v37 J38
noncomputable def pX9_longestChain (R : am_R) (I : am_I) (L : am_L) (a0 : Nat) (a1 : Nat) : Option (Int32 × am_I × am_L) :=
  Option.bind (pX9_splitPairs R I L a0) (fun r1 =>
  am_jn (fun (J3 : am_I) =>
  am_jn (fun (J5 : am_I) =>
  lX9_longestChain_95 R a0 J5 r1.2.2 am_fu (0 : Int32) (0 : Int32)) (fun j4 =>
  lX9_longestChain_32 R a0 a1 r1.1 r1.2.2 j4 am_fu (1 : Int32) J3)) (fun j2 =>
  lX9_longestChain_8 R a0 a1 r1.1 r1.2.2 j2 am_fu (0 : Int32) r1.2.1))
noncomputable def sX9_copyFoundWordTo_48 (R : am_R) (a0 : Nat) (a1 : Nat) (ih12 : Int32 → Int32 → am_I → Option (am_I)) (v9 : Int32) (v10 : Int32) (J11 : am_I) : Option (am_I) :=
  if v10 < 0 then (
    some J11) else (
    Option.bind (pX9_nodeAt R J11 a0 v9) (fun r14 =>
    Option.bind (pX8_setLetter R J11 a1 v10 ((r14 >>> ((12 : Int32) &&& 31)) &&& (3 : Int32))) (fun r15 =>
    Option.bind (pX9_nodeAt R r15 a0 v9) (fun r16 =>
    am_let (r16 >>> ((14 : Int32) &&& 31)) (fun v17 =>
    ih12 v17 (v10 + (-1 : Int32)) r15)))))
noncomputable def lX9_copyFoundWordTo_48 (R : am_R) (a0 : Nat) (a1 : Nat) : Nat → Int32 → Int32 → am_I → Option (am_I)
  | 0, _, _, _ => none
  | n + 1, v9, v10, J11 => sX9_copyFoundWordTo_48 R a0 a1 (lX9_copyFoundWordTo_48 R a0 a1 n) v9 v10 J11
noncomputable def sX9_copyFoundWordTo_7 (R : am_R) (I : am_I) (a0 : Nat) (a1 : Nat) (j2 : Int32 → Option (am_I)) (ih22 : Int32 → Int32 → Option (am_I)) (v20 : Int32) (v21 : Int32) : Option (am_I) :=
  if v21 ≤ 0 then (
    j2 v20) else (
    if (216 : Int32) ≤ v20 then (
      j2 v20) else (
      Option.bind (pX9_nodeAt R I a0 v21) (fun r25 =>
      am_let (r25 >>> ((14 : Int32) &&& 31)) (fun v26 =>
      ih22 (v20 + (1 : Int32)) v26))))
noncomputable def lX9_copyFoundWordTo_7 (R : am_R) (I : am_I) (a0 : Nat) (a1 : Nat) (j2 : Int32 → Option (am_I)) : Nat → Int32 → Int32 → Option (am_I)
  | 0, _, _ => none
  | n + 1, v20, v21 => sX9_copyFoundWordTo_7 R I a0 a1 j2 (lX9_copyFoundWordTo_7 R I a0 a1 j2 n) v20 v21
noncomputable def pX9_copyFoundWordTo (R : am_R) (I : am_I) (a0 : Nat) (a1 : Nat) : Option (am_I) :=
  am_let (I a0 10) (fun v1 =>
  am_jn (fun (v3 : Int32) =>
  am_let (am_upI I a1 0 v3) (fun J4 =>
  am_let (J4 a0 10) (fun v5 =>
  am_let (v3 - (1 : Int32)) (fun v6 =>
  lX9_copyFoundWordTo_48 R a0 a1 am_fu v5 v6 J4)))) (fun j2 =>
  lX9_copyFoundWordTo_7 R I a0 a1 j2 am_fu (0 : Int32) v1))
noncomputable def pX10_reset (R : am_R) (I : am_I) (a0 : Nat) (x1 : Int32) : Option (Int32 × am_I) :=
  if x1 < (1 : Int32) then (
    some ((-2 : Int32), I)) else (
    if x1 ≤ (6 : Int32) then (
      am_let (I (R a0 0) 0) (fun v4 =>
      Option.bind (pX0_clear R I (R a0 0) x1) (fun r6 =>
      some (v4, r6)))) else (
      some ((-2 : Int32), I)))
noncomputable def pX10_stateCount (R : am_R) (I : am_I) (a0 : Nat) : Option (Int32) :=
  some (I (R a0 0) 0)
noncomputable def pX10_addTransition (R : am_R) (I : am_I) (a0 : Nat) (x1 : Int32) (x2 : Int32) (x3 : Int32) : Option (Int32 × am_I) :=
  Option.bind (pX0_couldHave I (R a0 0) x1 x2 x3) (fun r2 =>
  if r2 = 0 then (
    some ((-1 : Int32), I)) else (
    Option.bind (pX0_add R I (R a0 0) x1 x2 x3) (fun r5 =>
    if r5.1 = 0 then (
      some ((0 : Int32), r5.2)) else (
      some ((1 : Int32), r5.2)))))
noncomputable def pX10_removeTransition (R : am_R) (I : am_I) (a0 : Nat) (x1 : Int32) (x2 : Int32) (x3 : Int32) : Option (Int32 × am_I) :=
  Option.bind (pX0_couldHave I (R a0 0) x1 x2 x3) (fun r2 =>
  if r2 = 0 then (
    some ((-1 : Int32), I)) else (
    Option.bind (pX0_remove R I (R a0 0) x1 x2 x3) (fun r5 =>
    if r5.1 = 0 then (
      some ((0 : Int32), r5.2)) else (
      some ((1 : Int32), r5.2)))))
noncomputable def pX10_transitionCount (R : am_R) (I : am_I) (a0 : Nat) : Option (Int32) :=
  Option.bind (pX0_countTransitions R I (R a0 0)) (fun r2 =>
  some r2)
noncomputable def pX10_withBit (x0 : Int32) (x1 : Int32) (x2 : Int32) : Option (Int32) :=
  if x2 = 0 then (
    some (x0 &&& (((1 : Int32) <<< (x1 &&& 31)) ^^^ (-1 : Int32)))) else (
    some (x0 ||| ((1 : Int32) <<< (x1 &&& 31))))
noncomputable def pX10_setInitial (R : am_R) (I : am_I) (a0 : Nat) (x1 : Int32) (x2 : Int32) : Option (Int32 × am_I) :=
  Option.bind (pX0_hasState I (R a0 0) x1) (fun r2 =>
  if r2 = 0 then (
    some ((-1 : Int32), I)) else (
    am_let (((I (R a0 0) 1) >>> (x1 &&& 31)) &&& (1 : Int32)) (fun v5 =>
    Option.bind (pX10_withBit (I (R a0 0) 1) x1 x2) (fun r8 =>
    am_let (am_upI I (R a0 0) 1 r8) (fun J9 =>
    some (v5, J9))))))
noncomputable def pX10_setFinal (R : am_R) (I : am_I) (a0 : Nat) (x1 : Int32) (x2 : Int32) : Option (Int32 × am_I) :=
  Option.bind (pX0_hasState I (R a0 0) x1) (fun r2 =>
  if r2 = 0 then (
    some ((-1 : Int32), I)) else (
    am_let (((I (R a0 0) 2) >>> (x1 &&& 31)) &&& (1 : Int32)) (fun v5 =>
    Option.bind (pX10_withBit (I (R a0 0) 2) x1 x2) (fun r8 =>
    am_let (am_upI I (R a0 0) 2 r8) (fun J9 =>
    some (v5, J9))))))
noncomputable def pX10_initialStates (R : am_R) (I : am_I) (a0 : Nat) : Option (Int32) :=
  some (I (R a0 0) 1)
noncomputable def pX10_finalStates (R : am_R) (I : am_I) (a0 : Nat) : Option (Int32) :=
  some (I (R a0 0) 2)
noncomputable def pX10_successors (R : am_R) (I : am_I) (a0 : Nat) (x1 : Int32) (x2 : Int32) : Option (Int32) :=
  Option.bind (pX0_hasState I (R a0 0) x1) (fun r2 =>
  if r2 = 0 then (
    some (-1 : Int32)) else (
    Option.bind (pX10_isLetter x2) (fun r4 =>
    if r4 = 0 then (
      some (-1 : Int32)) else (
      Option.bind (pX0_targetsOf R I (R a0 0) x1 x2) (fun r7 =>
      some r7)))))
noncomputable def pX10_usefulStates (R : am_R) (I : am_I) (a0 : Nat) : Option (Int32) :=
  Option.bind (pX0_usefulSet R I (R a0 0)) (fun r2 =>
  some r2)
noncomputable def pX10_trim (R : am_R) (I : am_I) (a0 : Nat) : Option (Int32 × am_I) :=
  Option.bind (pX0_usefulSet R I (R a0 0)) (fun r2 =>
  if r2 = 0 then (
    Option.bind (pX0_clear R I (R a0 0) (1 : Int32)) (fun r8 =>
    some ((r8 (R a0 0) 0), r8))) else (
    Option.bind (pX0_keepOnly R I (R a0 0) r2) (fun r5 =>
    some ((r5 (R a0 0) 0), r5))))
noncomputable def pX10_randomize (R : am_R) (I : am_I) (a0 : Nat) (x1 : Int32) (x2 : Int32) : Option (Int32 × am_I) :=
  if x2 < 0 then (
    some ((-2 : Int32), I)) else (
    if x2 ≤ (20 : Int32) then (
      Option.bind (pX0_addRandom R I (R a0 0) x1 x2) (fun r4 =>
      Option.bind (pX0_countTransitions R r4 (R a0 0)) (fun r6 =>
      some (r6, r4)))) else (
      some ((-2 : Int32), I)))
noncomputable def pX10_append (R : am_R) (I : am_I) (a0 : Nat) (x1 : Int32) : Option (Int32 × am_I) :=
  if x1 < (32 : Int32) then (
    some ((-2 : Int32), I)) else (
    if x1 ≤ (126 : Int32) then (
      Option.bind (pX7_add R I (R a0 5) x1) (fun r4 =>
      if r4.1 = 0 then (
        some ((-3 : Int32), r4.2)) else (
        some ((r4.2 (R a0 5) 0), r4.2)))) else (
      some ((-2 : Int32), I)))
noncomputable def pX10_parse (R : am_R) (I : am_I) (a0 : Nat) : Option (Int32 × am_I) :=
  Option.bind (pX7_errorPosition R I (R a0 5) (I (R a0 0) 0)) (fun r3 =>
  am_jn (fun (v5 : Int32) (J6 : am_I) =>
  am_let (am_upI J6 (R a0 5) 0 (0 : Int32)) (fun J8 =>
  some (v5, J8))) (fun j4 =>
  if r3 = (-1 : Int32) then (
    Option.bind (pX7_addItemsTo R I (R a0 5) (R a0 0)) (fun r12 =>
    j4 r12.1 r12.2)) else (
    j4 ((-100 : Int32) - r3) I)))
noncomputable def pX10_appendLetter (R : am_R) (I : am_I) (a0 : Nat) (x1 : Int32) : Option (Int32 × am_I) :=
  Option.bind (pX10_isLetter x1) (fun r1 =>
  if r1 = 0 then (
    some ((-1 : Int32), I)) else (
    if (I (R a0 6) 0) < (20 : Int32) then (
      Option.bind (pX8_add R I (R a0 6) x1) (fun r6 =>
      some ((r6 (R a0 6) 0), r6))) else (
      some ((-3 : Int32), I))))
noncomputable def pX10_clearWord (R : am_R) (I : am_I) (a0 : Nat) : Option (Int32 × am_I) :=
  am_let (I (R a0 6) 0) (fun v2 =>
  am_let (am_upI I (R a0 6) 0 (0 : Int32)) (fun J4 =>
  some (v2, J4)))
noncomputable def pX10_wordLength (R : am_R) (I : am_I) (a0 : Nat) : Option (Int32) :=
  some (I (R a0 6) 0)
noncomputable def pX10_wordLetter (R : am_R) (I : am_I) (a0 : Nat) (x1 : Int32) : Option (Int32) :=
  Option.bind (pX8_hasPosition R I (R a0 6) x1) (fun r2 =>
  if r2 = 0 then (
    some (-1 : Int32)) else (
    Option.bind (pX8_letterAt R I (R a0 6) x1) (fun r5 =>
    some r5)))
noncomputable def pX10_wordAmbiguity (R : am_R) (I : am_I) (L : am_L) (a0 : Nat) : Option (Int64 × am_L) :=
  Option.bind (pX1_pathsOf R I L (R a0 11) (R a0 0) (R a0 6)) (fun r4 =>
  some (r4.1, r4.2))
noncomputable def pX10_isCountedLength (x0 : Int32) : Option (Int32) :=
  if x0 < 0 then (
    some (0 : Int32)) else (
    if (60 : Int32) < x0 then (
      some (0 : Int32)) else (
      some (1 : Int32)))
noncomputable def pX10_pathsOfLength (R : am_R) (I : am_I) (L : am_L) (a0 : Nat) (x1 : Int32) : Option (Int64 × am_L) :=
  Option.bind (pX10_isCountedLength x1) (fun r1 =>
  if r1 = 0 then (
    some ((-2 : Int64), L)) else (
    Option.bind (pX1_countPaths R I L (R a0 11) (R a0 0) x1) (fun r5 =>
    some (r5.1, r5.2))))
noncomputable def pX10_wordsOfLength (R : am_R) (I : am_I) (L : am_L) (a0 : Nat) (x1 : Int32) : Option (Int64 × am_I × am_L) :=
  Option.bind (pX10_isCountedLength x1) (fun r1 =>
  if r1 = 0 then (
    some ((-2 : Int64), I, L)) else (
    Option.bind (pX6_load R I (R a0 10) (R a0 0)) (fun r5 =>
    Option.bind (pX1_countWords R r5 L (R a0 11) (R a0 0) (R a0 10) x1) (fun r9 =>
    some (r9.1, r5, r9.2)))))
noncomputable def pX10_averageBits (R : am_R) (I : am_I) (L : am_L) (a0 : Nat) (x1 : Int32) : Option (Int64 × am_I × am_L) :=
  Option.bind (pX10_isCountedLength x1) (fun r1 =>
  if r1 = 0 then (
    some ((-2 : Int64), I, L)) else (
    Option.bind (pX6_load R I (R a0 10) (R a0 0)) (fun r5 =>
    Option.bind (pX1_countPaths R r5 L (R a0 11) (R a0 0) x1) (fun r8 =>
    Option.bind (pX1_countWords R r5 r8.2 (R a0 11) (R a0 0) (R a0 10) x1) (fun r12 =>
    if (lg_cmp r8.1 (0 : Int64)) < 0 then (
      some ((-6 : Int64), r5, r12.2)) else (
      if 0 ≤ (lg_cmp r12.1 (0 : Int64)) then (
        Option.bind (pX1_bitsOfQuotient r8.1 r12.1) (fun r15 =>
        some (r15, r5, r12.2))) else (
        some ((-6 : Int64), r5, r12.2))))))))
noncomputable def pX10_freshSearch (R : am_R) (I : am_I) (a0 : Nat) : Option (am_I) :=
  Option.bind (pX9_look R I (R a0 12) (R a0 0)) (fun r3 =>
  some r3)
noncomputable def pX10_kind (R : am_R) (I : am_I) (L : am_L) (a0 : Nat) : Option (Int32 × am_I × am_L) :=
  Option.bind (pX10_freshSearch R I a0) (fun r1 =>
  Option.bind (pX9_growthKind R r1 L (R a0 12)) (fun r3 =>
  some (r3.1, r3.2.1, r3.2.2)))
noncomputable def pX10_degree (R : am_R) (I : am_I) (L : am_L) (a0 : Nat) : Option (Int32 × am_I × am_L) :=
  Option.bind (pX10_freshSearch R I a0) (fun r1 =>
  Option.bind (pX9_growthKind R r1 L (R a0 12)) (fun r3 =>
  if r3.1 = (3 : Int32) then (
    some ((-4 : Int32), r3.2.1, r3.2.2)) else (
    if r3.1 = (2 : Int32) then (
      Option.bind (pX9_longestChain R r3.2.1 r3.2.2 (R a0 12) (R a0 0)) (fun r7 =>
      some (r7.1, r7.2.1, r7.2.2))) else (
      some ((0 : Int32), r3.2.1, r3.2.2)))))
noncomputable def pX10_isLoopState (R : am_R) (I : am_I) (L : am_L) (a0 : Nat) (x1 : Int32) : Option (Int32 × am_I × am_L) :=
  Option.bind (pX0_hasState I (R a0 0) x1) (fun r2 =>
  if r2 = 0 then (
    some ((-1 : Int32), I, L)) else (
    Option.bind (pX10_freshSearch R I a0) (fun r4 =>
    Option.bind (pX9_findLoopWord R r4 L (R a0 12) x1) (fun r6 =>
    if r6.1 = 0 then (
      some ((0 : Int32), r6.2.1, r6.2.2)) else (
      some ((1 : Int32), r6.2.1, r6.2.2))))))
noncomputable def pX10_isSplitPair (R : am_R) (I : am_I) (L : am_L) (a0 : Nat) (x1 : Int32) (x2 : Int32) : Option (Int32 × am_I × am_L) :=
  Option.bind (pX0_hasState I (R a0 0) x1) (fun r2 =>
  if r2 = 0 then (
    some ((-1 : Int32), I, L)) else (
    Option.bind (pX0_hasState I (R a0 0) x2) (fun r5 =>
    if r5 = 0 then (
      some ((-1 : Int32), I, L)) else (
      Option.bind (pX10_freshSearch R I a0) (fun r7 =>
      Option.bind (pX9_findSplitWord R r7 L (R a0 12) x1 x2) (fun r9 =>
      if r9.1 = 0 then (
        some ((0 : Int32), r9.2.1, r9.2.2)) else (
        some ((1 : Int32), r9.2.1, r9.2.2))))))))
noncomputable def pX10_witnessState (R : am_R) (I : am_I) (L : am_L) (a0 : Nat) (x1 : Int32) : Option (Int32 × am_I × am_L) :=
  am_jn (
  Option.bind (pX10_freshSearch R I a0) (fun r2 =>
  am_jn (fun (v5 : Int32) (J6 : am_I) (J7 : am_L) =>
  if v5 = (-1 : Int32) then (
    some ((-4 : Int32), J6, J7)) else (
    some (v5, J6, J7))) (fun j4 =>
  if x1 = (1 : Int32) then (
    Option.bind (pX9_lowestLoopState R r2 L (R a0 12)) (fun r11 =>
    j4 r11.1 r11.2.1 r11.2.2)) else (
    Option.bind (pX9_firstSplitPair R r2 L (R a0 12)) (fun r10 =>
    j4 r10.1 r10.2.1 r10.2.2))))) (fun j1 =>
  if x1 = (1 : Int32) then (
    j1) else (
    if x1 = (2 : Int32) then (
      j1) else (
      some ((-1 : Int32), I, L))))
noncomputable def pX10_isWitness (x0 : Int32) : Option (Int32) :=
  if x0 < 0 then (
    some (0 : Int32)) else (
    if (3 : Int32) < x0 then (
      some (0 : Int32)) else (
      some (1 : Int32)))
noncomputable def pX10_findWitness (R : am_R) (I : am_I) (L : am_L) (a0 : Nat) (x1 : Int32) : Option (Int32 × am_I × am_L) :=
  if x1 = (3 : Int32) then (
    Option.bind (pX2_find R I (R a0 13) (R a0 0) (R a0 2) (R a0 7)) (fun r29 =>
    am_ck (am_isb r29.1) (
    some (r29.1, r29.2, L)))) else (
    Option.bind (pX10_freshSearch R I a0) (fun r2 =>
    am_jn (fun (v5 : Int32) (J6 : am_I) (J7 : am_L) =>
  if v5 = 0 then (
    am_ck (am_isb v5) (
    some (v5, J6, J7))) else (
    Option.bind (pX9_copyFoundWordTo R J6 (R a0 12) (R a0 7)) (fun r11 =>
    am_ck (am_isb v5) (
    some (v5, r11, J7))))) (fun j4 =>
    if x1 = 0 then (
      Option.bind (pX9_findAmbiguousWord R r2 L (R a0 12)) (fun r24 =>
      j4 r24.1 r24.2.1 r24.2.2)) else (
      if x1 = (1 : Int32) then (
        Option.bind (pX9_lowestLoopState R r2 L (R a0 12)) (fun r20 =>
        am_let (if r20.1 = (-1 : Int32) then (0 : Int32) else (1 : Int32)) (fun v21 =>
        j4 v21 r20.2.1 r20.2.2))) else (
        if x1 = (2 : Int32) then (
          Option.bind (pX9_firstSplitPair R r2 L (R a0 12)) (fun r16 =>
          am_let (if r16.1 = (-1 : Int32) then (0 : Int32) else (1 : Int32)) (fun v17 =>
          j4 v17 r16.2.1 r16.2.2))) else (
          j4 (0 : Int32) r2 L))))))
noncomputable def pX10_witnessLength (R : am_R) (I : am_I) (L : am_L) (a0 : Nat) (x1 : Int32) : Option (Int32 × am_I × am_L) :=
  Option.bind (pX10_isWitness x1) (fun r1 =>
  if r1 = 0 then (
    some ((-1 : Int32), I, L)) else (
    Option.bind (pX10_findWitness R I L a0 x1) (fun r3 =>
    if r3.1 = 0 then (
      some ((-4 : Int32), r3.2.1, r3.2.2)) else (
      some ((r3.2.1 (R a0 7) 0), r3.2.1, r3.2.2)))))
noncomputable def pX10_witnessLetter (R : am_R) (I : am_I) (L : am_L) (a0 : Nat) (x1 : Int32) (x2 : Int32) : Option (Int32 × am_I × am_L) :=
  Option.bind (pX10_isWitness x1) (fun r1 =>
  if r1 = 0 then (
    some ((-1 : Int32), I, L)) else (
    Option.bind (pX10_findWitness R I L a0 x1) (fun r3 =>
    if r3.1 = 0 then (
      some ((-4 : Int32), r3.2.1, r3.2.2)) else (
      Option.bind (pX8_hasPosition R r3.2.1 (R a0 7) x2) (fun r6 =>
      if r6 = 0 then (
        some ((-4 : Int32), r3.2.1, r3.2.2)) else (
        Option.bind (pX8_letterAt R r3.2.1 (R a0 7) x2) (fun r9 =>
        some (r9, r3.2.1, r3.2.2))))))))
noncomputable def pX10_takeWitness (R : am_R) (I : am_I) (L : am_L) (a0 : Nat) (x1 : Int32) : Option (Int32 × am_I × am_L) :=
  Option.bind (pX10_isWitness x1) (fun r1 =>
  if r1 = 0 then (
    some ((-1 : Int32), I, L)) else (
    Option.bind (pX10_findWitness R I L a0 x1) (fun r3 =>
    if r3.1 = 0 then (
      some ((-4 : Int32), r3.2.1, r3.2.2)) else (
      if (r3.2.1 (R a0 7) 0) ≤ (20 : Int32) then (
        Option.bind (pX8_copyFrom R r3.2.1 (R a0 6) (R a0 7)) (fun r9 =>
        some ((r9 (R a0 6) 0), r9, r3.2.2))) else (
        some ((-3 : Int32), r3.2.1, r3.2.2))))))
noncomputable def pX10_setWeight (R : am_R) (I : am_I) (a0 : Nat) (x1 : Int32) (x2 : Int32) : Option (Int32 × am_I) :=
  Option.bind (pX10_isLetter x1) (fun r1 =>
  if r1 = 0 then (
    some ((-1 : Int32), I)) else (
    if x2 < 0 then (
      some ((-2 : Int32), I)) else (
      if x2 ≤ (100 : Int32) then (
        am_ck (am_inb x1 3) (
        am_let (I (R a0 2) (Int32.toNatClampNeg x1)) (fun v6 =>
        am_ck (am_inb x1 3) (
        am_let (am_upI I (R a0 2) (Int32.toNatClampNeg x1) x2) (fun J8 =>
        some (v6, J8)))))) else (
        some ((-2 : Int32), I)))))
noncomputable def sX10_lightestWeight_15 (R : am_R) (a0 : Nat) (J6 : am_I) (J7 : am_L) (ih8 : Int32 → Int32 → Option (Int32 × am_I × am_L)) (v4 : Int32) (v5 : Int32) : Option (Int32 × am_I × am_L) :=
  if (J6 (R a0 7) 0) ≤ v5 then (
    some (v4, J6, J7)) else (
    Option.bind (pX8_letterAt R J6 (R a0 7) v5) (fun r12 =>
    Option.bind (pX10_isLetter r12) (fun r13 =>
    am_jn (fun (v15 : Int32) =>
  am_let (v4 + v15) (fun v16 =>
  ih8 v16 (v5 + (1 : Int32)))) (fun j14 =>
    if r13 = 0 then (
      j14 (0 : Int32)) else (
      am_ck (am_inb r12 3) (
      j14 (J6 (R a0 2) (Int32.toNatClampNeg r12))))))))
noncomputable def lX10_lightestWeight_15 (R : am_R) (a0 : Nat) (J6 : am_I) (J7 : am_L) : Nat → Int32 → Int32 → Option (Int32 × am_I × am_L)
  | 0, _, _ => none
  | n + 1, v4, v5 => sX10_lightestWeight_15 R a0 J6 J7 (lX10_lightestWeight_15 R a0 J6 J7 n) v4 v5
noncomputable def pX10_lightestWeight (R : am_R) (I : am_I) (L : am_L) (a0 : Nat) : Option (Int32 × am_I × am_L) :=
  Option.bind (pX10_findWitness R I L a0 (3 : Int32)) (fun r1 =>
  if r1.1 = 0 then (
    some ((-4 : Int32), r1.2.1, r1.2.2)) else (
    lX10_lightestWeight_15 R a0 r1.2.1 r1.2.2 am_fu (0 : Int32) (0 : Int32)))
noncomputable def pX10_build (R : am_R) (I : am_I) (L : am_L) (a0 : Nat) (x1 : Int32) : Option (Int32 × am_R × am_I × am_L) :=
  am_jn (
  Option.bind (pX6_load R I (R a0 10) (R a0 0)) (fun r6 =>
  am_jn (fun (v8 : Int32) (J9 : am_I) (J10 : am_L) =>
  if v8 = 0 then (
    some ((-5 : Int32), R, J9, J10)) else (
    am_let (am_upR R a0 15 (R a0 16)) (fun J16 =>
    am_let (am_upR J16 a0 16 (R a0 15)) (fun J17 =>
    am_let (am_upI J9 a0 17 (1 : Int32)) (fun J18 =>
    some ((J18 (J17 a0 15) 0), J17, J18, J10)))))) (fun j7 =>
  if x1 = 0 then (
    Option.bind (pX3_makeSubsets R r6 L (R a0 16) (R a0 0) (R a0 10)) (fun r35 =>
    j7 r35.1 r35.2.1 r35.2.2)) else (
    Option.bind (pX3_makeLeastPaths R r6 L (R a0 16) (R a0 0) (R a0 10)) (fun r28 =>
    j7 r28.1 r28.2.1 r28.2.2))))) (fun j1 =>
  if x1 = 0 then (
    j1) else (
    if x1 = (1 : Int32) then (
      j1) else (
      some ((-1 : Int32), R, I, L))))
noncomputable def pX10_resultStateCount (R : am_R) (I : am_I) (a0 : Nat) : Option (Int32) :=
  if (I a0 17) = 0 then (
    some (-4 : Int32)) else (
    some (I (R a0 15) 0))
noncomputable def pX10_resultInitials (R : am_R) (I : am_I) (L : am_L) (a0 : Nat) : Option (Int64) :=
  if (I a0 17) = 0 then (
    some (0 : Int64)) else (
    some (L (R a0 15) 1))
noncomputable def pX10_resultFinals (R : am_R) (I : am_I) (L : am_L) (a0 : Nat) : Option (Int64) :=
  if (I a0 17) = 0 then (
    some (0 : Int64)) else (
    some (L (R a0 15) 2))
noncomputable def pX10_resultSuccessors (R : am_R) (I : am_I) (L : am_L) (a0 : Nat) (x1 : Int32) (x2 : Int32) : Option (Int64) :=
  if (I a0 17) = 0 then (
    some (0 : Int64)) else (
    Option.bind (pX3_targetsOf R I L (R a0 15) x1 x2) (fun r3 =>
    some r3))
noncomputable def pX10_resultAmbiguity (R : am_R) (I : am_I) (L : am_L) (a0 : Nat) : Option (Int64) :=
  if (I a0 17) = 0 then (
    some (-4 : Int64)) else (
    Option.bind (pX3_accepts R I L (R a0 15) (R a0 6)) (fun r4 =>
    if r4 = 0 then (
      some (0 : Int64)) else (
      some (1 : Int64))))
noncomputable def pX10_keepWord (R : am_R) (I : am_I) (L : am_L) (a0 : Nat) (x1 : Int32) : Option (Int32 × am_I × am_L) :=
  Option.bind (pX10_shelfAt R a0 x1) (fun r1 =>
  if r1 = 0 then (
    some ((-1 : Int32), I, L)) else (
    Option.bind (pX5_putWord R I L r1 (R a0 6)) (fun r6 =>
    some ((r6.1 (R a0 6) 0), r6.1, r6.2))))
noncomputable def pX10_keepCounts (R : am_R) (I : am_I) (L : am_L) (a0 : Nat) (x1 : Int32) (x2 : Int32) : Option (Int32 × am_I × am_L) :=
  Option.bind (pX10_shelfAt R a0 x1) (fun r1 =>
  if r1 = 0 then (
    some ((-1 : Int32), I, L)) else (
    if x2 < 0 then (
      some ((-2 : Int32), I, L)) else (
      if x2 ≤ (30 : Int32) then (
        Option.bind (pX1_fillCounts R I L (R a0 11) (R a0 0) (R a0 9) (x2 + (1 : Int32))) (fun r10 =>
        if r10.1 = 0 then (
          some ((-6 : Int32), I, r10.2)) else (
          Option.bind (pX5_putCounts R I r10.2 r1 (R a0 9) (x2 + (1 : Int32))) (fun r13 =>
          some ((x2 + (1 : Int32)), r13.1, r13.2))))) else (
        some ((-2 : Int32), I, L)))))
noncomputable def pX10_useWord (R : am_R) (I : am_I) (L : am_L) (a0 : Nat) (x1 : Int32) : Option (Int32 × am_I) :=
  Option.bind (pX10_shelfAt R a0 x1) (fun r1 =>
  if r1 = 0 then (
    some ((-1 : Int32), I)) else (
    if (I r1 0) = 0 then (
      some ((-7 : Int32), I)) else (
      if (I r1 0) = (1 : Int32) then (
        Option.bind (pX5_copyWordTo R I L r1 (R a0 6)) (fun r8 =>
        some ((r8 (R a0 6) 0), r8))) else (
        some ((-8 : Int32), I)))))
noncomputable def pX10_shelfElement (R : am_R) (I : am_I) (L : am_L) (a0 : Nat) (x1 : Int32) (x2 : Int32) : Option (Int64) :=
  Option.bind (pX10_shelfAt R a0 x1) (fun r1 =>
  if r1 = 0 then (
    some (-1 : Int64)) else (
    if (I r1 0) = 0 then (
      some (-7 : Int64)) else (
      Option.bind (pX5_hasPosition R I r1 x2) (fun r6 =>
      if r6 = 0 then (
        some (-1 : Int64)) else (
        Option.bind (pX5_elementAt R I L r1 x2) (fun r8 =>
        some r8))))))
noncomputable def sX10_copyWeights_2 (a0 : Nat) (a1 : Nat) (ih5 : Int32 → am_I → Option (am_I)) (v3 : Int32) (J4 : am_I) : Option (am_I) :=
  if (3 : Int32) ≤ v3 then (
    some J4) else (
    am_ck (am_inb v3 3) (
    am_ck (am_inb v3 3) (
    am_let (am_upI J4 a1 (Int32.toNatClampNeg v3) (J4 a0 (Int32.toNatClampNeg v3))) (fun J7 =>
    ih5 (v3 + (1 : Int32)) J7))))
noncomputable def lX10_copyWeights_2 (a0 : Nat) (a1 : Nat) : Nat → Int32 → am_I → Option (am_I)
  | 0, _, _ => none
  | n + 1, v3, J4 => sX10_copyWeights_2 a0 a1 (lX10_copyWeights_2 a0 a1 n) v3 J4
noncomputable def pX10_copyWeights (I : am_I) (a0 : Nat) (a1 : Nat) : Option (am_I) :=
  lX10_copyWeights_2 a0 a1 am_fu (0 : Int32) I
noncomputable def pX10_save (R : am_R) (I : am_I) (a0 : Nat) : Option (Int32 × am_I) :=
  Option.bind (pX0_copyFrom R I (R a0 1) (R a0 0)) (fun r3 =>
  Option.bind (pX10_copyWeights r3 (R a0 2) (R a0 3)) (fun r6 =>
  am_let (am_upI r6 a0 4 (1 : Int32)) (fun J7 =>
  some ((J7 (R a0 0) 0), J7))))
noncomputable def pX10_restore (R : am_R) (I : am_I) (a0 : Nat) : Option (Int32 × am_I) :=
  if (I a0 4) = 0 then (
    some ((-4 : Int32), I)) else (
    Option.bind (pX0_copyFrom R I (R a0 0) (R a0 1)) (fun r4 =>
    Option.bind (pX10_copyWeights r4 (R a0 3) (R a0 2)) (fun r7 =>
    some ((r7 (R a0 0) 0), r7))))
noncomputable def pJxe99ae_isNaN_b9ae7 (x0 : UInt64) : Option (Int32) :=
  if (Op.cmpValue (FP.dcmp x0 x0) .l) = 0 then (
    some (0 : Int32)) else (
    some (1 : Int32))
noncomputable def pJxe99ae_doubleToLongBits_ccdee (x0 : UInt64) : Option (Int64) :=
  Option.bind (pJxe99ae_isNaN_b9ae7 x0) (fun r1 =>
  if r1 = 0 then (
    some (UInt64.toInt64 x0)) else (
    some (9221120237041090560 : Int64)))
