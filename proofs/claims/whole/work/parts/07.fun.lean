/-- java/lang/String.coder()B : kind T -/
def f_J0_coder (o : Nat) : Int32 :=
  if (1 : Int32) = 0 then
    1
  else
    0
/-- java/lang/String.isLatin1()Z : kind T -/
def f_J0_isLatin1 (o : Nat) : Int32 :=
  if (1 : Int32) = 0 then
    0
  else
    if (0 : Int32) = 0 then
      1
    else
      0
/-- java/lang/String.length()I : kind T -/
def f_J0_length (o : Nat) : Int32 :=
  (jshr (sL o) (f_J0_coder o))
/-- java/lang/StringLatin1.canEncode(I)Z : kind T -/
def f_J1_canEncode (v0 : Int32) : Int32 :=
  if v0 < 0 then
    0
  else
    if 255 < v0 then
      0
    else
      1
/-- java/lang/StringLatin1.indexOfChar([BIII)I : kind P -/
def f_J1_indexOfChar_7 (a0 : Nat) : Nat → Int32 → Int32 → Int32 → Option Int32
  | 0, _, _, _ => none
  | n + 1, v3, v4, v5 => if v3 ≤ v5 then
    some (-1)
  else
    ck (inb v5 (sLen.getD a0 0)) <|
    if (sB a0 v5) = v4 then
      some v5
    else
      f_J1_indexOfChar_7 a0 n v3 v4 (v5 + 1)
def f_J1_indexOfChar (a0 : Nat) (v1 : Int32) (v2 : Int32) (v3 : Int32) : Option Int32 :=
  f_J1_indexOfChar_7 a0 2000 v3 (jbyte v1) v2
/-- java/lang/StringLatin1.indexOf([BIII)I : kind P -/
def f_J1_indexOf (a0 : Nat) (v1 : Int32) (v2 : Int32) (v3 : Int32) : Option Int32 :=
  if (f_J1_canEncode v1) = 0 then
    some (-1)
  else
    if (jmax v2 0) < (jmin v3 (sL a0)) then
      bd (f_J1_indexOfChar a0 v1 (jmax v2 0) (jmin v3 (sL a0))) fun r3 =>
      some r3
    else
      some (-1)
/-- java/lang/String.indexOf(II)I : kind P -/
def f_J0_indexOf_7cf53 (o : Nat) (v1 : Int32) (v2 : Int32) : Option Int32 :=
  if (f_J0_isLatin1 o) = 0 then
    none
  else
    bd (f_J1_indexOf o v1 v2 (f_J0_length o)) fun r2 =>
    some r2
/-- java/lang/String.indexOf(I)I : kind P -/
def f_J0_indexOf (o : Nat) (v1 : Int32) : Option Int32 :=
  bd (f_J0_indexOf_7cf53 o v1 0) fun r1 =>
  some r1
/-- java/lang/Integer.bitCount(I)I : kind T -/
def f_J6_bitCount (v0 : Int32) : Int32 :=
  nm (((v0 - ((jushr v0 1) &&& 1431655765)) &&& 858993459) + ((jushr (v0 - ((jushr v0 1) &&& 1431655765)) 2) &&& 858993459)) fun x1 =>
  nm (((x1 + (jushr x1 4)) &&& 252645135) + (jushr ((x1 + (jushr x1 4)) &&& 252645135) 8)) fun x2 =>
  ((x2 + (jushr x2 16)) &&& 63)
/-- GateMinds$Law.take([II)V : kind V -/
def f_X1_take (o : Nat) (a1 : Nat) (v2 : Int32) (μ : Mem) : Option Mem :=
  if v2 < 0 then
    some μ
  else
    if 60 < v2 then
      some μ
    else
      if v2 ≤ (Int32.ofNat (ln true a1)) then
        ck (inC 0 0 v2 (ln true a1) (ln true (o + 1))) <|
        cpy μ a1 (ix 0) (o + 1) (ix 0) (ix v2) fun μ5 =>
        wr μ5 o 4 v2 fun μ6 =>
        some μ6
      else
        some μ
/-- GateMinds$Law.copyOf(LGateMinds$Law;)V : kind V -/
def f_X1_copyOf (o : Nat) (a1 : Nat) (μ : Mem) : Option Mem :=
  bd (f_X1_take o (a1 + 1) (μ a1 4) μ) fun μ1 =>
  some μ1
/-- GateMinds$Moor.copyOf(LGateMinds$Moor;)V : kind V -/
def f_X2_copyOf (o : Nat) (a1 : Nat) (μ : Mem) : Option Mem :=
  ck (inC 0 0 6 (ln true (a1 + 1)) (ln true (o + 1))) <|
  cpy μ (a1 + 1) (ix 0) (o + 1) (ix 0) (ix 6) fun μ2 =>
  ck (inC 0 0 6 (ln true (a1 + 2)) (ln true (o + 2))) <|
  cpy μ2 (a1 + 2) (ix 0) (o + 2) (ix 0) (ix 6) fun μ4 =>
  ck (inC 0 0 9 (ln true (a1 + 3)) (ln true (o + 3))) <|
  cpy μ4 (a1 + 3) (ix 0) (o + 3) (ix 0) (ix 9) fun μ6 =>
  ck (inC 0 0 9 (ln true (a1 + 4)) (ln true (o + 4))) <|
  cpy μ6 (a1 + 4) (ix 0) (o + 4) (ix 0) (ix 9) fun μ8 =>
  ck (inC 0 0 9 (ln true (a1 + 5)) (ln true (o + 5))) <|
  cpy μ8 (a1 + 5) (ix 0) (o + 5) (ix 0) (ix 9) fun μ10 =>
  ck (inC 0 0 9 (ln true (a1 + 6)) (ln true (o + 6))) <|
  cpy μ10 (a1 + 6) (ix 0) (o + 6) (ix 0) (ix 9) fun μ12 =>
  ck (inC 0 0 6 (ln true (a1 + 7)) (ln true (o + 7))) <|
  cpy μ12 (a1 + 7) (ix 0) (o + 7) (ix 0) (ix 6) fun μ14 =>
  ck (inC 0 0 7 (ln true (a1 + 8)) (ln true (o + 8))) <|
  cpy μ14 (a1 + 8) (ix 0) (o + 8) (ix 0) (ix 7) fun μ16 =>
  wr μ16 o 10 (μ16 a1 10) fun μ17 =>
  wr μ17 o 11 (μ17 a1 11) fun μ18 =>
  wr μ18 o 12 (μ18 a1 12) fun μ19 =>
  wr μ19 o 13 (μ19 a1 13) fun μ20 =>
  wr μ20 o 14 (μ20 a1 14) fun μ21 =>
  some μ21
/-- GateMinds$Tape.copyOf(LGateMinds$Tape;)V : kind V -/
def f_X7_copyOf (o : Nat) (a1 : Nat) (μ : Mem) : Option Mem :=
  ck (inC 0 0 60 (ln true (a1 + 1)) (ln true (o + 1))) <|
  cpy μ (a1 + 1) (ix 0) (o + 1) (ix 0) (ix 60) fun μ2 =>
  wr μ2 o 1 (μ2 a1 1) fun μ3 =>
  some μ3
/-- GateMinds$Keep.copyOf(LGateMinds$Keep;)V : kind V -/
def f_X0_copyOf (o : Nat) (a1 : Nat) (μ : Mem) : Option Mem :=
  bd (f_X1_copyOf (o + 1) (a1 + 1) μ) fun μ1 =>
  bd (f_X1_copyOf (o + 4) (a1 + 4) μ1) fun μ2 =>
  bd (f_X2_copyOf (o + 7) (a1 + 7) μ2) fun μ3 =>
  bd (f_X7_copyOf (o + 16) (a1 + 16) μ3) fun μ4 =>
  ck (inC 0 0 24 (ln true (a1 + 18)) (ln true (o + 18))) <|
  cpy μ4 (a1 + 18) (ix 0) (o + 18) (ix 0) (ix 24) fun μ6 =>
  wr μ6 o 5 (μ6 a1 5) fun μ7 =>
  wr μ7 o 6 (μ7 a1 6) fun μ8 =>
  some μ8
/-- GateMinds$Moor.isOne(I)Z : kind T -/
def f_X2_isOne (o : Nat) (v1 : Int32) (μ : Mem) : Int32 :=
  if v1 < 0 then
    0
  else
    if (μ o 10) ≤ v1 then
      0
    else
      if 6 ≤ v1 then
        0
      else
        1
/-- GateMinds$Moor.isGate(I)Z : kind T -/
def f_X2_isGate (o : Nat) (v1 : Int32) (μ : Mem) : Int32 :=
  if v1 < 0 then
    0
  else
    if (μ o 11) ≤ v1 then
      0
    else
      if 9 ≤ v1 then
        0
      else
        1
/-- GateMinds$Moor.cost(II)I : kind P -/
def f_X2_cost (o : Nat) (v1 : Int32) (v2 : Int32) (μ : Mem) : Option Int32 :=
  ck (inb v2 9) <|
  ck (inb v1 6) <|
  if (μ (o + 1) (ix v1)) = 1 then
    some ((μ (o + 5) (ix v2)) + 1)
  else if (μ (o + 1) (ix v1)) = 2 then
    some (2 * (μ (o + 5) (ix v2)))
  else if (μ (o + 1) (ix v1)) = 4 then
    some (((μ (o + 5) (ix v2)) + 1) - ((μ (o + 5) (ix v2)) / 2))
  else if (μ (o + 1) (ix v1)) = 5 then
    ck (inb v2 9) <|
    if (μ (o + 6) (ix v2)) = (-1) then
      some 0
    else
      some (2 * (μ (o + 5) (ix v2)))
  else if (μ (o + 1) (ix v1)) = 6 then
    some ((μ (o + 5) (ix v2)) + (jrem v2 3))
  else some (μ (o + 5) (ix v2))
/-- GateMinds$Law.isTold()Z : kind T -/
def f_X1_isTold (o : Nat) (μ : Mem) : Int32 :=
  if (μ o 4) ≤ 0 then
    0
  else
    1
/-- GateMinds$Law.meant(IIII)I : kind T -/
def f_X1_meant (v0 : Int32) (v1 : Int32) (v2 : Int32) (v3 : Int32) : Int32 :=
  if v0 = (-3) then
    v3
  else if v0 = (-2) then
    v2
  else if v0 = (-1) then
    v1
  else v0
/-- GateMinds$Law.joined(III)I : kind P -/
def f_X1_joined (v0 : Int32) (v1 : Int32) (v2 : Int32) : Option Int32 :=
  if v0 = 37 then
    if v2 = 0 then
      some 0
    else
      ck (nz v2) <|
      some (jrem v1 v2)
  else if v0 = 38 then
    if v1 = 0 then
      some 0
    else
      if v2 = 0 then
        some 0
      else
        some 1
  else if v0 = 42 then
    some (v1 * v2)
  else if v0 = 43 then
    some (v1 + v2)
  else if v0 = 45 then
    some (v1 - v2)
  else if v0 = 47 then
    if v2 = 0 then
      some 0
    else
      ck (nz v2) <|
      some (v1 / v2)
  else if v0 = 60 then
    if v2 ≤ v1 then
      some 0
    else
      some 1
  else if v0 = 61 then
    if v1 = v2 then
      some 1
    else
      some 0
  else if v0 = 62 then
    if v1 ≤ v2 then
      some 0
    else
      some 1
  else if v0 = 124 then
    if v1 = 0 then
      if v2 = 0 then
        some 0
      else
        some 1
    else
      some 1
  else some 0
/-- GateMinds$Law.workedOut(III)I : kind W -/
def f_X1_workedOut_159 (o : Nat) (μ : Mem) : Option (Int32 × Mem) :=
  some ((μ (o + 2) (ix 0)), μ)
def f_X1_workedOut_113 (k6 : Int32 → Int32 → Int32 → Int32 → Int32 → Mem → Option (Int32 × Mem)) (o : Nat) (v1 : Int32) (v2 : Int32) (v3 : Int32) (v4 : Int32) (v5 : Int32) (v6 : Int32) (μ : Mem) : Option (Int32 × Mem) :=
  if v4 ≤ 1 then
    k6 v1 v2 v3 v4 (v5 + 1) μ
  else
    ck (inb ((v4 + (-1)) - 1) 60) <|
    ck (inb (v4 + (-1)) 60) <|
    bd (f_X1_joined (-v6) (μ (o + 2) (ix ((v4 + (-1)) - 1))) (μ (o + 2) (ix (v4 + (-1))))) fun r4 =>
    ck (inb ((v4 + (-1)) - 1) 60) <|
    wr μ (o + 2) (ix ((v4 + (-1)) - 1)) r4 fun μ5 =>
    k6 v1 v2 v3 (v4 + (-1)) (v5 + 1) μ5
def f_X1_workedOut_109 (k6 : Int32 → Int32 → Int32 → Int32 → Int32 → Mem → Option (Int32 × Mem)) (o : Nat) (v1 : Int32) (v2 : Int32) (v3 : Int32) (v4 : Int32) (v5 : Int32) (s1 : Int32) (s2 : Int32) (μ : Mem) : Option (Int32 × Mem) :=
  ck (inb s1 60) <|
  wr μ (o + 2) (ix s1) s2 fun μ1 =>
  k6 v1 v2 v3 v4 (v5 + 1) μ1
def f_X1_workedOut_72 (k6 : Int32 → Int32 → Int32 → Int32 → Int32 → Mem → Option (Int32 × Mem)) (o : Nat) (v1 : Int32) (v2 : Int32) (v3 : Int32) (v4 : Int32) (v5 : Int32) (v6 : Int32) (μ : Mem) : Option (Int32 × Mem) :=
  if v6 = (-33) then
    if v4 ≤ 0 then
      f_X1_workedOut_113 k6 o v1 v2 v3 v4 v5 v6 μ
    else
      ck (inb (v4 - 1) 60) <|
      if (μ (o + 2) (ix (v4 - 1))) = 0 then
        f_X1_workedOut_109 k6 o v1 v2 v3 v4 v5 (v4 - 1) 1 μ
      else
        f_X1_workedOut_109 k6 o v1 v2 v3 v4 v5 (v4 - 1) 0 μ
  else
    f_X1_workedOut_113 k6 o v1 v2 v3 v4 v5 v6 μ
def f_X1_workedOut_6 (o : Nat) : Nat → Int32 → Int32 → Int32 → Int32 → Int32 → Mem → Option (Int32 × Mem)
  | 0, _, _, _, _, _, _ => none
  | n + 1, v1, v2, v3, v4, v5, μ => if (μ o 4) ≤ v5 then
    f_X1_workedOut_159 o μ
  else
    if 60 ≤ v5 then
      f_X1_workedOut_159 o μ
    else
      ck (inb v5 60) <|
      if (μ (o + 1) (ix v5)) < (-3) then
        f_X1_workedOut_72 (f_X1_workedOut_6 o n) o v1 v2 v3 v4 v5 (μ (o + 1) (ix v5)) μ
      else
        if 60 ≤ v4 then
          f_X1_workedOut_72 (f_X1_workedOut_6 o n) o v1 v2 v3 v4 v5 (μ (o + 1) (ix v5)) μ
        else
          ck (inb v4 60) <|
          wr μ (o + 2) (ix v4) (f_X1_meant (μ (o + 1) (ix v5)) v1 v2 v3) fun μ6 =>
          f_X1_workedOut_6 o n v1 v2 v3 (v4 + 1) (v5 + 1) μ6
def f_X1_workedOut (o : Nat) (v1 : Int32) (v2 : Int32) (v3 : Int32) (μ : Mem) : Option (Int32 × Mem) :=
  f_X1_workedOut_6 o 2000 v1 v2 v3 0 0 μ
/-- GateMinds$Law.gives(III)I : kind W -/
def f_X1_gives_18 (o : Nat) (s0 : Int32) (μ : Mem) : Option (Int32 × Mem) :=
  some ((jmax 0 (jmin (μ o 1) s0)), μ)
def f_X1_gives (o : Nat) (v1 : Int32) (v2 : Int32) (v3 : Int32) (μ : Mem) : Option (Int32 × Mem) :=
  if (f_X1_isTold o μ) = 0 then
    f_X1_gives_18 o v1 μ
  else
    bd2 (f_X1_workedOut o v1 v2 v3 μ) fun r2 μ3 =>
    f_X1_gives_18 o r2 μ3
/-- GateMinds$Moor.weight(II)I : kind W -/
def f_X2_weight (o : Nat) (v1 : Int32) (v2 : Int32) (μ : Mem) : Option (Int32 × Mem) :=
  if (f_X2_isOne o v1 μ) = 0 then
    some (0, μ)
  else
    if (f_X2_isGate o v2 μ) = 0 then
      some (0, μ)
    else
      bd (f_X2_cost o v1 v2 μ) fun r3 =>
      bd2 (f_X1_gives (sr true o 0) r3 (jrem (μ o 13) 24) v2 μ) fun r4 μ5 =>
      some (r4, μ5)
/-- GateMinds$Moor.load(I)I : kind W -/
def f_X2_load_4 (o : Nat) : Nat → Int32 → Int32 → Int32 → Mem → Option (Int32 × Mem)
  | 0, _, _, _, _ => none
  | n + 1, v1, v2, v3, μ => if (μ o 11) ≤ v3 then
    some (v2, μ)
  else
    ck (inb v3 9) <|
    if (μ (o + 6) (ix v3)) = v1 then
      bd2 (f_X2_weight o v1 v3 μ) fun r4 μ5 =>
      f_X2_load_4 o n v1 (v2 + r4) (v3 + 1) μ5
    else
      f_X2_load_4 o n v1 v2 (v3 + 1) μ
def f_X2_load (o : Nat) (v1 : Int32) (μ : Mem) : Option (Int32 × Mem) :=
  f_X2_load_4 o 2000 v1 0 0 μ
/-- GateMinds$Keep.firstWrongLoad()I : kind W -/
def f_X0_firstWrongLoad_2 (o : Nat) : Nat → Int32 → Mem → Option (Int32 × Mem)
  | 0, _, _ => none
  | n + 1, v1, μ => if (μ o 5) ≤ v1 then
    some ((-1), μ)
  else
    if 24 ≤ v1 then
      some ((-1), μ)
    else
      if (f_X2_isOne (o + 7) v1 μ) = 0 then
        some (v1, μ)
      else
        ck (inb v1 24) <|
        bd2 (f_X2_load (o + 7) v1 μ) fun r5 μ6 =>
        if (μ (o + 18) (ix v1)) = r5 then
          f_X0_firstWrongLoad_2 o n (v1 + 1) μ6
        else
          some (v1, μ6)
def f_X0_firstWrongLoad (o : Nat) (μ : Mem) : Option (Int32 × Mem) :=
  f_X0_firstWrongLoad_2 o 2000 0 μ
/-- GateMinds$Keep.lawOf(I)LGateMinds$Law; : kind T -/
def f_X0_lawOf (o : Nat) (v1 : Int32) : Nat :=
  if v1 = 0 then
    (o + 1)
  else
    (o + 4)
/-- GateMinds$Keep.nextDraw()I : kind W -/
def f_X0_nextDraw (o : Nat) (μ : Mem) : Option (Int32 × Mem) :=
  wr μ o 6 (((μ o 6) * 1103515245) + 12345) fun μ1 =>
  some ((jushr (μ1 o 6) 8), μ1)
/-- GateMinds$Keep.shuffle()V : kind V -/
def f_X0_shuffle_86 (o : Nat) (s1 : Int32) (s2 : Int32) (μ : Mem) : Option Mem :=
  ck (inb s1 9) <|
  wr μ ((o + 7) + 6) (ix s1) s2 fun μ1 =>
  some μ1
def f_X0_shuffle_54 (o : Nat) (v3 : Int32) (v4 : Int32) (s0 : Int32) (μ : Mem) : Option Mem :=
  if (f_X2_isGate (o + 7) v3 μ) = 0 then
    some μ
  else
    if s0 = 0 then
      f_X0_shuffle_86 o v3 v4 μ
    else
      f_X0_shuffle_86 o v3 (-1) μ
def f_X0_shuffle (o : Nat) (μ : Mem) : Option Mem :=
  if (μ (o + 7) 10) ≤ 0 then
    some μ
  else
    if 0 < (μ (o + 7) 11) then
      bd2 (f_X0_nextDraw o μ) fun r3 μ4 =>
      ck (nz (μ (o + 7) 11)) <|
      bd2 (f_X0_nextDraw o μ4) fun r6 μ7 =>
      ck (nz (μ (o + 7) 10)) <|
      bd2 (f_X0_nextDraw o μ7) fun r9 μ10 =>
      if (jrem r9 4) = 0 then
        f_X0_shuffle_54 o (jrem r3 (μ (o + 7) 11)) (jrem r6 (μ (o + 7) 10)) 1 μ10
      else
        f_X0_shuffle_54 o (jrem r3 (μ (o + 7) 11)) (jrem r6 (μ (o + 7) 10)) 0 μ10
    else
      some μ
/-- GateMinds$Moor.across(II)I : kind P -/
def f_X2_across (o : Nat) (v1 : Int32) (v2 : Int32) (μ : Mem) : Option Int32 :=
  ck (inb v1 9) <|
  if (μ (o + 3) (ix v1)) = v2 then
    ck (inb v1 9) <|
    some (μ (o + 4) (ix v1))
  else
    ck (inb v1 9) <|
    if (μ (o + 4) (ix v1)) = v2 then
      ck (inb v1 9) <|
      some (μ (o + 3) (ix v1))
    else
      some (-1)
/-- GateMinds$Moor.addBeast(I)I : kind W -/
def f_X2_addBeast (o : Nat) (v1 : Int32) (μ : Mem) : Option (Int32 × Mem) :=
  if (μ o 12) < 6 then
    ck (inb (μ o 12) 6) <|
    wr μ (o + 7) (ix (μ o 12)) v1 fun μ2 =>
    wr μ2 o 12 ((μ2 o 12) + 1) fun μ4 =>
    some (((μ4 o 12) - 1), μ4)
  else
    some ((-1), μ)
/-- GateMinds$Moor.addGate(III)I : kind W -/
def f_X2_addGate (o : Nat) (v1 : Int32) (v2 : Int32) (v3 : Int32) (μ : Mem) : Option (Int32 × Mem) :=
  if (μ o 11) < 9 then
    ck (inb (μ o 11) 9) <|
    wr μ (o + 3) (ix (μ o 11)) v1 fun μ2 =>
    ck (inb (μ2 o 11) 9) <|
    wr μ2 (o + 4) (ix (μ2 o 11)) v2 fun μ4 =>
    ck (inb (μ4 o 11) 9) <|
    wr μ4 (o + 5) (ix (μ4 o 11)) v3 fun μ6 =>
    ck (inb (μ6 o 11) 9) <|
    wr μ6 (o + 6) (ix (μ6 o 11)) (-1) fun μ8 =>
    wr μ8 o 11 ((μ8 o 11) + 1) fun μ10 =>
    some (((μ10 o 11) - 1), μ10)
  else
    some ((-1), μ)
/-- GateMinds$Moor.addOne(II)I : kind W -/
def f_X2_addOne (o : Nat) (v1 : Int32) (v2 : Int32) (μ : Mem) : Option (Int32 × Mem) :=
  if (μ o 10) < 6 then
    ck (inb (μ o 10) 6) <|
    wr μ (o + 1) (ix (μ o 10)) v1 fun μ2 =>
    ck (inb (μ2 o 10) 6) <|
    wr μ2 (o + 2) (ix (μ2 o 10)) v2 fun μ4 =>
    wr μ4 o 10 ((μ4 o 10) + 1) fun μ6 =>
    some (((μ6 o 10) - 1), μ6)
  else
    some ((-1), μ)
/-- GateMinds$Moor.heldBy(I)I : kind P -/
def f_X2_heldBy_4 (o : Nat) (μ : Mem) : Nat → Int32 → Int32 → Int32 → Option Int32
  | 0, _, _, _ => none
  | n + 1, v1, v2, v3 => if (μ o 11) ≤ v3 then
    some v2
  else
    ck (inb v3 9) <|
    if (μ (o + 6) (ix v3)) = v1 then
      f_X2_heldBy_4 o μ n v1 (v2 + 1) (v3 + 1)
    else
      f_X2_heldBy_4 o μ n v1 v2 (v3 + 1)
def f_X2_heldBy (o : Nat) (v1 : Int32) (μ : Mem) : Option Int32 :=
  f_X2_heldBy_4 o μ 2000 v1 0 0
/-- GateMinds$Moor.room(I)I : kind P -/
def f_X2_room (o : Nat) (v1 : Int32) (μ : Mem) : Option Int32 :=
  if (f_X2_isOne o v1 μ) = 0 then
    some 0
  else
    ck (inb v1 6) <|
    ck (inb v1 6) <|
    if (μ (o + 1) (ix v1)) = 1 then
      some ((10 + (μ (o + 2) (ix v1))) / 2)
    else if (μ (o + 1) (ix v1)) = 2 then
      some (3 * (10 + (μ (o + 2) (ix v1))))
    else if (μ (o + 1) (ix v1)) = 3 then
      some ((10 + (μ (o + 2) (ix v1))) - (jrem (μ o 13) 6))
    else if (μ (o + 1) (ix v1)) = 4 then
      bd (f_X2_heldBy o v1 μ) fun r8 =>
      some (((10 + (μ (o + 2) (ix v1))) / 2) + r8)
    else if (μ (o + 1) (ix v1)) = 5 then
      some ((3 * (10 + (μ (o + 2) (ix v1)))) + 5)
    else if (μ (o + 1) (ix v1)) = 6 then
      if 12 ≤ (jrem (μ o 13) 24) then
        some (10 + (μ (o + 2) (ix v1)))
      else
        some 0
    else some (10 + (μ (o + 2) (ix v1)))
/-- GateMinds$Moor.letGo(I)V : kind V -/
def f_X2_letGo_58 (o : Nat) (v2 : Int32) (μ : Mem) : Option Mem :=
  if (f_X2_isGate o v2 μ) = 0 then
    some μ
  else
    ck (inb v2 9) <|
    wr μ (o + 6) (ix v2) (-1) fun μ2 =>
    some μ2
def f_X2_letGo_38 (k7 : Int32 → Int32 → Int32 → Int32 → Mem → Option Mem) (o : Nat) (v1 : Int32) (v2 : Int32) (v3 : Int32) (v4 : Int32) (s0 : Int32) (μ : Mem) : Option Mem :=
  if s0 ≤ v3 then
    k7 v1 v2 v3 (v4 + 1) μ
  else
    k7 v1 v4 s0 (v4 + 1) μ
def f_X2_letGo_7 (o : Nat) : Nat → Int32 → Int32 → Int32 → Int32 → Mem → Option Mem
  | 0, _, _, _, _, _ => none
  | n + 1, v1, v2, v3, v4, μ => if (μ o 11) ≤ v4 then
    f_X2_letGo_58 o v2 μ
  else
    ck (inb v4 9) <|
    if (μ (o + 6) (ix v4)) = v1 then
      bd2 (f_X2_weight o v1 v4 μ) fun r4 μ5 =>
      f_X2_letGo_38 (f_X2_letGo_7 o n) o v1 v2 v3 v4 r4 μ5
    else
      f_X2_letGo_38 (f_X2_letGo_7 o n) o v1 v2 v3 v4 (-1) μ
def f_X2_letGo (o : Nat) (v1 : Int32) (μ : Mem) : Option Mem :=
  f_X2_letGo_7 o 2000 v1 (-1) (-1) 0 μ
/-- GateMinds.isField(I)Z : kind T -/
def f_X8_isField (v0 : Int32) : Int32 :=
  if v0 < 0 then
    0
  else
    if 7 ≤ v0 then
      0
    else
      1
/-- GateMinds$Moor.draw(I)I : kind W -/
def f_X2_draw (o : Nat) (v1 : Int32) (μ : Mem) : Option (Int32 × Mem) :=
  if (f_X8_isField v1) = 0 then
    some (0, μ)
  else
    ck (inb v1 7) <|
    bd2 (f_X1_gives (sr true o 1) (μ (o + 8) (ix v1)) v1 (jrem (μ o 13) 24) μ) fun r3 μ4 =>
    some (r3, μ4)
/-- GateMinds$Moor.graze(I)V : kind V -/
def f_X2_graze_113 (o : Nat) (v1 : Int32) (v3 : Int32) (μ : Mem) : Option Mem :=
  ck (inb v1 6) <|
  wr μ (o + 7) (ix v1) v3 fun μ1 =>
  if (f_X8_isField v3) = 0 then
    some μ1
  else
    ck (inb v3 7) <|
    ck (inb v3 7) <|
    wr μ1 (o + 8) (ix v3) (jmax ((μ1 (o + 8) (ix v3)) - 1) 0) fun μ5 =>
    some μ5
def f_X2_graze_92 (o : Nat) (v1 : Int32) (v2 : Int32) (v3 : Int32) (μ : Mem) : Option Mem :=
  if v3 = v2 then
    f_X2_graze_113 o v1 v3 μ
  else
    wr μ o 14 (jmin ((μ o 14) + 1) 9999) fun μ2 =>
    f_X2_graze_113 o v1 v3 μ2
def f_X2_graze_70 (k19 : Int32 → Int32 → Int32 → Int32 → Int32 → Mem → Option Mem) (o : Nat) (v1 : Int32) (v2 : Int32) (v3 : Int32) (v4 : Int32) (v5 : Int32) (v6 : Int32) (s0 : Int32) (μ : Mem) : Option Mem :=
  if s0 ≤ v4 then
    k19 v1 v2 v3 v4 (v5 + 1) μ
  else
    k19 v1 v2 v6 s0 (v5 + 1) μ
def f_X2_graze_50 (k19 : Int32 → Int32 → Int32 → Int32 → Int32 → Mem → Option Mem) (o : Nat) (v1 : Int32) (v2 : Int32) (v3 : Int32) (v4 : Int32) (v5 : Int32) (s0 : Int32) (μ : Mem) : Option Mem :=
  if (f_X8_isField s0) = 0 then
    f_X2_graze_70 k19 o v1 v2 v3 v4 v5 s0 (-1) μ
  else
    bd2 (f_X2_draw o s0 μ) fun r2 μ3 =>
    f_X2_graze_70 k19 o v1 v2 v3 v4 v5 s0 r2 μ3
def f_X2_graze_19 (o : Nat) : Nat → Int32 → Int32 → Int32 → Int32 → Int32 → Mem → Option Mem
  | 0, _, _, _, _, _, _ => none
  | n + 1, v1, v2, v3, v4, v5, μ => if (μ o 11) ≤ v5 then
    f_X2_graze_92 o v1 v2 v3 μ
  else
    ck (inb v5 9) <|
    if (μ (o + 6) (ix v5)) = (-1) then
      bd (f_X2_across o v5 v2 μ) fun r4 =>
      f_X2_graze_50 (f_X2_graze_19 o n) o v1 v2 v3 v4 v5 r4 μ
    else
      f_X2_graze_50 (f_X2_graze_19 o n) o v1 v2 v3 v4 v5 (-1) μ
def f_X2_graze (o : Nat) (v1 : Int32) (μ : Mem) : Option Mem :=
  ck (inb v1 6) <|
  bd2 (f_X2_draw o (μ (o + 7) (ix v1)) μ) fun r2 μ3 =>
  f_X2_graze_19 o 2000 v1 (μ (o + 7) (ix v1)) (μ (o + 7) (ix v1)) r2 0 μ3
/-- GateMinds$Moor.anHour()V : kind V -/
def f_X2_anHour_55 (o : Nat) (μ : Mem) : Option Mem :=
  wr μ o 13 ((μ o 13) + 1) fun μ1 =>
  some μ1
def f_X2_anHour_36 (o : Nat) : Nat → Int32 → Mem → Option Mem
  | 0, _, _ => none
  | n + 1, v1, μ => if (μ o 12) ≤ v1 then
    f_X2_anHour_55 o μ
  else
    bd (f_X2_graze o v1 μ) fun μ2 =>
    f_X2_anHour_36 o n (v1 + 1) μ2
def f_X2_anHour_2 (o : Nat) : Nat → Int32 → Mem → Option Mem
  | 0, _, _ => none
  | n + 1, v1, μ => if (μ o 10) ≤ v1 then
    f_X2_anHour_36 o 2000 0 μ
  else
    bd2 (f_X2_load o v1 μ) fun r2 μ3 =>
    bd (f_X2_room o v1 μ3) fun r4 =>
    if r2 ≤ r4 then
      f_X2_anHour_2 o n (v1 + 1) μ3
    else
      bd (f_X2_letGo o v1 μ3) fun μ6 =>
      f_X2_anHour_2 o n (v1 + 1) μ6
def f_X2_anHour (o : Nat) (μ : Mem) : Option Mem :=
  f_X2_anHour_2 o 2000 0 μ
/-- GateMinds$Moor.further(II)I : kind P -/
def f_X2_further_5 (o : Nat) (μ : Mem) : Nat → Int32 → Int32 → Int32 → Int32 → Option Int32
  | 0, _, _, _, _ => none
  | n + 1, v1, v2, v3, v4 => if (μ o 11) ≤ v4 then
    some v3
  else
    ck (inb v4 9) <|
    ck (inb v4 9) <|
    nm ((jshl 1 (μ (o + 3) (ix v4))) ||| (jshl 1 (μ (o + 4) (ix v4)))) fun x4 =>
    if (v2 &&& (jshl 1 v4)) = 0 then
      f_X2_further_5 o μ n v1 v2 v3 (v4 + 1)
    else
      if (v1 &&& x4) = 0 then
        f_X2_further_5 o μ n v1 v2 v3 (v4 + 1)
      else
        f_X2_further_5 o μ n v1 v2 (v3 ||| x4) (v4 + 1)
def f_X2_further (o : Nat) (v1 : Int32) (v2 : Int32) (μ : Mem) : Option Int32 :=
  f_X2_further_5 o μ 2000 v1 v2 v1 0
/-- GateMinds$Moor.openGates()I : kind P -/
def f_X2_openGates_4 (o : Nat) (μ : Mem) : Nat → Int32 → Int32 → Option Int32
  | 0, _, _ => none
  | n + 1, v1, v2 => if (μ o 11) ≤ v2 then
    some v1
  else
    ck (inb v2 9) <|
    if (μ (o + 6) (ix v2)) = (-1) then
      f_X2_openGates_4 o μ n (v1 ||| (jshl 1 v2)) (v2 + 1)
    else
      f_X2_openGates_4 o μ n v1 (v2 + 1)
def f_X2_openGates (o : Nat) (μ : Mem) : Option Int32 :=
  f_X2_openGates_4 o μ 2000 0 0
/-- GateMinds$Moor.reached(II)I : kind P -/
def f_X2_reached_7 (o : Nat) (μ : Mem) : Nat → Int32 → Int32 → Int32 → Option Int32
  | 0, _, _, _ => none
  | n + 1, v2, v3, v4 => if 7 ≤ v4 then
    some v3
  else
    bd (f_X2_further o v3 v2 μ) fun r2 =>
    if r2 = v3 then
      some v3
    else
      f_X2_reached_7 o μ n v2 r2 (v4 + 1)
def f_X2_reached (o : Nat) (v1 : Int32) (v2 : Int32) (μ : Mem) : Option Int32 :=
  f_X2_reached_7 o μ 2000 v2 (jshl 1 v1) 1
/-- GateMinds$Moor.gatesThatMatter(I)I : kind P -/
def f_X2_gatesThatMatter_18 (o : Nat) (μ : Mem) : Nat → Int32 → Int32 → Int32 → Int32 → Int32 → Option Int32
  | 0, _, _, _, _, _ => none
  | n + 1, v1, v2, v3, v4, v5 => if (μ o 11) ≤ v5 then
    some v4
  else
    bd (f_X2_reached o v1 (v2 ||| (jshl 1 v5)) μ) fun r2 =>
    if r2 = v3 then
      f_X2_gatesThatMatter_18 o μ n v1 v2 v3 v4 (v5 + 1)
    else
      f_X2_gatesThatMatter_18 o μ n v1 v2 v3 (v4 + 1) (v5 + 1)
def f_X2_gatesThatMatter (o : Nat) (v1 : Int32) (μ : Mem) : Option Int32 :=
  bd (f_X2_openGates o μ) fun r1 =>
  bd (f_X2_reached o v1 r1 μ) fun r2 =>
  f_X2_gatesThatMatter_18 o μ 2000 v1 r1 r2 0 0
/-- GateMinds$Moor.handOver(II)I : kind W -/
def f_X2_handOver_5 (o : Nat) : Nat → Int32 → Int32 → Int32 → Int32 → Mem → Option (Int32 × Mem)
  | 0, _, _, _, _, _ => none
  | n + 1, v1, v2, v3, v4, μ => if (μ o 11) ≤ v4 then
    some (v3, μ)
  else
    ck (inb v4 9) <|
    if (μ (o + 6) (ix v4)) = v1 then
      ck (inb v4 9) <|
      wr μ (o + 6) (ix v4) v2 fun μ4 =>
      f_X2_handOver_5 o n v1 v2 (v3 + 1) (v4 + 1) μ4
    else
      f_X2_handOver_5 o n v1 v2 v3 (v4 + 1) μ
def f_X2_handOver (o : Nat) (v1 : Int32) (v2 : Int32) (μ : Mem) : Option (Int32 × Mem) :=
  f_X2_handOver_5 o 2000 v1 v2 0 0 μ
/-- GateMinds$Moor.isHolder(I)Z : kind T -/
def f_X2_isHolder (o : Nat) (v1 : Int32) (μ : Mem) : Int32 :=
  if v1 = (-1) then
    1
  else
    if (f_X2_isOne o v1 μ) = 0 then
      0
    else
      1
/-- GateMinds$Moor.leastCut(II)I : kind P -/
def f_X2_leastCut_39 (k15 : Int32 → Int32 → Int32 → Int32 → Int32 → Option Int32) (o : Nat) (μ : Mem) (v1 : Int32) (v2 : Int32) (v3 : Int32) (v4 : Int32) (v5 : Int32) (s0 : Int32) : Option Int32 :=
  if s0 = 0 then
    k15 v1 v2 v3 v4 (v5 + 1)
  else
    bd (f_X2_reached o v1 (v3 &&& (v5 ^^^ (-1))) μ) fun r2 =>
    if (r2 &&& (jshl 1 v2)) = 0 then
      k15 v1 v2 v3 v5 (v5 + 1)
    else
      k15 v1 v2 v3 v4 (v5 + 1)
def f_X2_leastCut_15 (o : Nat) (μ : Mem) : Nat → Int32 → Int32 → Int32 → Int32 → Int32 → Option Int32
  | 0, _, _, _, _, _ => none
  | n + 1, v1, v2, v3, v4, v5 => if v3 < v5 then
    some v4
  else
    if (f_J6_bitCount v4) ≤ (f_J6_bitCount v5) then
      f_X2_leastCut_39 (f_X2_leastCut_15 o μ n) o μ v1 v2 v3 v4 v5 0
    else
      f_X2_leastCut_39 (f_X2_leastCut_15 o μ n) o μ v1 v2 v3 v4 v5 1
def f_X2_leastCut (o : Nat) (v1 : Int32) (v2 : Int32) (μ : Mem) : Option Int32 :=
  f_X2_leastCut_15 o μ 2000 v1 v2 ((jshl 1 (μ o 11)) - 1) ((jshl 1 (μ o 11)) - 1) 0
/-- GateMinds$Moor.steps(II)I : kind P -/
def f_X2_steps_7 (o : Nat) (μ : Mem) : Nat → Int32 → Int32 → Int32 → Option Int32
  | 0, _, _, _ => none
  | n + 1, v2, v3, v4 => if 7 ≤ v4 then
    some (-1)
  else
    if (v3 &&& (jshl 1 v2)) = 0 then
      bd (f_X2_further o v3 (-1) μ) fun r3 =>
      f_X2_steps_7 o μ n v2 r3 (v4 + 1)
    else
      some v4
def f_X2_steps (o : Nat) (v1 : Int32) (v2 : Int32) (μ : Mem) : Option Int32 :=
  f_X2_steps_7 o μ 2000 v2 (jshl 1 v1) 0
/-- GateMinds$Parting.weighSets(LGateMinds$Moor;II)V : kind V -/
def f_X3_weighSets_37 (k10 : Int32 → Int32 → Int32 → Mem → Option Mem) (a1 : Nat) : Nat → Int32 → Int32 → Int32 → Int32 → Int32 → Int32 → Mem → Option Mem
  | 0, _, _, _, _, _, _, _ => none
  | n + 1, v2, v3, v4, v5, v6, v7, μ => if v6 ≤ v7 then
    k10 v2 v3 (v4 + 1) μ
  else
    if v3 ≤ (v6 ||| v7) then
      k10 v2 v3 (v4 + 1) μ
    else
      ck (inb v7 512) <|
      ck (inb (v6 ||| v7) 512) <|
      wr μ 53 (ix (v6 ||| v7)) ((μ 53 (ix v7)) + v5) fun μ4 =>
      f_X3_weighSets_37 k10 a1 n v2 v3 v4 v5 v6 (v7 + 1) μ4
def f_X3_weighSets_10 (a1 : Nat) : Nat → Int32 → Int32 → Int32 → Mem → Option Mem
  | 0, _, _, _, _ => none
  | n + 1, v2, v3, v4, μ => if (μ a1 11) ≤ v4 then
    some μ
  else
    bd2 (f_X2_weight a1 v2 v4 μ) fun r2 μ3 =>
    f_X3_weighSets_37 (f_X3_weighSets_10 a1 n) a1 2000 v2 v3 v4 r2 (jshl 1 v4) 0 μ3
def f_X3_weighSets (a1 : Nat) (v2 : Int32) (v3 : Int32) (μ : Mem) : Option Mem :=
  wr μ 53 (ix 0) 0 fun μ1 =>
  f_X3_weighSets_10 a1 2000 v2 v3 0 μ1
/-- GateMinds$Parting.letOneHold(II)V : kind V -/
def f_X3_letOneHold_53 (k4 : Int32 → Int32 → Mem → Option Mem) (k11 : Int32 → Int32 → Int32 → Mem → Option Mem) (v1 : Int32) (v3 : Int32) (v4 : Int32) (μ : Mem) : Option Mem :=
  k11 v1 v3 ((v4 - 1) &&& v3) μ
def f_X3_letOneHold_11 (k4 : Int32 → Int32 → Mem → Option Mem) : Nat → Int32 → Int32 → Int32 → Mem → Option Mem
  | 0, _, _, _, _ => none
  | n + 1, v1, v3, v4, μ => if v4 ≤ 0 then
    k4 v1 (v3 + (-1)) μ
  else
    ck (inb v4 512) <|
    if v1 < (μ 53 (ix v4)) then
      f_X3_letOneHold_53 k4 (f_X3_letOneHold_11 k4 n) v1 v3 v4 μ
    else
      ck (inb v3 512) <|
      ck (inb (v3 ^^^ v4) 512) <|
      ck (inb v3 512) <|
      wr μ 54 (ix v3) (jmin (μ 54 (ix v3)) ((μ 54 (ix (v3 ^^^ v4))) + 1)) fun μ6 =>
      f_X3_letOneHold_53 k4 (f_X3_letOneHold_11 k4 n) v1 v3 v4 μ6
def f_X3_letOneHold_4 : Nat → Int32 → Int32 → Mem → Option Mem
  | 0, _, _, _ => none
  | n + 1, v1, v3, μ => if v3 ≤ 0 then
    some μ
  else
    f_X3_letOneHold_11 (f_X3_letOneHold_4 n) 2000 v1 v3 v3 μ
def f_X3_letOneHold (v1 : Int32) (v2 : Int32) (μ : Mem) : Option Mem :=
  f_X3_letOneHold_4 2000 v1 (v2 - 1) μ
/-- GateMinds$Parting.fewestFor(LGateMinds$Moor;)I : kind W -/
def f_X3_fewestFor_86 (a1 : Nat) (v2 : Int32) (μ : Mem) : Option (Int32 × Mem) :=
  ck (inb (v2 - 1) 512) <|
  if 7 ≤ (μ 54 (ix (v2 - 1))) then
    some ((-1), μ)
  else
    some ((μ 54 (ix (v2 - 1))), μ)
def f_X3_fewestFor_55 (a1 : Nat) : Nat → Int32 → Int32 → Mem → Option (Int32 × Mem)
  | 0, _, _, _ => none
  | n + 1, v2, v3, μ => if (μ a1 10) ≤ v3 then
    f_X3_fewestFor_86 a1 v2 μ
  else
    bd (f_X3_weighSets a1 v3 v2 μ) fun μ2 =>
    bd (f_X2_room a1 v3 μ2) fun r3 =>
    bd (f_X3_letOneHold r3 v2 μ2) fun μ4 =>
    f_X3_fewestFor_55 a1 n v2 (v3 + 1) μ4
def f_X3_fewestFor_34 (a1 : Nat) : Nat → Int32 → Int32 → Mem → Option (Int32 × Mem)
  | 0, _, _, _ => none
  | n + 1, v2, v3, μ => if v2 ≤ v3 then
    f_X3_fewestFor_55 a1 2000 v2 0 μ
  else
    ck (inb v3 512) <|
    wr μ 54 (ix v3) 7 fun μ2 =>
    f_X3_fewestFor_34 a1 n v2 (v3 + 1) μ2
def f_X3_fewestFor (a1 : Nat) (μ : Mem) : Option (Int32 × Mem) :=
  if (μ a1 11) < 0 then
    some ((-1), μ)
  else
    if (μ a1 11) ≤ 9 then
      wr μ 54 (ix 0) 0 fun μ3 =>
      f_X3_fewestFor_34 a1 2000 (jshl 1 (μ a1 11)) 1 μ3
    else
      some ((-1), μ)
/-- GateMinds$Reader.isDigit(I)Z : kind T -/
def f_X4_isDigit (v0 : Int32) : Int32 :=
  if v0 < 48 then
    0
  else
    if 57 < v0 then
      0
    else
      1
/-- GateMinds$Reader.miss()V : kind V -/
def f_X4_miss (μ : Mem) : Option Mem :=
  if 0 ≤ (μ 48 5) then
    some μ
  else
    wr μ 48 5 (μ 48 4) fun μ2 =>
    some μ2
/-- GateMinds$Reader.next()I : kind P -/
def f_X4_next (μ : Mem) : Option Int32 :=
  if 0 ≤ (μ 48 5) then
    some (-1)
  else
    if (μ 48 4) < 0 then
      some (-1)
    else
      ck (kd true (ix (μ 48 1)) == 7) <|
      if (μ (ix (μ 48 1)) 1) ≤ (μ 48 4) then
        some (-1)
      else
        ck (kd true (ix (μ 48 1)) == 7) <|
        if (μ 48 4) < 60 then
          ck (kd true (ix (μ 48 1)) == 7) <|
          ck (inb (μ 48 4) 60) <|
          some ((μ ((ix (μ 48 1)) + 1) (ix (μ 48 4))) &&& 255)
        else
          some (-1)
/-- GateMinds$Reader.write(I)V : kind V -/
def f_X4_write (v1 : Int32) (μ : Mem) : Option Mem :=
  if 0 ≤ (μ 48 5) then
    some μ
  else
    if 60 ≤ (μ 48 3) then
      some μ
    else
      ck (inb (μ 48 3) 60) <|
      wr μ 49 (ix (μ 48 3)) v1 fun μ3 =>
      wr μ3 48 3 ((μ3 48 3) + 1) fun μ5 =>
      some μ5
/-- GateMinds$Reader.readNumber()V : kind V -/
def f_X4_readNumber_48 (v1 : Int32) (μ : Mem) : Option Mem :=
  bd (f_X4_write v1 μ) fun μ1 =>
  some μ1
def f_X4_readNumber_4 : Nat → Int32 → Int32 → Mem → Option Mem
  | 0, _, _, _ => none
  | n + 1, v1, v2, μ => if 4 ≤ v2 then
    f_X4_readNumber_48 v1 μ
  else
    bd (f_X4_next μ) fun r2 =>
    if (f_X4_isDigit r2) = 0 then
      f_X4_readNumber_48 v1 μ
    else
      bd (f_X4_next μ) fun r4 =>
      wr μ 48 4 ((μ 48 4) + 1) fun μ5 =>
      f_X4_readNumber_4 n (((v1 * 10) + r4) - 48) (v2 + 1) μ5
def f_X4_readNumber (μ : Mem) : Option Mem :=
  f_X4_readNumber_4 2000 0 0 μ
/-- GateMinds$Reader.readClosing()V : kind V -/
def f_X4_readClosing (μ : Mem) : Option Mem :=
  bd (f_X4_next μ) fun r1 =>
  if r1 = 41 then
    wr μ 48 4 ((μ 48 4) + 1) fun μ4 =>
    some μ4
  else
    bd (f_X4_miss μ) fun μ3 =>
    some μ3
/-- GateMinds$Reader.readName(I)V : kind V -/
def f_X4_readName_17 (s0 : Int32) (μ : Mem) : Option Mem :=
  if 0 ≤ s0 then
    wr μ 48 4 ((μ 48 4) + 1) fun μ2 =>
    bd (f_X4_write ((-1) - s0) μ2) fun μ3 =>
    some μ3
  else
    bd (f_X4_miss μ) fun μ4 =>
    some μ4
def f_X4_readName (v1 : Int32) (μ : Mem) : Option Mem :=
  if 0 ≤ v1 then
    ck (isStr (ix (μ 48 2))) <|
    bd (f_J0_indexOf ((ix (μ 48 2)) - 110) (jchar v1)) fun r3 =>
    f_X4_readName_17 r3 μ
  else
    f_X4_readName_17 (-1) μ
/-- GateMinds$Reader.readProduct(I)V : kind V -/
def f_X4_readProduct_36 (P : Int32 → Mem → Option Mem) (k12 : Int32 → Int32 → Int32 → Mem → Option Mem) (v1 : Int32) (v2 : Int32) (v3 : Int32) (μ : Mem) : Option Mem :=
  wr μ 48 4 ((μ 48 4) + 1) fun μ1 =>
  bd (P v1 μ1) fun μ2 =>
  bd (f_X4_write (-v2) μ2) fun μ3 =>
  bd (f_X4_next μ3) fun r4 =>
  k12 v1 r4 (v3 + 1) μ3
def f_X4_readProduct_12 (P : Int32 → Mem → Option Mem) : Nat → Int32 → Int32 → Int32 → Mem → Option Mem
  | 0, _, _, _, _ => none
  | n + 1, v1, v2, v3, μ => if 60 ≤ v3 then
    some μ
  else
    if v2 = 42 then
      f_X4_readProduct_36 P (f_X4_readProduct_12 P n) v1 v2 v3 μ
    else
      if v2 = 47 then
        f_X4_readProduct_36 P (f_X4_readProduct_12 P n) v1 v2 v3 μ
      else
        if v2 = 37 then
          f_X4_readProduct_36 P (f_X4_readProduct_12 P n) v1 v2 v3 μ
        else
          some μ
def f_X4_readProduct (P : Int32 → Mem → Option Mem) (v1 : Int32) (μ : Mem) : Option Mem :=
  bd (P v1 μ) fun μ1 =>
  bd (f_X4_next μ1) fun r2 =>
  f_X4_readProduct_12 P 2000 v1 r2 0 μ1
/-- GateMinds$Reader.readSum(I)V : kind V -/
def f_X4_readSum_30 (P : Int32 → Mem → Option Mem) (k12 : Int32 → Int32 → Int32 → Mem → Option Mem) (v1 : Int32) (v2 : Int32) (v3 : Int32) (μ : Mem) : Option Mem :=
  wr μ 48 4 ((μ 48 4) + 1) fun μ1 =>
  bd (f_X4_readProduct P v1 μ1) fun μ2 =>
  bd (f_X4_write (-v2) μ2) fun μ3 =>
  bd (f_X4_next μ3) fun r4 =>
  k12 v1 r4 (v3 + 1) μ3
def f_X4_readSum_12 (P : Int32 → Mem → Option Mem) : Nat → Int32 → Int32 → Int32 → Mem → Option Mem
  | 0, _, _, _, _ => none
  | n + 1, v1, v2, v3, μ => if 60 ≤ v3 then
    some μ
  else
    if v2 = 43 then
      f_X4_readSum_30 P (f_X4_readSum_12 P n) v1 v2 v3 μ
    else
      if v2 = 45 then
        f_X4_readSum_30 P (f_X4_readSum_12 P n) v1 v2 v3 μ
      else
        some μ
def f_X4_readSum (P : Int32 → Mem → Option Mem) (v1 : Int32) (μ : Mem) : Option Mem :=
  bd (f_X4_readProduct P v1 μ) fun μ1 =>
  bd (f_X4_next μ1) fun r2 =>
  f_X4_readSum_12 P 2000 v1 r2 0 μ1
/-- GateMinds$Reader.readCompared(I)V : kind V -/
def f_X4_readCompared_28 (P : Int32 → Mem → Option Mem) (v1 : Int32) (v2 : Int32) (μ : Mem) : Option Mem :=
  wr μ 48 4 ((μ 48 4) + 1) fun μ1 =>
  bd (f_X4_readSum P v1 μ1) fun μ2 =>
  bd (f_X4_write (-v2) μ2) fun μ3 =>
  some μ3
def f_X4_readCompared (P : Int32 → Mem → Option Mem) (v1 : Int32) (μ : Mem) : Option Mem :=
  bd (f_X4_readSum P v1 μ) fun μ1 =>
  bd (f_X4_next μ1) fun r2 =>
  if r2 = 60 then
    f_X4_readCompared_28 P v1 r2 μ1
  else
    if r2 = 61 then
      f_X4_readCompared_28 P v1 r2 μ1
    else
      if r2 = 62 then
        f_X4_readCompared_28 P v1 r2 μ1
      else
        some μ1
/-- GateMinds$Reader.readBoth(I)V : kind V -/
def f_X4_readBoth_7 (P : Int32 → Mem → Option Mem) : Nat → Int32 → Int32 → Mem → Option Mem
  | 0, _, _, _ => none
  | n + 1, v1, v2, μ => if 60 ≤ v2 then
    some μ
  else
    bd (f_X4_next μ) fun r2 =>
    if r2 = 38 then
      wr μ 48 4 ((μ 48 4) + 1) fun μ4 =>
      bd (f_X4_readCompared P v1 μ4) fun μ5 =>
      bd (f_X4_write (-38) μ5) fun μ6 =>
      f_X4_readBoth_7 P n v1 (v2 + 1) μ6
    else
      some μ
def f_X4_readBoth (P : Int32 → Mem → Option Mem) (v1 : Int32) (μ : Mem) : Option Mem :=
  bd (f_X4_readCompared P v1 μ) fun μ1 =>
  f_X4_readBoth_7 P 2000 v1 0 μ1
/-- GateMinds$Reader.readEither(I)V : kind V -/
def f_X4_readEither_7 (P : Int32 → Mem → Option Mem) : Nat → Int32 → Int32 → Mem → Option Mem
  | 0, _, _, _ => none
  | n + 1, v1, v2, μ => if 60 ≤ v2 then
    some μ
  else
    bd (f_X4_next μ) fun r2 =>
    if r2 = 124 then
      wr μ 48 4 ((μ 48 4) + 1) fun μ4 =>
      bd (f_X4_readBoth P v1 μ4) fun μ5 =>
      bd (f_X4_write (-124) μ5) fun μ6 =>
      f_X4_readEither_7 P n v1 (v2 + 1) μ6
    else
      some μ
def f_X4_readEither (P : Int32 → Mem → Option Mem) (v1 : Int32) (μ : Mem) : Option Mem :=
  bd (f_X4_readBoth P v1 μ) fun μ1 =>
  f_X4_readEither_7 P 2000 v1 0 μ1
/-- GateMinds$Reader.readPart(I)V : kind V -/
def f_X4_readPartb_100 (P : Int32 → Mem → Option Mem) (v2 : Int32) (μ : Mem) : Option Mem :=
  bd (f_X4_readName v2 μ) fun μ1 =>
  some μ1
def f_X4_readPartb_66 (P : Int32 → Mem → Option Mem) (v1 : Int32) (v2 : Int32) (v3 : Int32) (μ : Mem) : Option Mem :=
  if v2 = 40 then
    if v3 = 0 then
      f_X4_readPartb_100 P v2 μ
    else
      wr μ 48 4 ((μ 48 4) + 1) fun μ3 =>
      bd (f_X4_readEither P (v1 + 1) μ3) fun μ4 =>
      bd (f_X4_readClosing μ4) fun μ5 =>
      some μ5
  else
    f_X4_readPartb_100 P v2 μ
def f_X4_readPartb_15 (P : Int32 → Mem → Option Mem) (v1 : Int32) (v2 : Int32) (s0 : Int32) (μ : Mem) : Option Mem :=
  if (f_X4_isDigit v2) = 0 then
    if v2 = 33 then
      if s0 = 0 then
        f_X4_readPartb_66 P v1 v2 s0 μ
      else
        wr μ 48 4 ((μ 48 4) + 1) fun μ4 =>
        bd (P (v1 + 1) μ4) fun μ5 =>
        bd (f_X4_write (-33) μ5) fun μ6 =>
        some μ6
    else
      f_X4_readPartb_66 P v1 v2 s0 μ
  else
    bd (f_X4_readNumber μ) fun μ7 =>
    some μ7
def f_X4_readPartb (P : Int32 → Mem → Option Mem) (v1 : Int32) (μ : Mem) : Option Mem :=
  bd (f_X4_next μ) fun r1 =>
  if 5 ≤ v1 then
    f_X4_readPartb_15 P v1 r1 0 μ
  else
    f_X4_readPartb_15 P v1 r1 1 μ
def f_X4_readPart : Nat → Int32 → Mem → Option Mem
  | 0, _, _ => none
  | n + 1, v1, μ => f_X4_readPartb (f_X4_readPart n) v1 μ
/-- GateMinds$Reader.readInto(LGateMinds$Tape;LGateMinds$Law;)I : kind W -/
def f_X4_readInto_70 (a1 : Nat) (a2 : Nat) (μ : Mem) : Option (Int32 × Mem) :=
  some ((μ 48 5), μ)
def f_X4_readInto_51 (a1 : Nat) (a2 : Nat) (μ : Mem) : Option (Int32 × Mem) :=
  if 0 ≤ (μ 48 5) then
    f_X4_readInto_70 a1 a2 μ
  else
    bd (f_X1_take a2 49 (μ 48 3) μ) fun μ2 =>
    f_X4_readInto_70 a1 a2 μ2
def f_X4_readInto (a1 : Nat) (a2 : Nat) (μ : Mem) : Option (Int32 × Mem) :=
  wr μ 48 1 (Int32.ofNat a1) fun μ1 =>
  wr μ1 48 2 (Int32.ofNat (sr true a2 0)) fun μ2 =>
  wr μ2 48 3 0 fun μ3 =>
  wr μ3 48 4 0 fun μ4 =>
  wr μ4 48 5 (-1) fun μ5 =>
  bd (f_X4_readEither (f_X4_readPart 20) 0 μ5) fun μ6 =>
  ck (kd true (ix (μ6 48 1)) == 7) <|
  if (μ6 (ix (μ6 48 1)) 1) ≤ (μ6 48 4) then
    f_X4_readInto_51 a1 a2 μ6
  else
    bd (f_X4_miss μ6) fun μ9 =>
    f_X4_readInto_51 a1 a2 μ9
/-- GateMinds$Sheet.begin(II)V : kind V -/
def f_X5_begin_12 (o : Nat) : Nat → Int32 → Mem → Option Mem
  | 0, _, _ => none
  | n + 1, v3, μ => if 24 ≤ v3 then
    some μ
  else
    ck (inb v3 24) <|
    wr μ (o + 1) (ix v3) 0 fun μ2 =>
    f_X5_begin_12 o n (v3 + 1) μ2
def f_X5_begin (o : Nat) (v1 : Int32) (v2 : Int32) (μ : Mem) : Option Mem :=
  wr μ o 1 v1 fun μ1 =>
  wr μ1 o 2 v2 fun μ2 =>
  f_X5_begin_12 o 2000 0 μ2
/-- GateMinds$Sheet.giveHolders(LGateMinds$Moor;)I : kind W -/
def f_X5_giveHolders_60 (o : Nat) (a1 : Nat) (μ : Mem) : Option (Int32 × Mem) :=
  some ((μ o 2), μ)
def f_X5_giveHolders_2 (o : Nat) (a1 : Nat) : Nat → Int32 → Mem → Option (Int32 × Mem)
  | 0, _, _ => none
  | n + 1, v2, μ => if (μ o 2) ≤ v2 then
    f_X5_giveHolders_60 o a1 μ
  else
    if 24 ≤ v2 then
      f_X5_giveHolders_60 o a1 μ
    else
      if (f_X2_isGate a1 v2 μ) = 0 then
        some (v2, μ)
      else
        ck (inb v2 24) <|
        if (f_X2_isHolder a1 (μ (o + 1) (ix v2)) μ) = 0 then
          some (v2, μ)
        else
          ck (inb v2 24) <|
          ck (inb v2 9) <|
          wr μ (a1 + 6) (ix v2) (μ (o + 1) (ix v2)) fun μ7 =>
          f_X5_giveHolders_2 o a1 n (v2 + 1) μ7
def f_X5_giveHolders (o : Nat) (a1 : Nat) (μ : Mem) : Option (Int32 × Mem) :=
  f_X5_giveHolders_2 o a1 2000 0 μ
/-- GateMinds$Sheet.hasPart(II)Z : kind T -/
def f_X5_hasPart (o : Nat) (v1 : Int32) (v2 : Int32) (μ : Mem) : Int32 :=
  if v1 < 0 then
    0
  else
    if v2 < 0 then
      0
    else
      if (μ o 2) < v2 then
        0
      else
        if ((μ o 2) - v2) < v1 then
          0
        else
          1
/-- GateMinds$Sheet.isMissing()Z : kind T -/
def f_X5_isMissing (o : Nat) (μ : Mem) : Int32 :=
  if (μ o 1) = 0 then
    1
  else
    0
/-- GateMinds$Sheet.lowest(I)I : kind T -/
def f_X5_lowest (o : Nat) (v1 : Int32) (μ : Mem) : Int32 :=
  if (μ o 1) = 8 then
    (jbyte v1)
  else
    if (μ o 1) = 16 then
      (jshort v1)
    else
      v1
/-- GateMinds$Sheet.rightGrass(LGateMinds$Moor;)I : kind P -/
def f_X5_rightGrass_49 (o : Nat) (a1 : Nat) (μ : Mem) : Option Int32 :=
  some (μ o 2)
def f_X5_rightGrass_2 (o : Nat) (a1 : Nat) (μ : Mem) : Nat → Int32 → Option Int32
  | 0, _ => none
  | n + 1, v2 => if (μ o 2) ≤ v2 then
    f_X5_rightGrass_49 o a1 μ
  else
    if 24 ≤ v2 then
      f_X5_rightGrass_49 o a1 μ
    else
      if (f_X8_isField v2) = 0 then
        some v2
      else
        ck (inb v2 24) <|
        ck (inb v2 7) <|
        if (μ (o + 1) (ix v2)) = (μ (a1 + 8) (ix v2)) then
          f_X5_rightGrass_2 o a1 μ n (v2 + 1)
        else
          some v2
def f_X5_rightGrass (o : Nat) (a1 : Nat) (μ : Mem) : Option Int32 :=
  f_X5_rightGrass_2 o a1 μ 2000 0
/-- GateMinds$Sheet.tellsHolders(LGateMinds$Moor;)Z : kind P -/
def f_X5_tellsHolders_2 (o : Nat) (a1 : Nat) (μ : Mem) : Nat → Int32 → Option Int32
  | 0, _ => none
  | n + 1, v2 => if (μ o 2) ≤ v2 then
    some 1
  else
    if 24 ≤ v2 then
      some 1
    else
      if (f_X2_isGate a1 v2 μ) = 0 then
        some 0
      else
        ck (inb v2 9) <|
        ck (inb v2 24) <|
        if (μ (a1 + 6) (ix v2)) = (μ (o + 1) (ix v2)) then
          f_X5_tellsHolders_2 o a1 μ n (v2 + 1)
        else
          some 0
def f_X5_tellsHolders (o : Nat) (a1 : Nat) (μ : Mem) : Option Int32 :=
  f_X5_tellsHolders_2 o a1 μ 2000 0
/-- GateMinds$Speech.divided(I)I : kind W -/
def f_X6_divided (v1 : Int32) (μ : Mem) : Option (Int32 × Mem) :=
  if ((μ 55 5) - (μ 55 4)) = 0 then
    wr μ 55 2 1 fun μ3 =>
    some (0, μ3)
  else
    ck (nz ((μ 55 5) - (μ 55 4))) <|
    some ((v1 / ((μ 55 5) - (μ 55 4))), μ)
/-- GateMinds$Speech.from(IIII)I : kind W -/
def f_X6_from_76 (P : Int32 → Int32 → Int32 → Int32 → Mem → Option (Int32 × Mem)) (k6 : Int32 → Int32 → Int32 → Int32 → Int32 → Mem → Option (Int32 × Mem)) (v2 : Int32) (v3 : Int32) (v4 : Int32) (v5 : Int32) (v6 : Int32) (μ : Mem) : Option (Int32 × Mem) :=
  ck (inb v5 7) <|
  k6 v2 v3 v4 (kAb v5) (v6 + 1) μ
def f_X6_from_56 (P : Int32 → Int32 → Int32 → Int32 → Mem → Option (Int32 × Mem)) (v3 : Int32) (v4 : Int32) (v5 : Int32) (v7 : Int32) (μ : Mem) : Option (Int32 × Mem) :=
  ck (inb v7 28) <|
  ck (inb v5 7) <|
  bd2 (P (bOd v7) (kAb v5) v3 v4 μ) fun r3 μ4 =>
  some (r3, μ4)
def f_X6_from_6 (P : Int32 → Int32 → Int32 → Int32 → Mem → Option (Int32 × Mem)) : Nat → Int32 → Int32 → Int32 → Int32 → Int32 → Mem → Option (Int32 × Mem)
  | 0, _, _, _, _, _, _ => none
  | n + 1, v2, v3, v4, v5, v6, μ => if 7 ≤ v6 then
    some (0, μ)
  else
    if v5 < 0 then
      some (0, μ)
    else
      if 7 ≤ v5 then
        some (0, μ)
      else
        if ((v5 * 4) + v2) < 0 then
          f_X6_from_76 P (f_X6_from_6 P n) v2 v3 v4 v5 v6 μ
        else
          if 28 ≤ ((v5 * 4) + v2) then
            f_X6_from_76 P (f_X6_from_6 P n) v2 v3 v4 v5 v6 μ
          else
            ck (inb ((v5 * 4) + v2) 28) <|
            if (bOd ((v5 * 4) + v2)) = 0 then
              f_X6_from_76 P (f_X6_from_6 P n) v2 v3 v4 v5 v6 μ
            else
              f_X6_from_56 P v3 v4 v5 ((v5 * 4) + v2) μ
def f_X6_from (P : Int32 → Int32 → Int32 → Int32 → Mem → Option (Int32 × Mem)) (v1 : Int32) (v2 : Int32) (v3 : Int32) (v4 : Int32) (μ : Mem) : Option (Int32 × Mem) :=
  f_X6_from_6 P 2000 v2 v3 v4 v1 0 μ
/-- GateMinds$Speech.own(III)I : kind W -/
def f_X6_own (P : Int32 → Int32 → Int32 → Int32 → Mem → Option (Int32 × Mem)) (v1 : Int32) (v2 : Int32) (v3 : Int32) (μ : Mem) : Option (Int32 × Mem) :=
  bd2 (f_X6_from P (μ 55 3) v1 v2 v3 μ) fun r1 μ2 =>
  some (r1, μ2)
/-- GateMinds$Speech.work(IIII)I : kind W -/
def f_X6_workb_48 (P : Int32 → Int32 → Int32 → Int32 → Mem → Option (Int32 × Mem)) (v1 : Int32) (v2 : Int32) (v3 : Int32) (v4 : Int32) (μ : Mem) : Option (Int32 × Mem) :=
  if v1 = 10 then
    some ((v3 + (μ 55 4)), μ)
  else if v1 = 11 then
    bd2 (f_X6_own P 0 v3 (v4 + 1) μ) fun r3 μ4 =>
    some ((r3 * 2), μ4)
  else if v1 = 12 then
    bd2 (f_X6_own P 1 v3 (v4 + 1) μ) fun r6 μ7 =>
    some ((r6 - (μ7 55 5)), μ7)
  else if v1 = 13 then
    bd2 (f_X6_divided v3 μ) fun r9 μ10 =>
    some (r9, μ10)
  else if v1 = 20 then
    bd2 (f_X6_from P v2 0 v3 (v4 + 1) μ) fun r12 μ13 =>
    some ((r12 - 4), μ13)
  else if v1 = 21 then
    bd2 (f_X6_from P v2 3 v3 (v4 + 1) μ) fun r15 μ16 =>
    bd2 (f_X6_own P 1 1 (v4 + 1) μ16) fun r17 μ18 =>
    some ((r15 + r17), μ18)
  else if v1 = 30 then
    bd2 (f_X6_from P v2 1 v3 (v4 + 1) μ) fun r20 μ21 =>
    some ((0 - r20), μ21)
  else if v1 = 40 then
    bd2 (f_X6_from P v2 2 (v3 / 2) (v4 + 1) μ) fun r23 μ24 =>
    some (r23, μ24)
  else if v1 = 50 then
    bd2 (f_X6_from P v2 0 v3 (v4 + 1) μ) fun r26 μ27 =>
    some ((r26 * 3), μ27)
  else if v1 = 51 then
    bd2 (f_X6_from P v2 2 v3 (v4 + 1) μ) fun r29 μ30 =>
    some ((r29 ^^^ (μ30 55 4)), μ30)
  else if v1 = 60 then
    bd2 (f_X6_from P v2 1 (v3 + 1) (v4 + 1) μ) fun r32 μ33 =>
    some (r32, μ33)
  else if v1 = 70 then
    some (9, μ)
  else if v1 = 71 then
    bd2 (f_X6_from P v2 1 v3 (v4 + 1) μ) fun r36 μ37 =>
    some ((r36 + (μ37 55 5)), μ37)
  else some (0, μ)
def f_X6_workb (P : Int32 → Int32 → Int32 → Int32 → Mem → Option (Int32 × Mem)) (v1 : Int32) (v2 : Int32) (v3 : Int32) (v4 : Int32) (μ : Mem) : Option (Int32 × Mem) :=
  if (μ 55 2) = 0 then
    if v4 < 40 then
      if 30 ≤ (μ 55 1) then
        f_X6_workb_48 P v1 v2 v3 v4 μ
      else
        ck (inb (μ 55 1) 30) <|
        wr μ 56 (ix (μ 55 1)) v1 fun μ4 =>
        wr μ4 55 1 ((μ4 55 1) + 1) fun μ6 =>
        f_X6_workb_48 P v1 v2 v3 v4 μ6
    else
      some (0, μ)
  else
    some (0, μ)
def f_X6_work : Nat → Int32 → Int32 → Int32 → Int32 → Mem → Option (Int32 × Mem)
  | 0, _, _, _, _, _ => none
  | n + 1, v1, v2, v3, v4, μ => f_X6_workb (f_X6_work n) v1 v2 v3 v4 μ
/-- GateMinds$Speech.speak(IIIII)I : kind W -/
def f_X6_speak (v1 : Int32) (v2 : Int32) (v3 : Int32) (v4 : Int32) (v5 : Int32) (μ : Mem) : Option (Int32 × Mem) :=
  wr μ 55 3 v1 fun μ1 =>
  wr μ1 55 4 v2 fun μ2 =>
  wr μ2 55 5 v3 fun μ3 =>
  wr μ3 55 1 0 fun μ4 =>
  wr μ4 55 2 0 fun μ5 =>
  bd2 (f_X6_own (f_X6_work 20) v4 v5 0 μ5) fun r6 μ7 =>
  some (r6, μ7)
/-- GateMinds$Tape.append(JI)V : kind V -/
def f_X7_append_3 (o : Nat) : Nat → Int64 → Int32 → Int32 → Mem → Option Mem
  | 0, _, _, _, _ => none
  | n + 1, v1, v3, v4, μ => if v3 ≤ v4 then
    some μ
  else
    if 60 ≤ (μ o 1) then
      some μ
    else
      ck (inb (μ o 1) 60) <|
      wr μ (o + 1) (ix (μ o 1)) (((jbyte (((jlushr v1 (8 * v4))).toInt32))).toInt8.toInt32) fun μ3 =>
      wr μ3 o 1 ((μ3 o 1) + 1) fun μ5 =>
      f_X7_append_3 o n v1 v3 (v4 + 1) μ5
def f_X7_append (o : Nat) (v1 : Int64) (v3 : Int32) (μ : Mem) : Option Mem :=
  f_X7_append_3 o 2000 v1 v3 0 μ
/-- GateMinds.areTwoFields(II)Z : kind T -/
def f_X8_areTwoFields (v0 : Int32) (v1 : Int32) : Int32 :=
  if (f_X8_isField v0) = 0 then
    0
  else
    if (f_X8_isField v1) = 0 then
      0
    else
      if v0 = v1 then
        0
      else
        1
/-- GateMinds.fail(I)I : kind W -/
def f_X8_fail (v1 : Int32) (μ : Mem) : Option (Int32 × Mem) :=
  if v1 < 0 then
    some (((-1000000000) - v1), μ)
  else
    if 7 ≤ v1 then
      some (((-1000000000) - v1), μ)
    else
      ck (inb v1 7) <|
      ck (inb v1 7) <|
      wr μ 66 (ix v1) ((μ 66 (ix v1)) + 1) fun μ4 =>
      some (((-1000000000) - v1), μ4)
/-- GateMinds.isUnder(II)Z : kind P -/
def f_X8_isUnder_4 : Nat → Int32 → Int32 → Int32 → Option Int32
  | 0, _, _, _ => none
  | n + 1, v1, v2, v3 => if 7 ≤ v3 then
    some 0
  else
    if v2 < 0 then
      some 0
    else
      if 7 ≤ v2 then
        some 0
      else
        if v2 = v1 then
          some 1
        else
          ck (inb v2 7) <|
          f_X8_isUnder_4 n v1 (kAb v2) (v3 + 1)
def f_X8_isUnder (v0 : Int32) (v1 : Int32) : Option Int32 :=
  f_X8_isUnder_4 2000 v1 v0 0
/-- GateMinds.as(II)I : kind W -/
def f_X8_as_26 (μ : Mem) : Option (Int32 × Mem) :=
  bd2 (f_X8_fail 1 μ) fun r1 μ2 =>
  some (r1, μ2)
def f_X8_as (v1 : Int32) (v2 : Int32) (μ : Mem) : Option (Int32 × Mem) :=
  if (f_X2_isOne (1 + 7) v1 μ) = 0 then
    f_X8_as_26 μ
  else
    if v2 < 0 then
      f_X8_as_26 μ
    else
      if v2 < 7 then
        ck (inb v1 6) <|
        bd (f_X8_isUnder (μ ((1 + 7) + 1) (ix v1)) v2) fun r5 =>
        if r5 = 0 then
          bd2 (f_X8_fail 5 μ) fun r8 μ9 =>
          some (r8, μ9)
        else
          ck (inb v1 6) <|
          some ((μ ((1 + 7) + 2) (ix v1)), μ)
      else
        f_X8_as_26 μ
/-- GateMinds.isKindAndNumber(I)Z : kind T -/
def f_X8_isKindAndNumber (v0 : Int32) : Int32 :=
  if v0 < 0 then
    0
  else
    if 70 ≤ v0 then
      0
    else
      1
/-- GateMinds.become(II)I : kind W -/
def f_X8_become_23 (μ : Mem) : Option (Int32 × Mem) :=
  bd2 (f_X8_fail 1 μ) fun r1 μ2 =>
  some (r1, μ2)
def f_X8_become (v1 : Int32) (v2 : Int32) (μ : Mem) : Option (Int32 × Mem) :=
  if (f_X2_isOne (1 + 7) v1 μ) = 0 then
    f_X8_become_23 μ
  else
    if (f_X8_isKindAndNumber v2) = 0 then
      f_X8_become_23 μ
    else
      ck (inb v1 6) <|
      ck (inb v1 6) <|
      wr μ ((1 + 7) + 1) (ix v1) (v2 / 10) fun μ4 =>
      ck (inb v1 6) <|
      wr μ4 ((1 + 7) + 2) (ix v1) (jrem v2 10) fun μ6 =>
      some ((μ ((1 + 7) + 1) (ix v1)), μ6)
/-- GateMinds.body(I)I : kind W -/
def f_X8_body_15 (μ : Mem) : Option (Int32 × Mem) :=
  bd2 (f_X8_fail 2 μ) fun r1 μ2 =>
  some (r1, μ2)
def f_X8_body (v1 : Int32) (μ : Mem) : Option (Int32 × Mem) :=
  if v1 < 0 then
    f_X8_body_15 μ
  else
    if v1 < (μ 55 1) then
      ck (inb v1 30) <|
      some ((μ 56 (ix v1)), μ)
    else
      f_X8_body_15 μ
/-- GateMinds.check()I : kind W -/
def f_X8_check (μ : Mem) : Option (Int32 × Mem) :=
  bd2 (f_X0_firstWrongLoad 1 μ) fun r1 μ2 =>
  wr μ2 1 5 0 fun μ3 =>
  some ((r1 + 1), μ3)
/-- GateMinds.commonDivisor(II)I : kind P -/
def f_X8_commonDivisor_2 : Nat → Int32 → Int32 → Int32 → Option Int32
  | 0, _, _, _ => none
  | n + 1, v0, v1, v2 => if v2 ≤ 1 then
    some 1
  else
    ck (nz v2) <|
    if (jrem v0 v2) = 0 then
      ck (nz v2) <|
      if (jrem v1 v2) = 0 then
        some v2
      else
        f_X8_commonDivisor_2 n v0 v1 (v2 + (-1))
    else
      f_X8_commonDivisor_2 n v0 v1 (v2 + (-1))
def f_X8_commonDivisor (v0 : Int32) (v1 : Int32) : Option Int32 :=
  f_X8_commonDivisor_2 2000 v0 v1 v1
/-- GateMinds.count(I)I : kind W -/
def f_X8_count (v1 : Int32) (μ : Mem) : Option (Int32 × Mem) :=
  if v1 = 0 then
    some ((μ (1 + 7) 10), μ)
  else if v1 = 1 then
    some ((μ (1 + 7) 11), μ)
  else if v1 = 2 then
    some ((μ (1 + 7) 12), μ)
  else if v1 = 3 then
    some ((μ (1 + 7) 13), μ)
  else if v1 = 4 then
    some ((μ (1 + 7) 14), μ)
  else if v1 = 5 then
    bd (f_X2_openGates (1 + 7) μ) fun r7 =>
    some (r7, μ)
  else if v1 = 6 then
    some ((μ (1 + 16) 1), μ)
  else if v1 = 7 then
    some ((μ 1 5), μ)
  else if v1 = 8 then
    some ((μ 55 1), μ)
  else if v1 = 9 then
    some ((μ 1 6), μ)
  else bd2 (f_X8_fail 1 μ) fun r12 μ13 =>
  some (r12, μ13)
/-- GateMinds.cut(III)I : kind W -/
def f_X8_cut_17 (μ : Mem) : Option (Int32 × Mem) :=
  bd2 (f_X8_fail 1 μ) fun r1 μ2 =>
  some (r1, μ2)
def f_X8_cut (v1 : Int32) (v2 : Int32) (v3 : Int32) (μ : Mem) : Option (Int32 × Mem) :=
  if (f_X8_areTwoFields v1 v2) = 0 then
    f_X8_cut_17 μ
  else
    if v3 < 0 then
      f_X8_cut_17 μ
    else
      if v3 ≤ 1 then
        bd (f_X2_leastCut (1 + 7) v1 v2 μ) fun r4 =>
        if v3 = 0 then
          some ((f_J6_bitCount r4), μ)
        else
          some (r4, μ)
      else
        f_X8_cut_17 μ
/-- GateMinds.feed(JI)I : kind W -/
def f_X8_feed_11 (μ : Mem) : Option (Int32 × Mem) :=
  bd2 (f_X8_fail 1 μ) fun r1 μ2 =>
  some (r1, μ2)
def f_X8_feed (v1 : Int64) (v3 : Int32) (μ : Mem) : Option (Int32 × Mem) :=
  if v3 < 1 then
    f_X8_feed_11 μ
  else
    if v3 ≤ 8 then
      if ((μ (1 + 16) 1) + v3) ≤ 60 then
        bd (f_X7_append (1 + 16) v1 v3 μ) fun μ4 =>
        some ((μ4 (1 + 16) 1), μ4)
      else
        bd2 (f_X8_fail 4 μ) fun r5 μ6 =>
        some (r5, μ6)
    else
      f_X8_feed_11 μ
/-- GateMinds.fewest()I : kind W -/
def f_X8_fewest (μ : Mem) : Option (Int32 × Mem) :=
  bd2 (f_X3_fewestFor (1 + 7) μ) fun r1 μ2 =>
  if 0 ≤ r1 then
    some (r1, μ2)
  else
    bd2 (f_X8_fail 2 μ2) fun r4 μ5 =>
    some (r4, μ5)
/-- GateMinds.first(I)I : kind W -/
def f_X8_first_70 (μ : Mem) : Option (Int32 × Mem) :=
  bd2 (f_X8_fail 2 μ) fun r1 μ2 =>
  some (r1, μ2)
def f_X8_first_36 : Nat → Int32 → Int32 → Mem → Option (Int32 × Mem)
  | 0, _, _, _ => none
  | n + 1, v1, v2, μ => if 60 < v2 then
    f_X8_first_70 μ
  else
    ck (inb v1 9) <|
    if (μ (39 + 6) (ix v1)) = (-1) then
      some (v2, μ)
    else
      bd (f_X2_anHour 39 μ) fun μ4 =>
      f_X8_first_36 n v1 (v2 + 1) μ4
def f_X8_first (v1 : Int32) (μ : Mem) : Option (Int32 × Mem) :=
  if (f_X2_isGate (1 + 7) v1 μ) = 0 then
    bd2 (f_X8_fail 1 μ) fun r3 μ4 =>
    some (r3, μ4)
  else
    bd (f_X2_copyOf 39 (1 + 7) μ) fun μ2 =>
    f_X8_first_36 2000 v1 0 μ2
/-- GateMinds.isSheet(I)Z : kind T -/
def f_X8_isSheet (v0 : Int32) : Int32 :=
  if v0 < 0 then
    0
  else
    if 4 ≤ v0 then
      0
    else
      1
/-- GateMinds.fits(I)I : kind W -/
def f_X8_fits_81 (μ : Mem) : Option (Int32 × Mem) :=
  bd2 (f_X8_fail 2 μ) fun r1 μ2 =>
  some (r1, μ2)
def f_X8_fits_49 : Nat → Int32 → Int32 → Mem → Option (Int32 × Mem)
  | 0, _, _, _ => none
  | n + 1, v1, v3, μ => if 60 < v3 then
    f_X8_fits_81 μ
  else
    bd (f_X5_tellsHolders (58 + 2 * ix v1) 39 μ) fun r2 =>
    if r2 = 0 then
      bd (f_X2_anHour 39 μ) fun μ4 =>
      f_X8_fits_49 n v1 (v3 + 1) μ4
    else
      some (v3, μ)
def f_X8_fits (v1 : Int32) (μ : Mem) : Option (Int32 × Mem) :=
  if (f_X8_isSheet v1) = 0 then
    bd2 (f_X8_fail 1 μ) fun r7 μ8 =>
    some (r7, μ8)
  else
    ck (inb v1 4) <|
    if (f_X5_isMissing (58 + 2 * ix v1) μ) = 0 then
      bd (f_X2_copyOf 39 (1 + 7) μ) fun μ4 =>
      f_X8_fits_49 2000 v1 0 μ4
    else
      bd2 (f_X8_fail 2 μ) fun r5 μ6 =>
      some (r5, μ6)
/-- GateMinds.gate(III)I : kind W -/
def f_X8_gate_18 (μ : Mem) : Option (Int32 × Mem) :=
  bd2 (f_X8_fail 1 μ) fun r1 μ2 =>
  some (r1, μ2)
def f_X8_gate (v1 : Int32) (v2 : Int32) (v3 : Int32) (μ : Mem) : Option (Int32 × Mem) :=
  if (f_X8_areTwoFields v1 v2) = 0 then
    f_X8_gate_18 μ
  else
    if v3 < 0 then
      f_X8_gate_18 μ
    else
      if v3 ≤ 9 then
        if (μ (1 + 7) 11) < 9 then
          bd2 (f_X2_addGate (1 + 7) v1 v2 v3 μ) fun r5 μ6 =>
          some (r5, μ6)
        else
          bd2 (f_X8_fail 4 μ) fun r7 μ8 =>
          some (r7, μ8)
      else
        f_X8_gate_18 μ
/-- GateMinds.gateIs(II)I : kind W -/
def f_X8_gateIs_25 (μ : Mem) : Option (Int32 × Mem) :=
  bd2 (f_X8_fail 1 μ) fun r1 μ2 =>
  some (r1, μ2)
def f_X8_gateIs (v1 : Int32) (v2 : Int32) (μ : Mem) : Option (Int32 × Mem) :=
  if (f_X2_isGate (1 + 7) v1 μ) = 0 then
    f_X8_gateIs_25 μ
  else
    if v2 < 0 then
      f_X8_gateIs_25 μ
    else
      if v2 ≤ 3 then
        if v2 = 0 then
          ck (inb v1 9) <|
          some ((μ ((1 + 7) + 3) (ix v1)), μ)
        else if v2 = 1 then
          ck (inb v1 9) <|
          some ((μ ((1 + 7) + 4) (ix v1)), μ)
        else if v2 = 2 then
          ck (inb v1 9) <|
          some ((μ ((1 + 7) + 5) (ix v1)), μ)
        else ck (inb v1 9) <|
        some ((μ ((1 + 7) + 6) (ix v1)), μ)
      else
        f_X8_gateIs_25 μ
/-- GateMinds.grass(II)I : kind W -/
def f_X8_grass_17 (μ : Mem) : Option (Int32 × Mem) :=
  bd2 (f_X8_fail 1 μ) fun r1 μ2 =>
  some (r1, μ2)
def f_X8_grass (v1 : Int32) (v2 : Int32) (μ : Mem) : Option (Int32 × Mem) :=
  if (f_X8_isField v1) = 0 then
    f_X8_grass_17 μ
  else
    if v2 < 0 then
      f_X8_grass_17 μ
    else
      if v2 ≤ 99 then
        ck (inb v1 7) <|
        ck (inb v1 7) <|
        wr μ ((1 + 7) + 8) (ix v1) v2 fun μ5 =>
        some ((μ ((1 + 7) + 8) (ix v1)), μ5)
      else
        f_X8_grass_17 μ
/-- GateMinds.hold(II)I : kind W -/
def f_X8_hold_24 (μ : Mem) : Option (Int32 × Mem) :=
  bd2 (f_X8_fail 1 μ) fun r1 μ2 =>
  some (r1, μ2)
def f_X8_hold (v1 : Int32) (v2 : Int32) (μ : Mem) : Option (Int32 × Mem) :=
  if (f_X2_isGate (1 + 7) v1 μ) = 0 then
    f_X8_hold_24 μ
  else
    if (f_X2_isHolder (1 + 7) v2 μ) = 0 then
      f_X8_hold_24 μ
    else
      ck (inb v1 9) <|
      ck (inb v1 9) <|
      wr μ ((1 + 7) + 6) (ix v1) v2 fun μ4 =>
      some ((μ ((1 + 7) + 6) (ix v1)), μ4)
/-- GateMinds.holds(I)I : kind W -/
def f_X8_holds (v1 : Int32) (μ : Mem) : Option (Int32 × Mem) :=
  if (f_X8_isSheet v1) = 0 then
    bd2 (f_X8_fail 1 μ) fun r9 μ10 =>
    some (r9, μ10)
  else
    ck (inb v1 4) <|
    if (f_X5_isMissing (58 + 2 * ix v1) μ) = 0 then
      ck (inb v1 4) <|
      bd2 (f_X5_giveHolders (58 + 2 * ix v1) (1 + 7) μ) fun r5 μ6 =>
      some (r5, μ6)
    else
      bd2 (f_X8_fail 2 μ) fun r7 μ8 =>
      some (r7, μ8)
/-- GateMinds.hour(I)I : kind W -/
def f_X8_hour_11 (μ : Mem) : Option (Int32 × Mem) :=
  bd2 (f_X8_fail 1 μ) fun r1 μ2 =>
  some (r1, μ2)
def f_X8_hour (v1 : Int32) (μ : Mem) : Option (Int32 × Mem) :=
  if v1 < 0 then
    f_X8_hour_11 μ
  else
    if v1 ≤ 9999 then
      wr μ (1 + 7) 13 v1 fun μ3 =>
      some ((μ (1 + 7) 13), μ3)
    else
      f_X8_hour_11 μ
/-- GateMinds.hours(I)I : kind W -/
def f_X8_hours_11 (μ : Mem) : Option (Int32 × Mem) :=
  bd2 (f_X8_fail 1 μ) fun r1 μ2 =>
  some (r1, μ2)
def f_X8_hours_64 (μ : Mem) : Option (Int32 × Mem) :=
  bd (f_X2_openGates (1 + 7) μ) fun r1 =>
  some (r1, μ)
def f_X8_hours_43 : Nat → Int32 → Int32 → Mem → Option (Int32 × Mem)
  | 0, _, _, _ => none
  | n + 1, v1, v2, μ => if v1 ≤ v2 then
    f_X8_hours_64 μ
  else
    bd (f_X2_anHour (1 + 7) μ) fun μ2 =>
    f_X8_hours_43 n v1 (v2 + 1) μ2
def f_X8_hours (v1 : Int32) (μ : Mem) : Option (Int32 × Mem) :=
  if v1 < 1 then
    f_X8_hours_11 μ
  else
    if v1 ≤ 60 then
      if ((μ (1 + 7) 13) + v1) ≤ 9999 then
        f_X8_hours_43 2000 v1 0 μ
      else
        bd2 (f_X8_fail 3 μ) fun r4 μ5 =>
        some (r4, μ5)
    else
      f_X8_hours_11 μ
/-- GateMinds.image()I : kind W -/
def f_X8_image (μ : Mem) : Option (Int32 × Mem) :=
  bd (f_X0_copyOf 20 1 μ) fun μ1 =>
  wr μ1 0 8 ((μ1 0 8) + 1) fun μ2 =>
  some ((μ2 0 8), μ2)
/-- GateMinds.isUse(I)Z : kind T -/
def f_X8_isUse (v0 : Int32) : Int32 :=
  if v0 < 0 then
    0
  else
    if 2 ≤ v0 then
      0
    else
      1
/-- GateMinds.isWidth(I)Z : kind T -/
def f_X8_isWidth (v0 : Int32) : Int32 :=
  if v0 = 0 then
    1
  else
    if v0 = 8 then
      1
    else
      if v0 = 16 then
        1
      else
        if v0 = 32 then
          1
        else
          0
/-- GateMinds.judge(I)I : kind W -/
def f_X8_judge (v1 : Int32) (μ : Mem) : Option (Int32 × Mem) :=
  if (f_X8_isSheet v1) = 0 then
    bd2 (f_X8_fail 1 μ) fun r8 μ9 =>
    some (r8, μ9)
  else
    ck (inb v1 4) <|
    if (f_X5_isMissing (58 + 2 * ix v1) μ) = 0 then
      ck (inb v1 4) <|
      bd (f_X5_rightGrass (58 + 2 * ix v1) (1 + 7) μ) fun r5 =>
      some (r5, μ)
    else
      bd2 (f_X8_fail 2 μ) fun r6 μ7 =>
      some (r6, μ7)
/-- GateMinds.law(IIII)I : kind W -/
def f_X8_law (v1 : Int32) (v2 : Int32) (v3 : Int32) (v4 : Int32) (μ : Mem) : Option (Int32 × Mem) :=
  if (f_X8_isUse v1) = 0 then
    bd2 (f_X8_fail 1 μ) fun r4 μ5 =>
    some (r4, μ5)
  else
    bd2 (f_X1_gives (f_X0_lawOf 1 v1) v2 v3 v4 μ) fun r2 μ3 =>
    some (r2, μ3)
/-- GateMinds.loose(I)I : kind W -/
def f_X8_loose_11 (μ : Mem) : Option (Int32 × Mem) :=
  bd2 (f_X8_fail 1 μ) fun r1 μ2 =>
  some (r1, μ2)
def f_X8_loose_71 (μ : Mem) : Option (Int32 × Mem) :=
  bd (f_X2_openGates (1 + 7) μ) fun r1 =>
  some (r1, μ)
def f_X8_loose_43 : Nat → Int32 → Int32 → Mem → Option (Int32 × Mem)
  | 0, _, _, _ => none
  | n + 1, v1, v2, μ => if v1 ≤ v2 then
    f_X8_loose_71 μ
  else
    bd (f_X0_shuffle 1 μ) fun μ2 =>
    bd (f_X2_anHour (1 + 7) μ2) fun μ3 =>
    f_X8_loose_43 n v1 (v2 + 1) μ3
def f_X8_loose (v1 : Int32) (μ : Mem) : Option (Int32 × Mem) :=
  if v1 < 1 then
    f_X8_loose_11 μ
  else
    if v1 ≤ 30 then
      if ((μ (1 + 7) 13) + v1) ≤ 9999 then
        f_X8_loose_43 2000 v1 0 μ
      else
        bd2 (f_X8_fail 3 μ) fun r4 μ5 =>
        some (r4, μ5)
    else
      f_X8_loose_11 μ
/-- GateMinds.move(IIIII)I : kind W -/
def f_X8_move_14 (μ : Mem) : Option (Int32 × Mem) :=
  bd2 (f_X8_fail 1 μ) fun r1 μ2 =>
  some (r1, μ2)
def f_X8_move_52 (μ : Mem) : Option (Int32 × Mem) :=
  bd2 (f_X8_fail 2 μ) fun r1 μ2 =>
  some (r1, μ2)
def f_X8_move_100 (μ : Mem) : Option (Int32 × Mem) :=
  bd2 (f_X8_fail 1 μ) fun r1 μ2 =>
  some (r1, μ2)
def f_X8_move (v1 : Int32) (v2 : Int32) (v3 : Int32) (v4 : Int32) (v5 : Int32) (μ : Mem) : Option (Int32 × Mem) :=
  if (f_X8_isSheet v1) = 0 then
    f_X8_move_14 μ
  else
    if (f_X8_isSheet v3) = 0 then
      f_X8_move_14 μ
    else
      ck (inb v1 4) <|
      ck (inb v3 4) <|
      if (f_X5_isMissing (58 + 2 * ix v1) μ) = 0 then
        if (f_X5_isMissing (58 + 2 * ix v3) μ) = 0 then
          if (μ (58 + 2 * ix v1) 1) = (μ (58 + 2 * ix v3) 1) then
            if (f_X5_hasPart (58 + 2 * ix v1) v2 v5 μ) = 0 then
              f_X8_move_100 μ
            else
              if (f_X5_hasPart (58 + 2 * ix v3) v4 v5 μ) = 0 then
                f_X8_move_100 μ
              else
                ck (inC v2 v4 v5 (ln true ((58 + 2 * ix v1) + 1)) (ln true ((58 + 2 * ix v3) + 1))) <|
                cpy μ ((58 + 2 * ix v1) + 1) (ix v2) ((58 + 2 * ix v3) + 1) (ix v4) (ix v5) fun μ11 =>
                some (v5, μ11)
          else
            bd2 (f_X8_fail 5 μ) fun r12 μ13 =>
            some (r12, μ13)
        else
          f_X8_move_52 μ
      else
        f_X8_move_52 μ
/-- GateMinds.odds(II)I : kind W -/
def f_X8_odds_16 (μ : Mem) : Option (Int32 × Mem) :=
  bd2 (f_X8_fail 1 μ) fun r1 μ2 =>
  some (r1, μ2)
def f_X8_odds_74 (v5 : Int32) (s0 : Int32) (μ : Mem) : Option (Int32 × Mem) :=
  if v5 ≤ 1 then
    some (s0, μ)
  else
    ck (nz v5) <|
    some ((s0 / v5), μ)
def f_X8_odds (v1 : Int32) (v2 : Int32) (μ : Mem) : Option (Int32 × Mem) :=
  if (f_X8_isField v1) = 0 then
    f_X8_odds_16 μ
  else
    if v2 < 0 then
      f_X8_odds_16 μ
    else
      if v2 ≤ 1 then
        if 0 < (μ (1 + 7) 11) then
          bd (f_X2_gatesThatMatter (1 + 7) v1 μ) fun r5 =>
          bd (f_X8_commonDivisor r5 (μ (1 + 7) 11)) fun r6 =>
          if v2 = 0 then
            f_X8_odds_74 r6 r5 μ
          else
            f_X8_odds_74 r6 (μ (1 + 7) 11) μ
        else
          bd2 (f_X8_fail 3 μ) fun r8 μ9 =>
          some (r8, μ9)
      else
        f_X8_odds_16 μ
/-- GateMinds.pass(II)I : kind W -/
def f_X8_pass_29 (μ : Mem) : Option (Int32 × Mem) :=
  bd2 (f_X8_fail 1 μ) fun r1 μ2 =>
  some (r1, μ2)
def f_X8_pass (v1 : Int32) (v2 : Int32) (μ : Mem) : Option (Int32 × Mem) :=
  if (f_X2_isOne (1 + 7) v1 μ) = 0 then
    f_X8_pass_29 μ
  else
    if (f_X2_isOne (1 + 7) v2 μ) = 0 then
      f_X8_pass_29 μ
    else
      if v1 = v2 then
        f_X8_pass_29 μ
      else
        bd2 (f_X2_handOver (1 + 7) v1 v2 μ) fun r4 μ5 =>
        some (r4, μ5)
/-- GateMinds.person(I)I : kind W -/
def f_X8_person (v1 : Int32) (μ : Mem) : Option (Int32 × Mem) :=
  if (f_X8_isKindAndNumber v1) = 0 then
    bd2 (f_X8_fail 1 μ) fun r7 μ8 =>
    some (r7, μ8)
  else
    if (μ (1 + 7) 10) < 6 then
      bd2 (f_X2_addOne (1 + 7) (v1 / 10) (jrem v1 10) μ) fun r3 μ4 =>
      some (r3, μ4)
    else
      bd2 (f_X8_fail 4 μ) fun r5 μ6 =>
      some (r5, μ6)
/-- GateMinds.personIs(II)I : kind W -/
def f_X8_personIs_25 (μ : Mem) : Option (Int32 × Mem) :=
  bd2 (f_X8_fail 1 μ) fun r1 μ2 =>
  some (r1, μ2)
def f_X8_personIs (v1 : Int32) (v2 : Int32) (μ : Mem) : Option (Int32 × Mem) :=
  if (f_X2_isOne (1 + 7) v1 μ) = 0 then
    f_X8_personIs_25 μ
  else
    if v2 < 0 then
      f_X8_personIs_25 μ
    else
      if v2 ≤ 4 then
        if v2 = 0 then
          ck (inb v1 6) <|
          some ((μ ((1 + 7) + 1) (ix v1)), μ)
        else if v2 = 1 then
          ck (inb v1 6) <|
          some ((μ ((1 + 7) + 2) (ix v1)), μ)
        else if v2 = 2 then
          bd (f_X2_heldBy (1 + 7) v1 μ) fun r9 =>
          some (r9, μ)
        else if v2 = 3 then
          bd2 (f_X2_load (1 + 7) v1 μ) fun r11 μ12 =>
          some (r11, μ12)
        else bd (f_X2_room (1 + 7) v1 μ) fun r13 =>
        some (r13, μ)
      else
        f_X8_personIs_25 μ
/-- GateMinds.put(III)I : kind W -/
def f_X8_put_48 (μ : Mem) : Option (Int32 × Mem) :=
  bd2 (f_X8_fail 1 μ) fun r1 μ2 =>
  some (r1, μ2)
def f_X8_put (v1 : Int32) (v2 : Int32) (v3 : Int32) (μ : Mem) : Option (Int32 × Mem) :=
  if (f_X8_isSheet v1) = 0 then
    bd2 (f_X8_fail 1 μ) fun r10 μ11 =>
    some (r10, μ11)
  else
    ck (inb v1 4) <|
    if (f_X5_isMissing (58 + 2 * ix v1) μ) = 0 then
      if v2 < 0 then
        f_X8_put_48 μ
      else
        if v2 < (μ (58 + 2 * ix v1) 2) then
          ck (inb v2 24) <|
          wr μ ((58 + 2 * ix v1) + 1) (ix v2) (f_X5_lowest (58 + 2 * ix v1) v3 μ) fun μ6 =>
          some (1, μ6)
        else
          f_X8_put_48 μ
    else
      bd2 (f_X8_fail 2 μ) fun r8 μ9 =>
      some (r8, μ9)
/-- GateMinds.restore()I : kind W -/
def f_X8_restore (μ : Mem) : Option (Int32 × Mem) :=
  if (μ 0 8) = 0 then
    bd2 (f_X8_fail 2 μ) fun r3 μ4 =>
    some (r3, μ4)
  else
    bd (f_X0_copyOf 1 20 μ) fun μ2 =>
    some ((μ2 (1 + 7) 13), μ2)
/-- GateMinds.roams(I)I : kind W -/
def f_X8_roams (v1 : Int32) (μ : Mem) : Option (Int32 × Mem) :=
  if (f_X8_isField v1) = 0 then
    bd2 (f_X8_fail 1 μ) fun r4 μ5 =>
    some (r4, μ5)
  else
    bd (f_X2_openGates (1 + 7) μ) fun r2 =>
    bd (f_X2_reached (1 + 7) v1 r2 μ) fun r3 =>
    some (r3, μ)
/-- GateMinds.seed(I)I : kind W -/
def f_X8_seed (v1 : Int32) (μ : Mem) : Option (Int32 × Mem) :=
  wr μ 1 6 v1 fun μ1 =>
  some ((μ 1 6), μ1)
/-- GateMinds.sheet(III)I : kind W -/
def f_X8_sheet_14 (μ : Mem) : Option (Int32 × Mem) :=
  bd2 (f_X8_fail 1 μ) fun r1 μ2 =>
  some (r1, μ2)
def f_X8_sheet (v1 : Int32) (v2 : Int32) (v3 : Int32) (μ : Mem) : Option (Int32 × Mem) :=
  if (f_X8_isSheet v1) = 0 then
    f_X8_sheet_14 μ
  else
    if (f_X8_isWidth v2) = 0 then
      f_X8_sheet_14 μ
    else
      if v2 = 0 then
        ck (inb v1 4) <|
        bd (f_X5_begin (58 + 2 * ix v1) 0 0 μ) fun μ13 =>
        some (1, μ13)
      else
        if 0 ≤ v3 then
          if v3 ≤ 24 then
            ck (inb v1 4) <|
            bd (f_X5_begin (58 + 2 * ix v1) v2 v3 μ) fun μ7 =>
            some (1, μ7)
          else
            bd2 (f_X8_fail 1 μ) fun r8 μ9 =>
            some (r8, μ9)
        else
          bd2 (f_X8_fail 3 μ) fun r10 μ11 =>
          some (r10, μ11)
/-- GateMinds.stock(I)I : kind W -/
def f_X8_stock (v1 : Int32) (μ : Mem) : Option (Int32 × Mem) :=
  if (f_X8_isField v1) = 0 then
    bd2 (f_X8_fail 1 μ) fun r7 μ8 =>
    some (r7, μ8)
  else
    if (μ (1 + 7) 12) < 6 then
      bd2 (f_X2_addBeast (1 + 7) v1 μ) fun r3 μ4 =>
      some (r3, μ4)
    else
      bd2 (f_X8_fail 4 μ) fun r5 μ6 =>
      some (r5, μ6)
/-- GateMinds.stockAt(I)I : kind W -/
def f_X8_stockAt_18 (μ : Mem) : Option (Int32 × Mem) :=
  bd2 (f_X8_fail 1 μ) fun r1 μ2 =>
  some (r1, μ2)
def f_X8_stockAt (v1 : Int32) (μ : Mem) : Option (Int32 × Mem) :=
  if v1 < 0 then
    f_X8_stockAt_18 μ
  else
    if v1 < (μ (1 + 7) 12) then
      ck (inb v1 6) <|
      some ((μ ((1 + 7) + 7) (ix v1)), μ)
    else
      f_X8_stockAt_18 μ
/-- GateMinds.tell(I)I : kind W -/
def f_X8_tell (v1 : Int32) (μ : Mem) : Option (Int32 × Mem) :=
  if (μ 1 5) < 24 then
    ck (inb (μ 1 5) 24) <|
    wr μ (1 + 18) (ix (μ 1 5)) v1 fun μ2 =>
    wr μ2 1 5 ((μ2 1 5) + 1) fun μ4 =>
    some ((μ4 1 5), μ4)
  else
    bd2 (f_X8_fail 4 μ) fun r5 μ6 =>
    some (r5, μ6)
/-- GateMinds.text(I)I : kind W -/
def f_X8_text (v1 : Int32) (μ : Mem) : Option (Int32 × Mem) :=
  if (f_X8_isUse v1) = 0 then
    bd2 (f_X8_fail 1 μ) fun r6 μ7 =>
    some (r6, μ7)
  else
    bd2 (f_X4_readInto (1 + 16) (f_X0_lawOf 1 v1) μ) fun r2 μ3 =>
    wr μ3 (1 + 16) 1 0 fun μ4 =>
    if 0 ≤ r2 then
      some (((-10) - r2), μ4)
    else
      some (1, μ4)
/-- GateMinds.then(II)I : kind W -/
def f_X8_then_19 (μ : Mem) : Option (Int32 × Mem) :=
  bd2 (f_X8_fail 1 μ) fun r1 μ2 =>
  some (r1, μ2)
def f_X8_then_59 (v2 : Int32) (μ : Mem) : Option (Int32 × Mem) :=
  if v2 = 0 then
    bd (f_X2_openGates 39 μ) fun r2 =>
    some (r2, μ)
  else
    some ((μ 39 14), μ)
def f_X8_then_41 : Nat → Int32 → Int32 → Int32 → Mem → Option (Int32 × Mem)
  | 0, _, _, _, _ => none
  | n + 1, v1, v2, v3, μ => if v1 ≤ v3 then
    f_X8_then_59 v2 μ
  else
    bd (f_X2_anHour 39 μ) fun μ2 =>
    f_X8_then_41 n v1 v2 (v3 + 1) μ2
def f_X8_then (v1 : Int32) (v2 : Int32) (μ : Mem) : Option (Int32 × Mem) :=
  if v1 < 0 then
    f_X8_then_19 μ
  else
    if 60 < v1 then
      f_X8_then_19 μ
    else
      if v2 < 0 then
        f_X8_then_19 μ
      else
        if v2 ≤ 1 then
          bd (f_X2_copyOf 39 (1 + 7) μ) fun μ5 =>
          f_X8_then_41 2000 v1 v2 0 μ5
        else
          f_X8_then_19 μ
/-- GateMinds.told(I)I : kind W -/
def f_X8_told_11 (μ : Mem) : Option (Int32 × Mem) :=
  bd2 (f_X8_fail 1 μ) fun r1 μ2 =>
  some (r1, μ2)
def f_X8_told (v1 : Int32) (μ : Mem) : Option (Int32 × Mem) :=
  if v1 < 1 then
    f_X8_told_11 μ
  else
    if v1 ≤ 6 then
      ck (inb v1 7) <|
      some ((μ 66 (ix v1)), μ)
    else
      f_X8_told_11 μ
/-- GateMinds.untell(I)I : kind W -/
def f_X8_untell_34 (v1 : Int32) (s0 : Int32) (μ : Mem) : Option (Int32 × Mem) :=
  wr μ (f_X0_lawOf 1 v1) 4 0 fun μ1 =>
  some (s0, μ1)
def f_X8_untell (v1 : Int32) (μ : Mem) : Option (Int32 × Mem) :=
  if (f_X8_isUse v1) = 0 then
    bd2 (f_X8_fail 1 μ) fun r3 μ4 =>
    some (r3, μ4)
  else
    if (f_X1_isTold (f_X0_lawOf 1 v1) μ) = 0 then
      f_X8_untell_34 v1 0 μ
    else
      f_X8_untell_34 v1 1 μ
/-- GateMinds.voice(III)I : kind W -/
def f_X8_voice_27 (μ : Mem) : Option (Int32 × Mem) :=
  bd2 (f_X8_fail 1 μ) fun r1 μ2 =>
  some (r1, μ2)
def f_X8_voice (v1 : Int32) (v2 : Int32) (v3 : Int32) (μ : Mem) : Option (Int32 × Mem) :=
  if (f_X2_isOne (1 + 7) v1 μ) = 0 then
    f_X8_voice_27 μ
  else
    if v2 < 0 then
      f_X8_voice_27 μ
    else
      if v2 < 4 then
        ck (inb v1 6) <|
        ck (inb v1 6) <|
        bd2 (f_X6_speak (μ ((1 + 7) + 1) (ix v1)) v1 (μ ((1 + 7) + 2) (ix v1)) v2 v3 μ) fun r6 μ7 =>
        if (μ7 55 2) = 0 then
          some (r6, μ7)
        else
          bd2 (f_X8_fail 6 μ7) fun r9 μ10 =>
          some (r9, μ10)
      else
        f_X8_voice_27 μ
/-- GateMinds.way(II)I : kind W -/
def f_X8_way_14 (μ : Mem) : Option (Int32 × Mem) :=
  bd2 (f_X8_fail 1 μ) fun r1 μ2 =>
  some (r1, μ2)
def f_X8_way (v1 : Int32) (v2 : Int32) (μ : Mem) : Option (Int32 × Mem) :=
  if (f_X8_isField v1) = 0 then
    f_X8_way_14 μ
  else
    if (f_X8_isField v2) = 0 then
      f_X8_way_14 μ
    else
      bd (f_X2_steps (1 + 7) v1 v2 μ) fun r3 =>
      if 0 ≤ r3 then
        some (r3, μ)
      else
        bd2 (f_X8_fail 2 μ) fun r5 μ6 =>
        some (r5, μ6)
/-- GateMindsModel.about(II)I : kind P -/
def f_X9_about (v1 : Int32) (v2 : Int32) (μ : Mem) : Option Int32 :=
  ck (inb ((27 + (4 * v1)) + v2) 395) <|
  some (μ 1 (ix ((27 + (4 * v1)) + v2)))
/-- GateMindsModel.all()I : kind T -/
def f_X9_all (μ : Mem) : Int32 :=
  ((jshl 1 (μ 1 (ix 3))) - 1)
/-- GateMindsModel.look()I : kind P -/
def f_X9_look (μ : Mem) : Option Int32 :=
  if (μ 1 (ix 6)) ≤ (μ 0 13) then
    some (-1)
  else
    ck (inb (69 + (μ 0 13)) 395) <|
    some (μ 1 (ix (69 + (μ 0 13))))
/-- GateMindsModel.nameOf(I)I : kind T -/
def f_X9_nameOf (v1 : Int32) (μ : Mem) : Int32 :=
  if v1 = 100 ∨ v1 = 102 then
    if (μ 0 16) = 1 then
      if v1 = 102 then
        1
      else
        2
    else
      (-1)
  else if v1 = 103 then
    if (μ 0 16) = 0 then
      2
    else
      0
  else if v1 = 104 ∨ v1 = 119 then
    if (μ 0 16) = 0 then
      if v1 = 119 then
        0
      else
        1
    else
      (-1)
  else (-1)
/-- GateMindsModel.lays(II)V : kind V -/
def f_X9_lays (v1 : Int32) (v2 : Int32) (μ : Mem) : Option Mem :=
  if 60 ≤ (μ 0 12) then
    some μ
  else
    ck (inb (μ 0 12) 60) <|
    wr μ 8 (ix (μ 0 12)) v1 fun μ2 =>
    ck (inb (μ2 0 12) 60) <|
    wr μ2 9 (ix (μ2 0 12)) v2 fun μ4 =>
    wr μ4 0 12 ((μ4 0 12) + 1) fun μ6 =>
    some μ6
/-- GateMindsModel.in(III)Z : kind T -/
def f_X9_in (v0 : Int32) (v1 : Int32) (v2 : Int32) : Int32 :=
  if v0 < v1 then
    0
  else
    if v2 < v0 then
      0
    else
      1
/-- GateMindsModel.number()V : kind V -/
def f_X9_number_62 (v1 : Int32) (s1 : Int32) (μ : Mem) : Option Mem :=
  ck (bl s1) <|
  wr μ 0 15 s1 fun μ1 =>
  bd (f_X9_lays 1 v1 μ1) fun μ3 =>
  some μ3
def f_X9_number_52 (v1 : Int32) (v2 : Int32) (μ : Mem) : Option Mem :=
  if v2 = 0 then
    f_X9_number_62 v1 1 μ
  else
    f_X9_number_62 v1 0 μ
def f_X9_number_4 : Nat → Int32 → Int32 → Mem → Option Mem
  | 0, _, _, _ => none
  | n + 1, v1, v2, μ => if 4 ≤ v2 then
    f_X9_number_52 v1 v2 μ
  else
    bd (f_X9_look μ) fun r2 =>
    if (f_X9_in r2 48 57) = 0 then
      f_X9_number_52 v1 v2 μ
    else
      bd (f_X9_look μ) fun r4 =>
      wr μ 0 13 ((μ 0 13) + 1) fun μ5 =>
      f_X9_number_4 n (((10 * v1) + r4) - 48) (v2 + 1) μ5
def f_X9_number (μ : Mem) : Option Mem :=
  f_X9_number_4 2000 0 0 μ
/-- GateMindsModel.times()V : kind V -/
def f_X9_times_38 (P : Mem → Option Mem) (k4 : Mem → Option Mem) (μ : Mem) : Option Mem :=
  bd (f_X9_look μ) fun r1 =>
  wr μ 0 13 ((μ 0 13) + 1) fun μ2 =>
  bd (P μ2) fun μ3 =>
  bd (f_X9_lays r1 0 μ3) fun μ4 =>
  k4 μ4
def f_X9_times_4 (P : Mem → Option Mem) : Nat → Mem → Option Mem
  | 0, _ => none
  | n + 1, μ => if (μ 0 15) = 0 then
    bd (f_X9_look μ) fun r2 =>
    if r2 = 42 then
      f_X9_times_38 P (f_X9_times_4 P n) μ
    else
      bd (f_X9_look μ) fun r4 =>
      if r4 = 47 then
        f_X9_times_38 P (f_X9_times_4 P n) μ
      else
        bd (f_X9_look μ) fun r6 =>
        if r6 = 37 then
          f_X9_times_38 P (f_X9_times_4 P n) μ
        else
          some μ
  else
    some μ
def f_X9_times (P : Mem → Option Mem) (μ : Mem) : Option Mem :=
  bd (P μ) fun μ1 =>
  f_X9_times_4 P 2000 μ1
/-- GateMindsModel.sum()V : kind V -/
def f_X9_sum_29 (P : Mem → Option Mem) (k4 : Mem → Option Mem) (μ : Mem) : Option Mem :=
  bd (f_X9_look μ) fun r1 =>
  wr μ 0 13 ((μ 0 13) + 1) fun μ2 =>
  bd (f_X9_times P μ2) fun μ3 =>
  bd (f_X9_lays r1 0 μ3) fun μ4 =>
  k4 μ4
def f_X9_sum_4 (P : Mem → Option Mem) : Nat → Mem → Option Mem
  | 0, _ => none
  | n + 1, μ => if (μ 0 15) = 0 then
    bd (f_X9_look μ) fun r2 =>
    if r2 = 43 then
      f_X9_sum_29 P (f_X9_sum_4 P n) μ
    else
      bd (f_X9_look μ) fun r4 =>
      if r4 = 45 then
        f_X9_sum_29 P (f_X9_sum_4 P n) μ
      else
        some μ
  else
    some μ
def f_X9_sum (P : Mem → Option Mem) (μ : Mem) : Option Mem :=
  bd (f_X9_times P μ) fun μ1 =>
  f_X9_sum_4 P 2000 μ1
/-- GateMindsModel.compares()V : kind V -/
def f_X9_compares_34 (P : Mem → Option Mem) (v1 : Int32) (μ : Mem) : Option Mem :=
  wr μ 0 13 ((μ 0 13) + 1) fun μ1 =>
  bd (f_X9_sum P μ1) fun μ2 =>
  bd (f_X9_lays v1 0 μ2) fun μ3 =>
  some μ3
def f_X9_compares (P : Mem → Option Mem) (μ : Mem) : Option Mem :=
  bd (f_X9_sum P μ) fun μ1 =>
  bd (f_X9_look μ1) fun r2 =>
  if (μ1 0 15) = 0 then
    if r2 = 60 then
      f_X9_compares_34 P r2 μ1
    else
      if r2 = 61 then
        f_X9_compares_34 P r2 μ1
      else
        if r2 = 62 then
          f_X9_compares_34 P r2 μ1
        else
          some μ1
  else
    some μ1
/-- GateMindsModel.allBy()V : kind V -/
def f_X9_allBy_4 (P : Mem → Option Mem) : Nat → Mem → Option Mem
  | 0, _ => none
  | n + 1, μ => if (μ 0 15) = 0 then
    bd (f_X9_look μ) fun r2 =>
    if r2 = 38 then
      wr μ 0 13 ((μ 0 13) + 1) fun μ4 =>
      bd (f_X9_compares P μ4) fun μ5 =>
      bd (f_X9_lays 38 0 μ5) fun μ6 =>
      f_X9_allBy_4 P n μ6
    else
      some μ
  else
    some μ
def f_X9_allBy (P : Mem → Option Mem) (μ : Mem) : Option Mem :=
  bd (f_X9_compares P μ) fun μ1 =>
  f_X9_allBy_4 P 2000 μ1
/-- GateMindsModel.any()V : kind V -/
def f_X9_any_4 (P : Mem → Option Mem) : Nat → Mem → Option Mem
  | 0, _ => none
  | n + 1, μ => if (μ 0 15) = 0 then
    bd (f_X9_look μ) fun r2 =>
    if r2 = 124 then
      wr μ 0 13 ((μ 0 13) + 1) fun μ4 =>
      bd (f_X9_allBy P μ4) fun μ5 =>
      bd (f_X9_lays 124 0 μ5) fun μ6 =>
      f_X9_any_4 P n μ6
    else
      some μ
  else
    some μ
def f_X9_any (P : Mem → Option Mem) (μ : Mem) : Option Mem :=
  bd (f_X9_allBy P μ) fun μ1 =>
  f_X9_any_4 P 2000 μ1
/-- GateMindsModel.opens(I)V : kind V -/
def f_X9_opens_103 (P : Mem → Option Mem) (μ : Mem) : Option Mem :=
  wr μ 0 14 ((μ 0 14) - 1) fun μ1 =>
  some μ1
def f_X9_opens_99 (P : Mem → Option Mem) (s1 : Int32) (s2 : Int32) (μ : Mem) : Option Mem :=
  wr μ 0 13 (s1 + s2) fun μ1 =>
  f_X9_opens_103 P μ1
def f_X9_opens_79 (P : Mem → Option Mem) (s1 : Int32) (μ : Mem) : Option Mem :=
  ck (bl s1) <|
  wr μ 0 15 s1 fun μ1 =>
  if (μ1 0 15) = 0 then
    f_X9_opens_99 P (μ1 0 13) 1 μ1
  else
    f_X9_opens_99 P (μ1 0 13) 0 μ1
def f_X9_opens_74 (P : Mem → Option Mem) (μ : Mem) : Option Mem :=
  f_X9_opens_79 P 1 μ
def f_X9_opens (P : Mem → Option Mem) (v1 : Int32) (μ : Mem) : Option Mem :=
  if (μ 0 14) = 5 then
    wr μ 0 15 1 fun μ11 =>
    some μ11
  else
    wr μ 0 14 ((μ 0 14) + 1) fun μ2 =>
    wr μ2 0 13 ((μ2 0 13) + 1) fun μ3 =>
    if v1 = 33 then
      bd (P μ3) fun μ9 =>
      bd (f_X9_lays 3 0 μ9) fun μ10 =>
      f_X9_opens_103 P μ10
    else
      bd (f_X9_any P μ3) fun μ5 =>
      if (μ5 0 15) = 0 then
        bd (f_X9_look μ5) fun r7 =>
        if r7 = 41 then
          f_X9_opens_79 P 0 μ5
        else
          f_X9_opens_74 P μ5
      else
        f_X9_opens_74 P μ5
/-- GateMindsModel.one()V : kind V -/
def f_X9_oneb_46 (P : Mem → Option Mem) (v1 : Int32) (μ : Mem) : Option Mem :=
  bd (f_X9_opens P v1 μ) fun μ1 =>
  some μ1
def f_X9_oneb (P : Mem → Option Mem) (μ : Mem) : Option Mem :=
  bd (f_X9_look μ) fun r1 =>
  if (f_X9_nameOf r1 μ) < 0 then
    if r1 = 33 then
      f_X9_oneb_46 P r1 μ
    else
      if r1 = 40 then
        f_X9_oneb_46 P r1 μ
      else
        bd (f_X9_number μ) fun μ5 =>
        some μ5
  else
    wr μ 0 13 ((μ 0 13) + 1) fun μ6 =>
    bd (f_X9_lays 2 (f_X9_nameOf r1 μ) μ6) fun μ7 =>
    some μ7
def f_X9_one : Nat → Mem → Option Mem
  | 0, _ => none
  | n + 1, μ => f_X9_oneb (f_X9_one n)  μ
/-- GateMindsModel.isField(I)Z : kind T -/
def f_X9_isField (v0 : Int32) : Int32 :=
  (f_X9_in v0 0 6)
/-- GateMindsModel.areTwo(II)Z : kind T -/
def f_X9_areTwo (v0 : Int32) (v1 : Int32) : Int32 :=
  if (f_X9_isField v0) = 0 then
    0
  else
    if (f_X9_isField v1) = 0 then
      0
    else
      if v0 = v1 then
        0
      else
        1
/-- GateMindsModel.isPerson(I)Z : kind T -/
def f_X9_isPerson (v1 : Int32) (μ : Mem) : Int32 :=
  (f_X9_in v1 0 ((μ 1 (ix 2)) - 1))
/-- GateMindsModel.error(I)I : kind W -/
def f_X9_error (v1 : Int32) (μ : Mem) : Option (Int32 × Mem) :=
  ck (inb ((-1000000000) - v1) 7) <|
  ck (inb ((-1000000000) - v1) 7) <|
  wr μ 4 (ix ((-1000000000) - v1)) ((μ 4 (ix ((-1000000000) - v1))) + 1) fun μ2 =>
  some (v1, μ2)
/-- GateMindsModel.of(II)I : kind P -/
def f_X9_of (v1 : Int32) (v2 : Int32) (μ : Mem) : Option Int32 :=
  ck (inb ((15 + (2 * v1)) + v2) 395) <|
  some (μ 1 (ix ((15 + (2 * v1)) + v2)))
/-- GateMindsModel.as(II)I : kind W -/
def f_X9_as_18 (μ : Mem) : Option (Int32 × Mem) :=
  bd2 (f_X9_error (-1000000001) μ) fun r1 μ2 =>
  some (r1, μ2)
def f_X9_as_66 (v1 : Int32) (s0 : Int32) (μ : Mem) : Option (Int32 × Mem) :=
  if s0 = 0 then
    bd2 (f_X9_error (-1000000005) μ) fun r2 μ3 =>
    some (r2, μ3)
  else
    bd (f_X9_of v1 1 μ) fun r4 =>
    some (r4, μ)
def f_X9_as_61 (v1 : Int32) (μ : Mem) : Option (Int32 × Mem) :=
  f_X9_as_66 v1 1 μ
def f_X9_as_65 (v1 : Int32) (μ : Mem) : Option (Int32 × Mem) :=
  f_X9_as_66 v1 0 μ
def f_X9_as_51 (v1 : Int32) (v2 : Int32) (v3 : Int32) (μ : Mem) : Option (Int32 × Mem) :=
  if v2 = 2 then
    if v3 = 5 then
      f_X9_as_61 v1 μ
    else
      f_X9_as_65 v1 μ
  else
    f_X9_as_65 v1 μ
def f_X9_as (v1 : Int32) (v2 : Int32) (μ : Mem) : Option (Int32 × Mem) :=
  if (f_X9_isPerson v1 μ) = 0 then
    f_X9_as_18 μ
  else
    if (f_X9_in v2 0 6) = 0 then
      f_X9_as_18 μ
    else
      bd (f_X9_of v1 0 μ) fun r3 =>
      if v2 = 0 then
        f_X9_as_61 v1 μ
      else
        if v2 = r3 then
          f_X9_as_61 v1 μ
        else
          if v2 = 1 then
            if r3 = 4 then
              f_X9_as_61 v1 μ
            else
              f_X9_as_51 v1 v2 r3 μ
          else
            f_X9_as_51 v1 v2 r3 μ
/-- GateMindsModel.isKm(I)Z : kind T -/
def f_X9_isKm (v0 : Int32) : Int32 :=
  (f_X9_in v0 0 69)
/-- GateMindsModel.becomes(II)I : kind W -/
def f_X9_becomes (v1 : Int32) (v2 : Int32) (μ : Mem) : Option (Int32 × Mem) :=
  ck (inb v1 395) <|
  ck (inb v1 395) <|
  wr μ 1 (ix v1) v2 fun μ2 =>
  some ((μ 1 (ix v1)), μ2)
/-- GateMindsModel.become(II)I : kind W -/
def f_X9_become_15 (μ : Mem) : Option (Int32 × Mem) :=
  bd2 (f_X9_error (-1000000001) μ) fun r1 μ2 =>
  some (r1, μ2)
def f_X9_become (v1 : Int32) (v2 : Int32) (μ : Mem) : Option (Int32 × Mem) :=
  if (f_X9_isPerson v1 μ) = 0 then
    f_X9_become_15 μ
  else
    if (f_X9_isKm v2) = 0 then
      f_X9_become_15 μ
    else
      ck (inb ((15 + (2 * v1)) + 1) 395) <|
      wr μ 1 (ix ((15 + (2 * v1)) + 1)) (jrem v2 10) fun μ3 =>
      bd2 (f_X9_becomes (15 + (2 * v1)) (v2 / 10) μ3) fun r5 μ6 =>
      some (r5, μ6)
/-- GateMindsModel.begins(I)V : kind V -/
def f_X9_begins (v1 : Int32) (μ : Mem) : Option Mem :=
  if 30 ≤ (μ 0 21) then
    some μ
  else
    ck (inb (μ 0 21) 30) <|
    wr μ 15 (ix (μ 0 21)) v1 fun μ2 =>
    wr μ2 0 21 ((μ2 0 21) + 1) fun μ4 =>
    some μ4
/-- GateMindsModel.beyond(II)I : kind P -/
def f_X9_beyond (v1 : Int32) (v2 : Int32) (μ : Mem) : Option Int32 :=
  bd (f_X9_about v1 0 μ) fun r1 =>
  if r1 = v2 then
    bd (f_X9_about v1 1 μ) fun r6 =>
    some r6
  else
    bd (f_X9_about v1 1 μ) fun r3 =>
    if r3 = v2 then
      bd (f_X9_about v1 0 μ) fun r5 =>
      some r5
    else
      some (-1)
/-- GateMindsModel.bits(I)I : kind P -/
def f_X9_bits_4 : Nat → Int32 → Int32 → Option Int32
  | 0, _, _ => none
  | n + 1, v1, v2 => if v2 = 0 then
    some v1
  else
    f_X9_bits_4 n (v1 + 1) (v2 &&& (v2 - 1))
def f_X9_bits (v0 : Int32) : Option Int32 :=
  f_X9_bits_4 2000 0 v0
/-- GateMindsModel.body(I)I : kind W -/
def f_X9_body (v1 : Int32) (μ : Mem) : Option (Int32 × Mem) :=
  if (f_X9_in v1 0 ((μ 0 21) - 1)) = 0 then
    bd2 (f_X9_error (-1000000002) μ) fun r2 μ3 =>
    some (r2, μ3)
  else
    ck (inb v1 30) <|
    some ((μ 15 (ix v1)), μ)
/-- GateMindsModel.isOpen(I)Z : kind P -/
def f_X9_isOpen (v1 : Int32) (μ : Mem) : Option Int32 :=
  bd (f_X9_about v1 3 μ) fun r1 =>
  if 0 ≤ r1 then
    some 0
  else
    some 1
/-- GateMindsModel.costsOf(II)I : kind P -/
def f_X9_costsOf (v1 : Int32) (v2 : Int32) (μ : Mem) : Option Int32 :=
  bd (f_X9_about v2 2 μ) fun r1 =>
  bd (f_X9_of v1 0 μ) fun r2 =>
  if r2 = 1 then
    some (r1 + 1)
  else if r2 = 2 then
    some (2 * r1)
  else if r2 = 4 then
    some ((r1 + 1) - (r1 / 2))
  else if r2 = 5 then
    bd (f_X9_isOpen v2 μ) fun r7 =>
    if r7 = 0 then
      some (2 * r1)
    else
      some 0
  else if r2 = 6 then
    some (r1 + (jrem v2 3))
  else some r1
/-- GateMindsModel.twoOf(III)I : kind P -/
def f_X9_twoOf (v0 : Int32) (v1 : Int32) (v2 : Int32) : Option Int32 :=
  if v0 = 37 then
    if v2 = 0 then
      some 0
    else
      ck (nz v2) <|
      some (jrem v1 v2)
  else if v0 = 38 then
    if v1 = 0 then
      some 0
    else
      if v2 = 0 then
        some 0
      else
        some 1
  else if v0 = 42 then
    some (v1 * v2)
  else if v0 = 43 then
    some (v1 + v2)
  else if v0 = 45 then
    some (v1 - v2)
  else if v0 = 47 then
    if v2 = 0 then
      some 0
    else
      ck (nz v2) <|
      some (v1 / v2)
  else if v0 = 60 then
    if v2 ≤ v1 then
      some 0
    else
      some 1
  else if v0 = 61 then
    if v1 = v2 then
      some 1
    else
      some 0
  else if v0 = 62 then
    if v1 ≤ v2 then
      some 0
    else
      some 1
  else if v1 = 0 then
    if v2 = 0 then
      some 0
    else
      some 1
  else
    some 1
/-- GateMindsModel.works(I)I : kind W -/
def f_X9_works_155 (μ : Mem) : Option (Int32 × Mem) :=
  some ((μ 11 (ix 0)), μ)
def f_X9_works_79 (k4 : Int32 → Int32 → Int32 → Mem → Option (Int32 × Mem)) (v1 : Int32) (v2 : Int32) (v3 : Int32) (s1 : Int32) (s2 : Int32) (μ : Mem) : Option (Int32 × Mem) :=
  ck (inb s1 60) <|
  wr μ 11 (ix s1) s2 fun μ1 =>
  k4 v1 (v2 + 1) (v3 + 1) μ1
def f_X9_works_38 (k4 : Int32 → Int32 → Int32 → Mem → Option (Int32 × Mem)) (v1 : Int32) (v2 : Int32) (v3 : Int32) (v4 : Int32) (μ : Mem) : Option (Int32 × Mem) :=
  if v4 = 1 then
    ck (inb ((v1 + 61) + v3) 395) <|
    f_X9_works_79 k4 v1 v2 v3 v2 (μ 1 (ix ((v1 + 61) + v3))) μ
  else
    ck (inb ((v1 + 61) + v3) 395) <|
    ck (inb (μ 1 (ix ((v1 + 61) + v3))) 3) <|
    f_X9_works_79 k4 v1 v2 v3 v2 (μ 10 (ix (μ 1 (ix ((v1 + 61) + v3))))) μ
def f_X9_works_115 (k4 : Int32 → Int32 → Int32 → Mem → Option (Int32 × Mem)) (v1 : Int32) (v2 : Int32) (v3 : Int32) (s1 : Int32) (s2 : Int32) (μ : Mem) : Option (Int32 × Mem) :=
  ck (inb s1 60) <|
  wr μ 11 (ix s1) s2 fun μ1 =>
  k4 v1 v2 (v3 + 1) μ1
def f_X9_works_4 : Nat → Int32 → Int32 → Int32 → Mem → Option (Int32 × Mem)
  | 0, _, _, _, _ => none
  | n + 1, v1, v2, v3, μ => ck (inb v1 395) <|
  if (μ 1 (ix v1)) ≤ v3 then
    f_X9_works_155 μ
  else
    ck (inb ((v1 + 1) + v3) 395) <|
    if (μ 1 (ix ((v1 + 1) + v3))) = 1 then
      f_X9_works_38 (f_X9_works_4 n) v1 v2 v3 (μ 1 (ix ((v1 + 1) + v3))) μ
    else
      if (μ 1 (ix ((v1 + 1) + v3))) = 2 then
        f_X9_works_38 (f_X9_works_4 n) v1 v2 v3 (μ 1 (ix ((v1 + 1) + v3))) μ
      else
        if (μ 1 (ix ((v1 + 1) + v3))) = 3 then
          ck (inb (v2 - 1) 60) <|
          if (μ 11 (ix (v2 - 1))) = 0 then
            f_X9_works_115 (f_X9_works_4 n) v1 v2 v3 (v2 - 1) 1 μ
          else
            f_X9_works_115 (f_X9_works_4 n) v1 v2 v3 (v2 - 1) 0 μ
        else
          ck (inb ((v2 + (-1)) - 1) 60) <|
          ck (inb (v2 + (-1)) 60) <|
          bd (f_X9_twoOf (μ 1 (ix ((v1 + 1) + v3))) (μ 11 (ix ((v2 + (-1)) - 1))) (μ 11 (ix (v2 + (-1))))) fun r9 =>
          ck (inb ((v2 + (-1)) - 1) 60) <|
          wr μ 11 (ix ((v2 + (-1)) - 1)) r9 fun μ10 =>
          f_X9_works_4 n v1 (v2 + (-1)) (v3 + 1) μ10
def f_X9_works (v1 : Int32) (μ : Mem) : Option (Int32 × Mem) :=
  f_X9_works_4 2000 v1 0 0 μ
/-- GateMindsModel.held(III)I : kind T -/
def f_X9_held (v0 : Int32) (v1 : Int32) (v2 : Int32) : Int32 :=
  if v1 ≤ v0 then
    if v0 ≤ v2 then
      v0
    else
      v2
  else
    v1
/-- GateMindsModel.gives(IIII)I : kind W -/
def f_X9_gives_52 (v1 : Int32) (s0 : Int32) (μ : Mem) : Option (Int32 × Mem) :=
  if v1 = 0 then
    some ((f_X9_held s0 0 19), μ)
  else
    some ((f_X9_held s0 0 99), μ)
def f_X9_gives (v1 : Int32) (v2 : Int32) (v3 : Int32) (v4 : Int32) (μ : Mem) : Option (Int32 × Mem) :=
  wr μ 10 (ix 0) v2 fun μ1 =>
  wr μ1 10 (ix 1) v3 fun μ2 =>
  wr μ2 10 (ix 2) v4 fun μ3 =>
  ck (inb (153 + (121 * v1)) 395) <|
  if (μ3 1 (ix (153 + (121 * v1)))) ≤ 0 then
    f_X9_gives_52 v1 v2 μ3
  else
    bd2 (f_X9_works (153 + (121 * v1)) μ3) fun r6 μ7 =>
    f_X9_gives_52 v1 r6 μ7
/-- GateMindsModel.weighsOn(II)I : kind W -/
def f_X9_weighsOn (v1 : Int32) (v2 : Int32) (μ : Mem) : Option (Int32 × Mem) :=
  bd (f_X9_costsOf v1 v2 μ) fun r1 =>
  bd2 (f_X9_gives 0 r1 (jrem (μ 1 (ix 0)) 24) v2 μ) fun r2 μ3 =>
  some (r2, μ3)
/-- GateMindsModel.loadOf(I)I : kind W -/
def f_X9_loadOf_35 (k4 : Int32 → Int32 → Int32 → Mem → Option (Int32 × Mem)) (v1 : Int32) (v3 : Int32) (s0 : Int32) (s1 : Int32) (μ : Mem) : Option (Int32 × Mem) :=
  k4 v1 (s0 + s1) (v3 + 1) μ
def f_X9_loadOf_4 : Nat → Int32 → Int32 → Int32 → Mem → Option (Int32 × Mem)
  | 0, _, _, _, _ => none
  | n + 1, v1, v2, v3, μ => if (μ 1 (ix 3)) ≤ v3 then
    some (v2, μ)
  else
    bd (f_X9_about v3 3 μ) fun r2 =>
    if r2 = v1 then
      bd2 (f_X9_weighsOn v1 v3 μ) fun r4 μ5 =>
      f_X9_loadOf_35 (f_X9_loadOf_4 n) v1 v3 v2 r4 μ5
    else
      f_X9_loadOf_35 (f_X9_loadOf_4 n) v1 v3 v2 0 μ
def f_X9_loadOf (v1 : Int32) (μ : Mem) : Option (Int32 × Mem) :=
  f_X9_loadOf_4 2000 v1 0 0 μ
/-- GateMindsModel.check()I : kind W -/
def f_X9_check_18 : Nat → Int32 → Int32 → Mem → Option (Int32 × Mem)
  | 0, _, _, _ => none
  | n + 1, v1, v2, μ => if v1 ≤ v2 then
    some (0, μ)
  else
    if (f_X9_isPerson v2 μ) = 0 then
      some ((1 + v2), μ)
    else
      ck (inb (129 + v2) 395) <|
      bd2 (f_X9_loadOf v2 μ) fun r4 μ5 =>
      if (μ 1 (ix (129 + v2))) = r4 then
        f_X9_check_18 n v1 (v2 + 1) μ5
      else
        some ((1 + v2), μ5)
def f_X9_check (μ : Mem) : Option (Int32 × Mem) :=
  wr μ 1 (ix 7) 0 fun μ1 =>
  f_X9_check_18 2000 (μ 1 (ix 7)) 0 μ1
/-- GateMindsModel.copyAll([I[I)V : kind V -/
def f_X9_copyAll_2 (a0 : Nat) (a1 : Nat) : Nat → Int32 → Mem → Option Mem
  | 0, _, _ => none
  | n + 1, v2, μ => if 395 ≤ v2 then
    some μ
  else
    ck (inb v2 (ln false a0)) <|
    ck (inb v2 (ln false a1)) <|
    wr μ a1 (ix v2) (μ a0 (ix v2)) fun μ3 =>
    f_X9_copyAll_2 a0 a1 n (v2 + 1) μ3
def f_X9_copyAll (a0 : Nat) (a1 : Nat) (μ : Mem) : Option Mem :=
  f_X9_copyAll_2 a0 a1 2000 0 μ
/-- GateMindsModel.opened()I : kind P -/
def f_X9_opened_30 (k4 : Int32 → Int32 → Option Int32) (μ : Mem) (v2 : Int32) (s0 : Int32) (s1 : Int32) : Option Int32 :=
  k4 (s0 ||| s1) (v2 + 1)
def f_X9_opened_4 (μ : Mem) : Nat → Int32 → Int32 → Option Int32
  | 0, _, _ => none
  | n + 1, v1, v2 => if (μ 1 (ix 3)) ≤ v2 then
    some v1
  else
    bd (f_X9_isOpen v2 μ) fun r2 =>
    if r2 = 0 then
      f_X9_opened_30 (f_X9_opened_4 μ n) μ v2 v1 0
    else
      f_X9_opened_30 (f_X9_opened_4 μ n) μ v2 v1 (jshl 1 v2)
def f_X9_opened (μ : Mem) : Option Int32 :=
  f_X9_opened_4 μ 2000 0 0
/-- GateMindsModel.count(I)I : kind W -/
def f_X9_count (v1 : Int32) (μ : Mem) : Option (Int32 × Mem) :=
  if v1 = 0 then
    some ((μ 1 (ix 2)), μ)
  else if v1 = 1 then
    some ((μ 1 (ix 3)), μ)
  else if v1 = 2 then
    some ((μ 1 (ix 4)), μ)
  else if v1 = 3 then
    some ((μ 1 (ix 0)), μ)
  else if v1 = 4 then
    some ((μ 1 (ix 5)), μ)
  else if v1 = 5 then
    bd (f_X9_opened μ) fun r7 =>
    some (r7, μ)
  else if v1 = 6 then
    some ((μ 1 (ix 6)), μ)
  else if v1 = 7 then
    some ((μ 1 (ix 7)), μ)
  else if v1 = 8 then
    some ((μ 0 21), μ)
  else if v1 = 9 then
    some ((μ 1 (ix 1)), μ)
  else bd2 (f_X9_error (-1000000001) μ) fun r12 μ13 =>
  some (r12, μ13)
/-- GateMindsModel.onward(II)I : kind P -/
def f_X9_onward_61 (k5 : Int32 → Int32 → Int32 → Int32 → Option Int32) (μ : Mem) (v1 : Int32) (v2 : Int32) (v4 : Int32) (s0 : Int32) (s1 : Int32) : Option Int32 :=
  k5 v1 v2 (s0 ||| s1) (v4 + 1)
def f_X9_onward_60 (k5 : Int32 → Int32 → Int32 → Int32 → Option Int32) (μ : Mem) (v1 : Int32) (v2 : Int32) (v4 : Int32) (s0 : Int32) : Option Int32 :=
  f_X9_onward_61 k5 μ v1 v2 v4 s0 0
def f_X9_onward_5 (μ : Mem) : Nat → Int32 → Int32 → Int32 → Int32 → Option Int32
  | 0, _, _, _, _ => none
  | n + 1, v1, v2, v3, v4 => if (μ 1 (ix 3)) ≤ v4 then
    some v3
  else
    bd (f_X9_about v4 0 μ) fun r2 =>
    bd (f_X9_about v4 1 μ) fun r3 =>
    if ((jshr v2 v4) &&& 1) = 1 then
      if (v1 &&& ((jshl 1 r2) ||| (jshl 1 r3))) = 0 then
        f_X9_onward_60 (f_X9_onward_5 μ n) μ v1 v2 v4 v3
      else
        f_X9_onward_61 (f_X9_onward_5 μ n) μ v1 v2 v4 v3 ((jshl 1 r2) ||| (jshl 1 r3))
    else
      f_X9_onward_60 (f_X9_onward_5 μ n) μ v1 v2 v4 v3
def f_X9_onward (v1 : Int32) (v2 : Int32) (μ : Mem) : Option Int32 :=
  f_X9_onward_5 μ 2000 v1 v2 v1 0
/-- GateMindsModel.roamsBy(II)I : kind P -/
def f_X9_roamsBy_7 (μ : Mem) : Nat → Int32 → Int32 → Int32 → Option Int32
  | 0, _, _, _ => none
  | n + 1, v2, v3, v4 => if v3 = v4 then
    some v3
  else
    bd (f_X9_onward v3 v2 μ) fun r2 =>
    f_X9_roamsBy_7 μ n v2 r2 v3
def f_X9_roamsBy (v1 : Int32) (v2 : Int32) (μ : Mem) : Option Int32 :=
  f_X9_roamsBy_7 μ 2000 v2 (jshl 1 v1) 0
/-- GateMindsModel.cut(III)I : kind W -/
def f_X9_cut_17 (μ : Mem) : Option (Int32 × Mem) :=
  bd2 (f_X9_error (-1000000001) μ) fun r1 μ2 =>
  some (r1, μ2)
def f_X9_cut_105 (v3 : Int32) (v4 : Int32) (μ : Mem) : Option (Int32 × Mem) :=
  if v3 = 0 then
    bd (f_X9_bits v4) fun r2 =>
    some (r2, μ)
  else
    some (v4, μ)
def f_X9_cut_95 (k30 : Int32 → Int32 → Int32 → Int32 → Int32 → Mem → Option (Int32 × Mem)) (v1 : Int32) (v2 : Int32) (v3 : Int32) (v4 : Int32) (v5 : Int32) (μ : Mem) : Option (Int32 × Mem) :=
  k30 v1 v2 v3 v4 (v5 + 1) μ
def f_X9_cut_62 (k30 : Int32 → Int32 → Int32 → Int32 → Int32 → Mem → Option (Int32 × Mem)) (v1 : Int32) (v2 : Int32) (v3 : Int32) (v4 : Int32) (v5 : Int32) (s0 : Int32) (μ : Mem) : Option (Int32 × Mem) :=
  if s0 = 0 then
    f_X9_cut_95 k30 v1 v2 v3 v4 v5 μ
  else
    bd (f_X9_roamsBy v1 ((f_X9_all μ) &&& (v5 ^^^ (-1))) μ) fun r2 =>
    if ((jshr r2 v2) &&& 1) = 0 then
      k30 v1 v2 v3 v5 (v5 + 1) μ
    else
      f_X9_cut_95 k30 v1 v2 v3 v4 v5 μ
def f_X9_cut_57 (k30 : Int32 → Int32 → Int32 → Int32 → Int32 → Mem → Option (Int32 × Mem)) (v1 : Int32) (v2 : Int32) (v3 : Int32) (v4 : Int32) (v5 : Int32) (μ : Mem) : Option (Int32 × Mem) :=
  f_X9_cut_62 k30 v1 v2 v3 v4 v5 1 μ
def f_X9_cut_30 : Nat → Int32 → Int32 → Int32 → Int32 → Int32 → Mem → Option (Int32 × Mem)
  | 0, _, _, _, _, _, _ => none
  | n + 1, v1, v2, v3, v4, v5, μ => if (f_X9_all μ) < v5 then
    f_X9_cut_105 v3 v4 μ
  else
    if v4 < 0 then
      f_X9_cut_57 (f_X9_cut_30 n) v1 v2 v3 v4 v5 μ
    else
      bd (f_X9_bits v5) fun r3 =>
      bd (f_X9_bits v4) fun r4 =>
      if r4 ≤ r3 then
        f_X9_cut_62 (f_X9_cut_30 n) v1 v2 v3 v4 v5 0 μ
      else
        f_X9_cut_57 (f_X9_cut_30 n) v1 v2 v3 v4 v5 μ
def f_X9_cut (v1 : Int32) (v2 : Int32) (v3 : Int32) (μ : Mem) : Option (Int32 × Mem) :=
  if (f_X9_areTwo v1 v2) = 0 then
    f_X9_cut_17 μ
  else
    if (f_X9_in v3 0 1) = 0 then
      f_X9_cut_17 μ
    else
      f_X9_cut_30 2000 v1 v2 v3 (-1) 0 μ
/-- GateMindsModel.draw()I : kind W -/
def f_X9_draw (μ : Mem) : Option (Int32 × Mem) :=
  wr μ 1 (ix 1) (((μ 1 (ix 1)) * 1103515245) + 12345) fun μ1 =>
  some ((jushr (μ1 1 (ix 1)) 8), μ1)
/-- GateMindsModel.lets(III)V : kind V -/
def f_X9_lets (v1 : Int32) (v2 : Int32) (v3 : Int32) (μ : Mem) : Option Mem :=
  ck (inb ((27 + (4 * v1)) + v2) 395) <|
  wr μ 1 (ix ((27 + (4 * v1)) + v2)) v3 fun μ1 =>
  some μ1
/-- GateMindsModel.howManyBy(I)I : kind P -/
def f_X9_howManyBy_30 (k4 : Int32 → Int32 → Int32 → Option Int32) (μ : Mem) (v1 : Int32) (v3 : Int32) (s0 : Int32) (s1 : Int32) : Option Int32 :=
  k4 v1 (s0 + s1) (v3 + 1)
def f_X9_howManyBy_4 (μ : Mem) : Nat → Int32 → Int32 → Int32 → Option Int32
  | 0, _, _, _ => none
  | n + 1, v1, v2, v3 => if (μ 1 (ix 3)) ≤ v3 then
    some v2
  else
    bd (f_X9_about v3 3 μ) fun r2 =>
    if r2 = v1 then
      f_X9_howManyBy_30 (f_X9_howManyBy_4 μ n) μ v1 v3 v2 1
    else
      f_X9_howManyBy_30 (f_X9_howManyBy_4 μ n) μ v1 v3 v2 0
def f_X9_howManyBy (v1 : Int32) (μ : Mem) : Option Int32 :=
  f_X9_howManyBy_4 μ 2000 v1 0 0
/-- GateMindsModel.roomOf(I)I : kind P -/
def f_X9_roomOf (v1 : Int32) (μ : Mem) : Option Int32 :=
  bd (f_X9_of v1 1 μ) fun r1 =>
  bd (f_X9_of v1 0 μ) fun r2 =>
  if r2 = 1 then
    some ((10 + r1) / 2)
  else if r2 = 2 then
    some (3 * (10 + r1))
  else if r2 = 3 then
    some ((10 + r1) - (jrem (μ 1 (ix 0)) 6))
  else if r2 = 4 then
    bd (f_X9_howManyBy v1 μ) fun r7 =>
    some (((10 + r1) / 2) + r7)
  else if r2 = 5 then
    some ((3 * (10 + r1)) + 5)
  else if r2 = 6 then
    if 12 ≤ (jrem (μ 1 (ix 0)) 24) then
      some (10 + r1)
    else
      some 0
  else some (10 + r1)
/-- GateMindsModel.letsGo(I)V : kind V -/
def f_X9_letsGo_88 (v2 : Int32) (μ : Mem) : Option Mem :=
  if v2 < 0 then
    some μ
  else
    bd (f_X9_lets v2 3 (-1) μ) fun μ2 =>
    some μ2
def f_X9_letsGo_68 (k21 : Int32 → Int32 → Int32 → Int32 → Mem → Option Mem) (v1 : Int32) (v3 : Int32) (v4 : Int32) (v5 : Int32) (s0 : Int32) (μ : Mem) : Option Mem :=
  if v5 ≤ v3 then
    k21 v1 s0 v3 (v4 + 1) μ
  else
    k21 v1 s0 v5 (v4 + 1) μ
def f_X9_letsGo_54 (k21 : Int32 → Int32 → Int32 → Int32 → Mem → Option Mem) (v1 : Int32) (v2 : Int32) (v3 : Int32) (v4 : Int32) (s0 : Int32) (μ : Mem) : Option Mem :=
  if s0 ≤ v3 then
    f_X9_letsGo_68 k21 v1 v3 v4 s0 v2 μ
  else
    f_X9_letsGo_68 k21 v1 v3 v4 s0 v4 μ
def f_X9_letsGo_21 : Nat → Int32 → Int32 → Int32 → Int32 → Mem → Option Mem
  | 0, _, _, _, _, _ => none
  | n + 1, v1, v2, v3, v4, μ => if (μ 1 (ix 3)) ≤ v4 then
    f_X9_letsGo_88 v2 μ
  else
    bd (f_X9_about v4 3 μ) fun r2 =>
    if r2 = v1 then
      bd2 (f_X9_weighsOn v1 v4 μ) fun r4 μ5 =>
      f_X9_letsGo_54 (f_X9_letsGo_21 n) v1 v2 v3 v4 r4 μ5
    else
      f_X9_letsGo_54 (f_X9_letsGo_21 n) v1 v2 v3 v4 (-1) μ
def f_X9_letsGo (v1 : Int32) (μ : Mem) : Option Mem :=
  bd2 (f_X9_loadOf v1 μ) fun r1 μ2 =>
  bd (f_X9_roomOf v1 μ2) fun r3 =>
  if r3 < r1 then
    f_X9_letsGo_21 2000 v1 (-1) (-1) 0 μ2
  else
    some μ2
/-- GateMindsModel.drawsOf(I)I : kind W -/
def f_X9_drawsOf (v1 : Int32) (μ : Mem) : Option (Int32 × Mem) :=
  ck (inb (8 + v1) 395) <|
  bd2 (f_X9_gives 1 (μ 1 (ix (8 + v1))) v1 (jrem (μ 1 (ix 0)) 24) μ) fun r2 μ3 =>
  some (r2, μ3)
/-- GateMindsModel.strays(I)V : kind V -/
def f_X9_strays_129 (v1 : Int32) (v3 : Int32) (s1 : Int32) (s2 : Int32) (s3 : Int32) (μ : Mem) : Option Mem :=
  ck (inb s1 395) <|
  wr μ 1 (ix s1) (f_X9_held (s2 + s3) 0 9999) fun μ1 =>
  ck (inb (63 + v1) 395) <|
  wr μ1 1 (ix (63 + v1)) v3 fun μ3 =>
  ck (inb (8 + v3) 395) <|
  ck (inb (8 + v3) 395) <|
  wr μ3 1 (ix (8 + v3)) (f_X9_held ((μ3 1 (ix (8 + v3))) - 1) 0 99) fun μ6 =>
  some μ6
def f_X9_strays_108 (v1 : Int32) (v2 : Int32) (v3 : Int32) (μ : Mem) : Option Mem :=
  if v3 = v2 then
    f_X9_strays_129 v1 v3 5 (μ 1 (ix 5)) 0 μ
  else
    f_X9_strays_129 v1 v3 5 (μ 1 (ix 5)) 1 μ
def f_X9_strays_85 (k22 : Int32 → Int32 → Int32 → Int32 → Int32 → Mem → Option Mem) (v1 : Int32) (v2 : Int32) (v4 : Int32) (v5 : Int32) (v7 : Int32) (s0 : Int32) (μ : Mem) : Option Mem :=
  if v7 ≤ v4 then
    k22 v1 v2 s0 v4 (v5 + 1) μ
  else
    k22 v1 v2 s0 v7 (v5 + 1) μ
def f_X9_strays_70 (k22 : Int32 → Int32 → Int32 → Int32 → Int32 → Mem → Option Mem) (v1 : Int32) (v2 : Int32) (v3 : Int32) (v4 : Int32) (v5 : Int32) (v6 : Int32) (s0 : Int32) (μ : Mem) : Option Mem :=
  if s0 ≤ v4 then
    f_X9_strays_85 k22 v1 v2 v4 v5 s0 v3 μ
  else
    f_X9_strays_85 k22 v1 v2 v4 v5 s0 v6 μ
def f_X9_strays_53 (k22 : Int32 → Int32 → Int32 → Int32 → Int32 → Mem → Option Mem) (v1 : Int32) (v2 : Int32) (v3 : Int32) (v4 : Int32) (v5 : Int32) (s0 : Int32) (μ : Mem) : Option Mem :=
  if 0 ≤ s0 then
    bd2 (f_X9_drawsOf s0 μ) fun r2 μ3 =>
    f_X9_strays_70 k22 v1 v2 v3 v4 v5 s0 r2 μ3
  else
    f_X9_strays_70 k22 v1 v2 v3 v4 v5 s0 (-1) μ
def f_X9_strays_22 : Nat → Int32 → Int32 → Int32 → Int32 → Int32 → Mem → Option Mem
  | 0, _, _, _, _, _, _ => none
  | n + 1, v1, v2, v3, v4, v5, μ => if (μ 1 (ix 3)) ≤ v5 then
    f_X9_strays_108 v1 v2 v3 μ
  else
    bd (f_X9_isOpen v5 μ) fun r2 =>
    if r2 = 0 then
      f_X9_strays_53 (f_X9_strays_22 n) v1 v2 v3 v4 v5 (-1) μ
    else
      bd (f_X9_beyond v5 v2 μ) fun r4 =>
      f_X9_strays_53 (f_X9_strays_22 n) v1 v2 v3 v4 v5 r4 μ
def f_X9_strays (v1 : Int32) (μ : Mem) : Option Mem :=
  ck (inb (63 + v1) 395) <|
  bd2 (f_X9_drawsOf (μ 1 (ix (63 + v1))) μ) fun r2 μ3 =>
  f_X9_strays_22 2000 v1 (μ 1 (ix (63 + v1))) (μ 1 (ix (63 + v1))) r2 0 μ3
/-- GateMindsModel.goes()V : kind V -/
def f_X9_goes_46 (μ : Mem) : Option Mem :=
  wr μ 1 (ix 0) ((μ 1 (ix 0)) + 1) fun μ1 =>
  some μ1
def f_X9_goes_25 : Nat → Int32 → Mem → Option Mem
  | 0, _, _ => none
  | n + 1, v1, μ => if (μ 1 (ix 4)) ≤ v1 then
    f_X9_goes_46 μ
  else
    bd (f_X9_strays v1 μ) fun μ2 =>
    f_X9_goes_25 n (v1 + 1) μ2
def f_X9_goes_2 : Nat → Int32 → Mem → Option Mem
  | 0, _, _ => none
  | n + 1, v1, μ => if (μ 1 (ix 2)) ≤ v1 then
    f_X9_goes_25 2000 0 μ
  else
    bd (f_X9_letsGo v1 μ) fun μ2 =>
    f_X9_goes_2 n (v1 + 1) μ2
def f_X9_goes (μ : Mem) : Option Mem :=
  f_X9_goes_2 2000 0 μ
/-- GateMindsModel.drawn()V : kind V -/
def f_X9_drawn_62 (μ : Mem) : Option Mem :=
  bd (f_X9_goes μ) fun μ1 =>
  some μ1
def f_X9_drawn_59 (s1 : Int32) (s2 : Int32) (s3 : Int32) (μ : Mem) : Option Mem :=
  bd (f_X9_lets s1 s2 s3 μ) fun μ1 =>
  f_X9_drawn_62 μ1
def f_X9_drawn (μ : Mem) : Option Mem :=
  if (μ 1 (ix 2)) ≤ 0 then
    f_X9_drawn_62 μ
  else
    if (μ 1 (ix 3)) ≤ 0 then
      f_X9_drawn_62 μ
    else
      bd2 (f_X9_draw μ) fun r3 μ4 =>
      ck (nz (μ4 1 (ix 3))) <|
      bd2 (f_X9_draw μ4) fun r6 μ7 =>
      ck (nz (μ7 1 (ix 2))) <|
      bd2 (f_X9_draw μ7) fun r9 μ10 =>
      if (jrem r9 4) = 0 then
        f_X9_drawn_59 (jrem r3 (μ4 1 (ix 3))) 3 (-1) μ10
      else
        f_X9_drawn_59 (jrem r3 (μ4 1 (ix 3))) 3 (jrem r6 (μ7 1 (ix 2))) μ10
/-- GateMindsModel.feed(JI)I : kind W -/
def f_X9_feed_91 (μ : Mem) : Option (Int32 × Mem) :=
  some ((μ 1 (ix 6)), μ)
def f_X9_feed_41 : Nat → Int64 → Int32 → Int32 → Mem → Option (Int32 × Mem)
  | 0, _, _, _, _ => none
  | n + 1, v1, v3, v4, μ => if v3 ≤ v4 then
    f_X9_feed_91 μ
  else
    ck (inb (69 + (μ 1 (ix 6))) 395) <|
    wr μ 1 (ix (69 + (μ 1 (ix 6)))) ((((jlshr v1 (8 * v4)) &&& 255)).toInt32) fun μ2 =>
    wr μ2 1 (ix 6) ((μ2 1 (ix 6)) + 1) fun μ4 =>
    f_X9_feed_41 n v1 v3 (v4 + 1) μ4
def f_X9_feed (v1 : Int64) (v3 : Int32) (μ : Mem) : Option (Int32 × Mem) :=
  if (f_X9_in v3 1 8) = 0 then
    bd2 (f_X9_error (-1000000001) μ) fun r5 μ6 =>
    some (r5, μ6)
  else
    if ((μ 1 (ix 6)) + v3) ≤ 60 then
      f_X9_feed_41 2000 v1 v3 0 μ
    else
      bd2 (f_X9_error (-1000000004) μ) fun r3 μ4 =>
      some (r3, μ4)
/-- GateMindsModel.findWeights(I)V : kind V -/
def f_X9_findWeights_29 (k9 : Int32 → Int32 → Mem → Option Mem) : Nat → Int32 → Int32 → Int32 → Int32 → Mem → Option Mem
  | 0, _, _, _, _, _ => none
  | n + 1, v1, v2, v3, v4, μ => if (jshl 1 v2) ≤ v4 then
    k9 v1 (v2 + 1) μ
  else
    ck (inb v4 512) <|
    ck (inb (v4 ||| (jshl 1 v2)) 512) <|
    wr μ 14 (ix (v4 ||| (jshl 1 v2))) ((μ 14 (ix v4)) + v3) fun μ3 =>
    f_X9_findWeights_29 k9 n v1 v2 v3 (v4 + 1) μ3
def f_X9_findWeights_9 : Nat → Int32 → Int32 → Mem → Option Mem
  | 0, _, _, _ => none
  | n + 1, v1, v2, μ => if (μ 1 (ix 3)) ≤ v2 then
    some μ
  else
    bd2 (f_X9_weighsOn v1 v2 μ) fun r2 μ3 =>
    f_X9_findWeights_29 (f_X9_findWeights_9 n) 2000 v1 v2 r2 0 μ3
def f_X9_findWeights (v1 : Int32) (μ : Mem) : Option Mem :=
  wr μ 14 (ix 0) 0 fun μ1 =>
  f_X9_findWeights_9 2000 v1 0 μ1
/-- GateMindsModel.tries(I)V : kind V -/
def f_X9_tries_137 : Nat → Int32 → Mem → Option Mem
  | 0, _, _ => none
  | n + 1, v3, μ => if (jshl 1 (μ 1 (ix 3))) ≤ v3 then
    some μ
  else
    ck (inb v3 512) <|
    ck (inb v3 512) <|
    wr μ 12 (ix v3) (μ 13 (ix v3)) fun μ3 =>
    f_X9_tries_137 n (v3 + 1) μ3
def f_X9_tries_117 (k13 : Int32 → Int32 → Mem → Option Mem) (k40 : Int32 → Int32 → Int32 → Mem → Option Mem) (v2 : Int32) (v3 : Int32) (v4 : Int32) (s1 : Int32) (s2 : Int32) (μ : Mem) : Option Mem :=
  ck (inb s1 512) <|
  wr μ 13 (ix s1) s2 fun μ1 =>
  k40 v2 v3 ((v4 - 1) &&& v3) μ1
def f_X9_tries_83 (k13 : Int32 → Int32 → Mem → Option Mem) (k40 : Int32 → Int32 → Int32 → Mem → Option Mem) (v2 : Int32) (v3 : Int32) (v4 : Int32) (s0 : Int32) (μ : Mem) : Option Mem :=
  if s0 = 0 then
    ck (inb v3 512) <|
    f_X9_tries_117 k13 k40 v2 v3 v4 v3 (μ 13 (ix v3)) μ
  else
    ck (inb (v3 &&& (v4 ^^^ (-1))) 512) <|
    f_X9_tries_117 k13 k40 v2 v3 v4 v3 ((μ 12 (ix (v3 &&& (v4 ^^^ (-1))))) + 1) μ
def f_X9_tries_82 (k13 : Int32 → Int32 → Mem → Option Mem) (k40 : Int32 → Int32 → Int32 → Mem → Option Mem) (v2 : Int32) (v3 : Int32) (v4 : Int32) (μ : Mem) : Option Mem :=
  f_X9_tries_83 k13 k40 v2 v3 v4 0 μ
def f_X9_tries_40 (k13 : Int32 → Int32 → Mem → Option Mem) : Nat → Int32 → Int32 → Int32 → Mem → Option Mem
  | 0, _, _, _, _ => none
  | n + 1, v2, v3, v4, μ => if v4 ≤ 0 then
    k13 v2 (v3 + 1) μ
  else
    ck (inb v4 512) <|
    if v2 < (μ 14 (ix v4)) then
      f_X9_tries_82 k13 (f_X9_tries_40 k13 n) v2 v3 v4 μ
    else
      ck (inb (v3 &&& (v4 ^^^ (-1))) 512) <|
      ck (inb v3 512) <|
      if (μ 13 (ix v3)) ≤ ((μ 12 (ix (v3 &&& (v4 ^^^ (-1))))) + 1) then
        f_X9_tries_82 k13 (f_X9_tries_40 k13 n) v2 v3 v4 μ
      else
        f_X9_tries_83 k13 (f_X9_tries_40 k13 n) v2 v3 v4 1 μ
def f_X9_tries_13 : Nat → Int32 → Int32 → Mem → Option Mem
  | 0, _, _, _ => none
  | n + 1, v2, v3, μ => if (jshl 1 (μ 1 (ix 3))) ≤ v3 then
    f_X9_tries_137 2000 0 μ
  else
    ck (inb v3 512) <|
    ck (inb v3 512) <|
    wr μ 13 (ix v3) (μ 12 (ix v3)) fun μ3 =>
    f_X9_tries_40 (f_X9_tries_13 n) 2000 v2 v3 v3 μ3
def f_X9_tries (v1 : Int32) (μ : Mem) : Option Mem :=
  bd (f_X9_roomOf v1 μ) fun r1 =>
  bd (f_X9_findWeights v1 μ) fun μ2 =>
  f_X9_tries_13 2000 r1 0 μ2
/-- GateMindsModel.fewest()I : kind W -/
def f_X9_fewest_54 (μ : Mem) : Option (Int32 × Mem) :=
  ck (inb ((jshl 1 (μ 1 (ix 3))) - 1) 512) <|
  if (μ 12 (ix ((jshl 1 (μ 1 (ix 3))) - 1))) ≤ 6 then
    some ((μ 12 (ix ((jshl 1 (μ 1 (ix 3))) - 1))), μ)
  else
    bd2 (f_X9_error (-1000000002) μ) fun r3 μ4 =>
    some (r3, μ4)
def f_X9_fewest_33 : Nat → Int32 → Mem → Option (Int32 × Mem)
  | 0, _, _ => none
  | n + 1, v1, μ => if (μ 1 (ix 2)) ≤ v1 then
    f_X9_fewest_54 μ
  else
    bd (f_X9_tries v1 μ) fun μ2 =>
    f_X9_fewest_33 n (v1 + 1) μ2
def f_X9_fewest_24 (k2 : Int32 → Mem → Option (Int32 × Mem)) (v1 : Int32) (s1 : Int32) (s2 : Int32) (μ : Mem) : Option (Int32 × Mem) :=
  ck (inb s1 512) <|
  wr μ 12 (ix s1) s2 fun μ1 =>
  k2 (v1 + 1) μ1
def f_X9_fewest_2 : Nat → Int32 → Mem → Option (Int32 × Mem)
  | 0, _, _ => none
  | n + 1, v1, μ => if 512 ≤ v1 then
    f_X9_fewest_33 2000 0 μ
  else
    if v1 = 0 then
      f_X9_fewest_24 (f_X9_fewest_2 n) v1 v1 0 μ
    else
      f_X9_fewest_24 (f_X9_fewest_2 n) v1 v1 7 μ
def f_X9_fewest (μ : Mem) : Option (Int32 × Mem) :=
  f_X9_fewest_2 2000 0 μ
/-- GateMindsModel.isGate(I)Z : kind T -/
def f_X9_isGate (v1 : Int32) (μ : Mem) : Int32 :=
  (f_X9_in v1 0 ((μ 1 (ix 3)) - 1))
/-- GateMindsModel.thinks()V : kind V -/
def f_X9_thinks (μ : Mem) : Option Mem :=
  bd (f_X9_copyAll 1 3 μ) fun μ1 =>
  some μ1
/-- GateMindsModel.putsBack()V : kind V -/
def f_X9_putsBack (μ : Mem) : Option Mem :=
  bd (f_X9_copyAll 3 1 μ) fun μ1 =>
  some μ1
/-- GateMindsModel.first(I)I : kind W -/
def f_X9_first_45 (v2 : Int32) (μ : Mem) : Option (Int32 × Mem) :=
  bd (f_X9_putsBack μ) fun μ1 =>
  if v2 ≤ 60 then
    some (v2, μ1)
  else
    bd2 (f_X9_error (-1000000002) μ1) fun r3 μ4 =>
    some (r3, μ4)
def f_X9_first_21 : Nat → Int32 → Int32 → Mem → Option (Int32 × Mem)
  | 0, _, _, _ => none
  | n + 1, v1, v2, μ => if 60 < v2 then
    f_X9_first_45 v2 μ
  else
    bd (f_X9_isOpen v1 μ) fun r2 =>
    if r2 = 0 then
      bd (f_X9_goes μ) fun μ4 =>
      f_X9_first_21 n v1 (v2 + 1) μ4
    else
      f_X9_first_45 v2 μ
def f_X9_first (v1 : Int32) (μ : Mem) : Option (Int32 × Mem) :=
  if (f_X9_isGate v1 μ) = 0 then
    bd2 (f_X9_error (-1000000001) μ) fun r3 μ4 =>
    some (r3, μ4)
  else
    bd (f_X9_thinks μ) fun μ2 =>
    f_X9_first_21 2000 v1 0 μ2
/-- GateMindsModel.isSheet(I)Z : kind T -/
def f_X9_isSheet (v0 : Int32) : Int32 :=
  (f_X9_in v0 0 3)
/-- GateMindsModel.notThere(I)I : kind P -/
def f_X9_notThere (v1 : Int32) (μ : Mem) : Option Int32 :=
  if (f_X9_isSheet v1) = 0 then
    some (-1000000001)
  else
    ck (inb v1 4) <|
    if (μ 5 (ix v1)) = 0 then
      some (-1000000002)
    else
      some 0
/-- GateMindsModel.isSo(I)Z : kind P -/
def f_X9_isSo_4 (μ : Mem) : Nat → Int32 → Int32 → Int32 → Option Int32
  | 0, _, _, _ => none
  | n + 1, v1, v2, v3 => ck (inb v1 4) <|
  if (μ 6 (ix v1)) ≤ v3 then
    ck (bl v2) <|
    some v2
  else
    if v2 = 0 then
      ck (bl v2) <|
      some v2
    else
      ck (inb ((24 * v1) + v3) 96) <|
      bd (f_X9_about v3 3 μ) fun r7 =>
      if (μ 7 (ix ((24 * v1) + v3))) = r7 then
        f_X9_isSo_4 μ n v1 1 (v3 + 1)
      else
        f_X9_isSo_4 μ n v1 0 (v3 + 1)
def f_X9_isSo (v1 : Int32) (μ : Mem) : Option Int32 :=
  f_X9_isSo_4 μ 2000 v1 1 0
/-- GateMindsModel.fits(I)I : kind W -/
def f_X9_fits_68 (v3 : Int32) (μ : Mem) : Option (Int32 × Mem) :=
  bd (f_X9_putsBack μ) fun μ1 =>
  if v3 ≤ 60 then
    some (v3, μ1)
  else
    bd2 (f_X9_error (-1000000002) μ1) fun r3 μ4 =>
    some (r3, μ4)
def f_X9_fits_44 : Nat → Int32 → Int32 → Mem → Option (Int32 × Mem)
  | 0, _, _, _ => none
  | n + 1, v1, v3, μ => if 60 < v3 then
    f_X9_fits_68 v3 μ
  else
    bd (f_X9_isSo v1 μ) fun r2 =>
    if r2 = 0 then
      bd (f_X9_goes μ) fun μ4 =>
      f_X9_fits_44 n v1 (v3 + 1) μ4
    else
      f_X9_fits_68 v3 μ
def f_X9_fits (v1 : Int32) (μ : Mem) : Option (Int32 × Mem) :=
  bd (f_X9_notThere v1 μ) fun r1 =>
  if r1 = 0 then
    ck (inb v1 4) <|
    if (μ 6 (ix v1)) ≤ (μ 1 (ix 3)) then
      bd (f_X9_thinks μ) fun μ5 =>
      f_X9_fits_44 2000 v1 0 μ5
    else
      bd2 (f_X9_error (-1000000002) μ) fun r6 μ7 =>
      some (r6, μ7)
  else
    bd2 (f_X9_error r1 μ) fun r8 μ9 =>
    some (r8, μ9)
/-- GateMindsModel.gate(III)I : kind W -/
def f_X9_gate_18 (μ : Mem) : Option (Int32 × Mem) :=
  bd2 (f_X9_error (-1000000001) μ) fun r1 μ2 =>
  some (r1, μ2)
def f_X9_gate (v1 : Int32) (v2 : Int32) (v3 : Int32) (μ : Mem) : Option (Int32 × Mem) :=
  if (f_X9_areTwo v1 v2) = 0 then
    f_X9_gate_18 μ
  else
    if (f_X9_in v3 0 9) = 0 then
      f_X9_gate_18 μ
    else
      if (μ 1 (ix 3)) = 9 then
        bd2 (f_X9_error (-1000000004) μ) fun r9 μ10 =>
        some (r9, μ10)
      else
        wr μ 1 (ix 3) ((μ 1 (ix 3)) + 1) fun μ4 =>
        bd (f_X9_lets (μ 1 (ix 3)) 0 v1 μ4) fun μ5 =>
        bd (f_X9_lets (μ 1 (ix 3)) 1 v2 μ5) fun μ6 =>
        bd (f_X9_lets (μ 1 (ix 3)) 2 v3 μ6) fun μ7 =>
        bd (f_X9_lets (μ 1 (ix 3)) 3 (-1) μ7) fun μ8 =>
        some ((μ 1 (ix 3)), μ8)
/-- GateMindsModel.gateIs(II)I : kind W -/
def f_X9_gateIs_26 (μ : Mem) : Option (Int32 × Mem) :=
  bd2 (f_X9_error (-1000000001) μ) fun r1 μ2 =>
  some (r1, μ2)
def f_X9_gateIs (v1 : Int32) (v2 : Int32) (μ : Mem) : Option (Int32 × Mem) :=
  if (f_X9_isGate v1 μ) = 0 then
    f_X9_gateIs_26 μ
  else
    if (f_X9_in v2 0 3) = 0 then
      f_X9_gateIs_26 μ
    else
      bd (f_X9_about v1 v2 μ) fun r3 =>
      some (r3, μ)
/-- GateMindsModel.grass(II)I : kind W -/
def f_X9_grass_29 (μ : Mem) : Option (Int32 × Mem) :=
  bd2 (f_X9_error (-1000000001) μ) fun r1 μ2 =>
  some (r1, μ2)
def f_X9_grass (v1 : Int32) (v2 : Int32) (μ : Mem) : Option (Int32 × Mem) :=
  if (f_X9_isField v1) = 0 then
    f_X9_grass_29 μ
  else
    if (f_X9_in v2 0 99) = 0 then
      f_X9_grass_29 μ
    else
      bd2 (f_X9_becomes (8 + v1) v2 μ) fun r3 μ4 =>
      some (r3, μ4)
/-- GateMindsModel.hold(II)I : kind W -/
def f_X9_hold_26 (v1 : Int32) (v2 : Int32) (s0 : Int32) (μ : Mem) : Option (Int32 × Mem) :=
  if s0 = 0 then
    bd2 (f_X9_error (-1000000001) μ) fun r2 μ3 =>
    some (r2, μ3)
  else
    bd2 (f_X9_becomes ((27 + (4 * v1)) + 3) v2 μ) fun r4 μ5 =>
    some (r4, μ5)
def f_X9_hold_25 (v1 : Int32) (v2 : Int32) (μ : Mem) : Option (Int32 × Mem) :=
  f_X9_hold_26 v1 v2 0 μ
def f_X9_hold_21 (v1 : Int32) (v2 : Int32) (μ : Mem) : Option (Int32 × Mem) :=
  f_X9_hold_26 v1 v2 1 μ
def f_X9_hold (v1 : Int32) (v2 : Int32) (μ : Mem) : Option (Int32 × Mem) :=
  if (f_X9_isGate v1 μ) = 0 then
    f_X9_hold_25 v1 v2 μ
  else
    if v2 = (-1) then
      f_X9_hold_21 v1 v2 μ
    else
      if (f_X9_isPerson v2 μ) = 0 then
        f_X9_hold_25 v1 v2 μ
      else
        f_X9_hold_21 v1 v2 μ
/-- GateMindsModel.holds(I)I : kind W -/
def f_X9_holds_18 : Nat → Int32 → Int32 → Mem → Option (Int32 × Mem)
  | 0, _, _, _ => none
  | n + 1, v1, v3, μ => ck (inb v1 4) <|
  if (μ 6 (ix v1)) ≤ v3 then
    some (v3, μ)
  else
    if (μ 1 (ix 3)) ≤ v3 then
      some (v3, μ)
    else
      ck (inb ((24 * v1) + v3) 96) <|
      if (f_X9_in (μ 7 (ix ((24 * v1) + v3))) (-1) ((μ 1 (ix 2)) - 1)) = 0 then
        some (v3, μ)
      else
        ck (inb ((24 * v1) + v3) 96) <|
        bd (f_X9_lets v3 3 (μ 7 (ix ((24 * v1) + v3))) μ) fun μ7 =>
        f_X9_holds_18 n v1 (v3 + 1) μ7
def f_X9_holds (v1 : Int32) (μ : Mem) : Option (Int32 × Mem) :=
  bd (f_X9_notThere v1 μ) fun r1 =>
  if r1 = 0 then
    f_X9_holds_18 2000 v1 0 μ
  else
    bd2 (f_X9_error r1 μ) fun r3 μ4 =>
    some (r3, μ4)
/-- GateMindsModel.hour(I)I : kind W -/
def f_X9_hour (v1 : Int32) (μ : Mem) : Option (Int32 × Mem) :=
  if (f_X9_in v1 0 9999) = 0 then
    bd2 (f_X9_error (-1000000001) μ) fun r2 μ3 =>
    some (r2, μ3)
  else
    bd2 (f_X9_becomes 0 v1 μ) fun r4 μ5 =>
    some (r4, μ5)
/-- GateMindsModel.hours(I)I : kind W -/
def f_X9_hours_55 (μ : Mem) : Option (Int32 × Mem) :=
  bd (f_X9_opened μ) fun r1 =>
  some (r1, μ)
def f_X9_hours_40 : Nat → Int32 → Int32 → Mem → Option (Int32 × Mem)
  | 0, _, _, _ => none
  | n + 1, v1, v2, μ => if v1 ≤ v2 then
    f_X9_hours_55 μ
  else
    bd (f_X9_goes μ) fun μ2 =>
    f_X9_hours_40 n v1 (v2 + 1) μ2
def f_X9_hours (v1 : Int32) (μ : Mem) : Option (Int32 × Mem) :=
  if (f_X9_in v1 1 60) = 0 then
    bd2 (f_X9_error (-1000000001) μ) fun r5 μ6 =>
    some (r5, μ6)
  else
    if ((μ 1 (ix 0)) + v1) ≤ 9999 then
      f_X9_hours_40 2000 v1 0 μ
    else
      bd2 (f_X9_error (-1000000003) μ) fun r3 μ4 =>
      some (r3, μ4)
/-- GateMindsModel.image()I : kind W -/
def f_X9_image (μ : Mem) : Option (Int32 × Mem) :=
  bd (f_X9_copyAll 1 2 μ) fun μ1 =>
  wr μ1 0 3 ((μ1 0 3) + 1) fun μ2 =>
  some ((μ2 0 3), μ2)
/-- GateMindsModel.judge(I)I : kind W -/
def f_X9_judge_18 : Nat → Int32 → Int32 → Mem → Option (Int32 × Mem)
  | 0, _, _, _ => none
  | n + 1, v1, v3, μ => ck (inb v1 4) <|
  if (μ 6 (ix v1)) ≤ v3 then
    some (v3, μ)
  else
    if 7 ≤ v3 then
      some (v3, μ)
    else
      ck (inb ((24 * v1) + v3) 96) <|
      ck (inb (8 + v3) 395) <|
      if (μ 7 (ix ((24 * v1) + v3))) = (μ 1 (ix (8 + v3))) then
        f_X9_judge_18 n v1 (v3 + 1) μ
      else
        some (v3, μ)
def f_X9_judge (v1 : Int32) (μ : Mem) : Option (Int32 × Mem) :=
  bd (f_X9_notThere v1 μ) fun r1 =>
  if r1 = 0 then
    f_X9_judge_18 2000 v1 0 μ
  else
    bd2 (f_X9_error r1 μ) fun r3 μ4 =>
    some (r3, μ4)
/-- GateMindsModel.law(IIII)I : kind W -/
def f_X9_law (v1 : Int32) (v2 : Int32) (v3 : Int32) (v4 : Int32) (μ : Mem) : Option (Int32 × Mem) :=
  if (f_X9_in v1 0 1) = 0 then
    bd2 (f_X9_error (-1000000001) μ) fun r2 μ3 =>
    some (r2, μ3)
  else
    bd2 (f_X9_gives v1 v2 v3 v4 μ) fun r4 μ5 =>
    some (r4, μ5)
/-- GateMindsModel.loose(I)I : kind W -/
def f_X9_loose_55 (μ : Mem) : Option (Int32 × Mem) :=
  bd (f_X9_opened μ) fun r1 =>
  some (r1, μ)
def f_X9_loose_40 : Nat → Int32 → Int32 → Mem → Option (Int32 × Mem)
  | 0, _, _, _ => none
  | n + 1, v1, v2, μ => if v1 ≤ v2 then
    f_X9_loose_55 μ
  else
    bd (f_X9_drawn μ) fun μ2 =>
    f_X9_loose_40 n v1 (v2 + 1) μ2
def f_X9_loose (v1 : Int32) (μ : Mem) : Option (Int32 × Mem) :=
  if (f_X9_in v1 1 30) = 0 then
    bd2 (f_X9_error (-1000000001) μ) fun r5 μ6 =>
    some (r5, μ6)
  else
    if ((μ 1 (ix 0)) + v1) ≤ 9999 then
      f_X9_loose_40 2000 v1 0 μ
    else
      bd2 (f_X9_error (-1000000003) μ) fun r3 μ4 =>
      some (r3, μ4)
/-- GateMindsModel.plainNods(II)I : kind W -/
def f_X9_plainNods (v1 : Int32) (v2 : Int32) (μ : Mem) : Option (Int32 × Mem) :=
  bd (f_X9_begins 10 μ) fun μ1 =>
  some ((v2 + v1), μ1)
/-- GateMindsModel.loverNods(II)I : kind W -/
def f_X9_loverNods (v1 : Int32) (v2 : Int32) (μ : Mem) : Option (Int32 × Mem) :=
  bd (f_X9_begins 20 μ) fun μ1 =>
  bd2 (f_X9_plainNods v1 v2 μ1) fun r2 μ3 =>
  some ((r2 - 4), μ3)
/-- GateMindsModel.nods(II)I : kind W -/
def f_X9_nods (v1 : Int32) (v2 : Int32) (μ : Mem) : Option (Int32 × Mem) :=
  bd (f_X9_of v1 0 μ) fun r1 =>
  if r1 = 1 then
    bd2 (f_X9_loverNods v1 v2 μ) fun r3 μ4 =>
    some (r3, μ4)
  else if r1 = 4 then
    bd (f_X9_begins 50 μ) fun μ6 =>
    bd2 (f_X9_loverNods v1 v2 μ6) fun r7 μ8 =>
    some ((r7 * 3), μ8)
  else if r1 = 6 then
    bd (f_X9_begins 70 μ) fun μ10 =>
    some (9, μ10)
  else bd2 (f_X9_plainNods v1 v2 μ) fun r11 μ12 =>
  some (r11, μ12)
/-- GateMindsModel.plainMinds(II)I : kind W -/
def f_X9_plainMinds (v1 : Int32) (v2 : Int32) (μ : Mem) : Option (Int32 × Mem) :=
  bd (f_X9_begins 11 μ) fun μ1 =>
  bd2 (f_X9_nods v1 v2 μ1) fun r2 μ3 =>
  some ((r2 * 2), μ3)
/-- GateMindsModel.thinkerMinds(II)I : kind W -/
def f_X9_thinkerMinds (v1 : Int32) (v2 : Int32) (μ : Mem) : Option (Int32 × Mem) :=
  bd (f_X9_begins 30 μ) fun μ1 =>
  bd2 (f_X9_plainMinds v1 v2 μ1) fun r2 μ3 =>
  some ((-r2), μ3)
/-- GateMindsModel.minds(II)I : kind W -/
def f_X9_minds (v1 : Int32) (v2 : Int32) (μ : Mem) : Option (Int32 × Mem) :=
  bd (f_X9_of v1 0 μ) fun r1 =>
  if r1 = 2 then
    bd2 (f_X9_thinkerMinds v1 v2 μ) fun r3 μ4 =>
    some (r3, μ4)
  else if r1 = 5 then
    bd (f_X9_begins 60 μ) fun μ6 =>
    bd2 (f_X9_thinkerMinds v1 (v2 + 1) μ6) fun r7 μ8 =>
    some (r7, μ8)
  else if r1 = 6 then
    bd (f_X9_begins 71 μ) fun μ10 =>
    bd2 (f_X9_plainMinds v1 v2 μ10) fun r11 μ12 =>
    bd (f_X9_of v1 1 μ12) fun r13 =>
    some ((r11 + r13), μ12)
  else bd2 (f_X9_plainMinds v1 v2 μ) fun r14 μ15 =>
  some (r14, μ15)
/-- GateMindsModel.notMoved(IIIII)I : kind P -/
def f_X9_notMoved_102 (μ : Mem) (s0 : Int32) : Option Int32 :=
  if s0 = 0 then
    some (-1000000001)
  else
    some 0
def f_X9_notMoved_101 (μ : Mem) : Option Int32 :=
  f_X9_notMoved_102 μ 0
def f_X9_notMoved (v1 : Int32) (v2 : Int32) (v3 : Int32) (v4 : Int32) (v5 : Int32) (μ : Mem) : Option Int32 :=
  if (f_X9_isSheet v1) = 0 then
    some (-1000000001)
  else
    if (f_X9_isSheet v3) = 0 then
      some (-1000000001)
    else
      ck (inb v1 4) <|
      if (μ 5 (ix v1)) = 0 then
        some (-1000000002)
      else
        ck (inb v3 4) <|
        if (μ 5 (ix v3)) = 0 then
          some (-1000000002)
        else
          ck (inb v1 4) <|
          ck (inb v3 4) <|
          if (μ 5 (ix v1)) = (μ 5 (ix v3)) then
            if v5 < 0 then
              f_X9_notMoved_101 μ
            else
              if v2 < 0 then
                f_X9_notMoved_101 μ
              else
                if v4 < 0 then
                  f_X9_notMoved_101 μ
                else
                  ck (inb v1 4) <|
                  if ((μ 6 (ix v1)) - v2) < v5 then
                    f_X9_notMoved_101 μ
                  else
                    ck (inb v3 4) <|
                    if ((μ 6 (ix v3)) - v4) < v5 then
                      f_X9_notMoved_101 μ
                    else
                      f_X9_notMoved_102 μ 1
          else
            some (-1000000005)
/-- GateMindsModel.move(IIIII)I : kind W -/
def f_X9_move_53 (k28 : Int32 → Int32 → Int32 → Int32 → Int32 → Int32 → Mem → Option (Int32 × Mem)) (v1 : Int32) (v2 : Int32) (v3 : Int32) (v4 : Int32) (v5 : Int32) (v7 : Int32) (s0 : Int32) (μ : Mem) : Option (Int32 × Mem) :=
  ck (inb (((24 * v1) + v2) + s0) 96) <|
  ck (inb (((24 * v3) + v4) + s0) 96) <|
  wr μ 7 (ix (((24 * v3) + v4) + s0)) (μ 7 (ix (((24 * v1) + v2) + s0))) fun μ2 =>
  k28 v1 v2 v3 v4 v5 (v7 + 1) μ2
def f_X9_move_28 : Nat → Int32 → Int32 → Int32 → Int32 → Int32 → Int32 → Mem → Option (Int32 × Mem)
  | 0, _, _, _, _, _, _, _ => none
  | n + 1, v1, v2, v3, v4, v5, v7, μ => if v5 ≤ v7 then
    some (v5, μ)
  else
    if v4 ≤ v2 then
      f_X9_move_53 (f_X9_move_28 n) v1 v2 v3 v4 v5 v7 v7 μ
    else
      f_X9_move_53 (f_X9_move_28 n) v1 v2 v3 v4 v5 v7 ((v5 - 1) - v7) μ
def f_X9_move (v1 : Int32) (v2 : Int32) (v3 : Int32) (v4 : Int32) (v5 : Int32) (μ : Mem) : Option (Int32 × Mem) :=
  bd (f_X9_notMoved v1 v2 v3 v4 v5 μ) fun r1 =>
  if r1 = 0 then
    f_X9_move_28 2000 v1 v2 v3 v4 v5 0 μ
  else
    bd2 (f_X9_error r1 μ) fun r3 μ4 =>
    some (r3, μ4)
/-- GateMindsModel.odds(II)I : kind W -/
def f_X9_odds_16 (μ : Mem) : Option (Int32 × Mem) :=
  bd2 (f_X9_error (-1000000001) μ) fun r1 μ2 =>
  some (r1, μ2)
def f_X9_odds_146 (v2 : Int32) (v3 : Int32) (v5 : Int32) (μ : Mem) : Option (Int32 × Mem) :=
  if v2 = 0 then
    some (v5, μ)
  else
    some (v3, μ)
def f_X9_odds_107 : Nat → Int32 → Int32 → Int32 → Int32 → Mem → Option (Int32 × Mem)
  | 0, _, _, _, _, _ => none
  | n + 1, v2, v3, v5, v6, μ => if v6 ≤ 1 then
    f_X9_odds_146 v2 v3 v5 μ
  else
    ck (nz v6) <|
    if (jrem v5 v6) = 0 then
      ck (nz v6) <|
      if (jrem v3 v6) = 0 then
        ck (nz v6) <|
        ck (nz v6) <|
        f_X9_odds_107 n v2 (v3 / v6) (v5 / v6) (v6 + (-1)) μ
      else
        f_X9_odds_107 n v2 v3 v5 (v6 + (-1)) μ
    else
      f_X9_odds_107 n v2 v3 v5 (v6 + (-1)) μ
def f_X9_odds_95 (k58 : Int32 → Int32 → Int32 → Int32 → Int32 → Int32 → Mem → Option (Int32 × Mem)) (v1 : Int32) (v2 : Int32) (v3 : Int32) (v4 : Int32) (v6 : Int32) (s0 : Int32) (s1 : Int32) (μ : Mem) : Option (Int32 × Mem) :=
  k58 v1 v2 v3 v4 (s0 + s1) (v6 + 1) μ
def f_X9_odds_58 : Nat → Int32 → Int32 → Int32 → Int32 → Int32 → Int32 → Mem → Option (Int32 × Mem)
  | 0, _, _, _, _, _, _, _ => none
  | n + 1, v1, v2, v3, v4, v5, v6, μ => if (μ 1 (ix 3)) ≤ v6 then
    f_X9_odds_107 2000 v2 v3 v5 v3 μ
  else
    bd (f_X9_opened μ) fun r2 =>
    bd (f_X9_roamsBy v1 (r2 ||| (jshl 1 v6)) μ) fun r3 =>
    if r3 = v4 then
      f_X9_odds_95 (f_X9_odds_58 n) v1 v2 v3 v4 v6 v5 0 μ
    else
      f_X9_odds_95 (f_X9_odds_58 n) v1 v2 v3 v4 v6 v5 1 μ
def f_X9_odds (v1 : Int32) (v2 : Int32) (μ : Mem) : Option (Int32 × Mem) :=
  if (f_X9_isField v1) = 0 then
    f_X9_odds_16 μ
  else
    if (f_X9_in v2 0 1) = 0 then
      f_X9_odds_16 μ
    else
      if (μ 1 (ix 3)) = 0 then
        bd2 (f_X9_error (-1000000003) μ) fun r6 μ7 =>
        some (r6, μ7)
      else
        bd (f_X9_opened μ) fun r4 =>
        bd (f_X9_roamsBy v1 r4 μ) fun r5 =>
        f_X9_odds_58 2000 v1 v2 (μ 1 (ix 3)) r5 0 0 μ
/-- GateMindsModel.plainParts(II)I : kind W -/
def f_X9_plainParts_25 (v2 : Int32) (v3 : Int32) (s1 : Int32) (μ : Mem) : Option (Int32 × Mem) :=
  ck (bl s1) <|
  wr μ 0 22 s1 fun μ1 =>
  if (μ1 0 22) = 0 then
    ck (nz v3) <|
    some ((v2 / v3), μ1)
  else
    some (0, μ1)
def f_X9_plainParts (v1 : Int32) (v2 : Int32) (μ : Mem) : Option (Int32 × Mem) :=
  bd (f_X9_begins 13 μ) fun μ1 =>
  bd (f_X9_of v1 1 μ1) fun r2 =>
  if (r2 - v1) = 0 then
    f_X9_plainParts_25 v2 (r2 - v1) 1 μ1
  else
    f_X9_plainParts_25 v2 (r2 - v1) 0 μ1
/-- GateMindsModel.partsBy(II)I : kind W -/
def f_X9_partsBy_20 (v1 : Int32) (v2 : Int32) (μ : Mem) : Option (Int32 × Mem) :=
  bd (f_X9_begins 21 μ) fun μ1 =>
  bd2 (f_X9_plainParts v1 v2 μ1) fun r2 μ3 =>
  if (μ3 0 22) = 0 then
    bd2 (f_X9_minds v1 1 μ3) fun r5 μ6 =>
    some ((r2 + r5), μ6)
  else
    some (0, μ3)
def f_X9_partsBy (v1 : Int32) (v2 : Int32) (μ : Mem) : Option (Int32 × Mem) :=
  bd (f_X9_of v1 0 μ) fun r1 =>
  if r1 = 1 then
    f_X9_partsBy_20 v1 v2 μ
  else
    bd (f_X9_of v1 0 μ) fun r3 =>
    if r3 = 4 then
      f_X9_partsBy_20 v1 v2 μ
    else
      bd2 (f_X9_plainParts v1 v2 μ) fun r5 μ6 =>
      some (r5, μ6)
/-- GateMindsModel.pass(II)I : kind W -/
def f_X9_pass_21 (μ : Mem) : Option (Int32 × Mem) :=
  bd2 (f_X9_error (-1000000001) μ) fun r1 μ2 =>
  some (r1, μ2)
def f_X9_pass_33 : Nat → Int32 → Int32 → Int32 → Int32 → Mem → Option (Int32 × Mem)
  | 0, _, _, _, _, _ => none
  | n + 1, v1, v2, v3, v4, μ => if (μ 1 (ix 3)) ≤ v4 then
    some (v3, μ)
  else
    bd (f_X9_about v4 3 μ) fun r2 =>
    if r2 = v1 then
      bd (f_X9_lets v4 3 v2 μ) fun μ4 =>
      f_X9_pass_33 n v1 v2 (v3 + 1) (v4 + 1) μ4
    else
      f_X9_pass_33 n v1 v2 v3 (v4 + 1) μ
def f_X9_pass (v1 : Int32) (v2 : Int32) (μ : Mem) : Option (Int32 × Mem) :=
  if (f_X9_isPerson v1 μ) = 0 then
    f_X9_pass_21 μ
  else
    if (f_X9_isPerson v2 μ) = 0 then
      f_X9_pass_21 μ
    else
      if v1 = v2 then
        f_X9_pass_21 μ
      else
        f_X9_pass_33 2000 v1 v2 0 0 μ
/-- GateMindsModel.person(I)I : kind W -/
def f_X9_person (v1 : Int32) (μ : Mem) : Option (Int32 × Mem) :=
  if (f_X9_isKm v1) = 0 then
    bd2 (f_X9_error (-1000000001) μ) fun r10 μ11 =>
    some (r10, μ11)
  else
    if (μ 1 (ix 2)) = 6 then
      bd2 (f_X9_error (-1000000004) μ) fun r8 μ9 =>
      some (r8, μ9)
    else
      wr μ 1 (ix 2) ((μ 1 (ix 2)) + 1) fun μ3 =>
      ck (inb (15 + (2 * (μ 1 (ix 2)))) 395) <|
      wr μ3 1 (ix (15 + (2 * (μ 1 (ix 2))))) (v1 / 10) fun μ4 =>
      ck (inb ((15 + (2 * (μ 1 (ix 2)))) + 1) 395) <|
      wr μ4 1 (ix ((15 + (2 * (μ 1 (ix 2)))) + 1)) (jrem v1 10) fun μ6 =>
      some ((μ 1 (ix 2)), μ6)
/-- GateMindsModel.personIs(II)I : kind W -/
def f_X9_personIs (v1 : Int32) (v2 : Int32) (μ : Mem) : Option (Int32 × Mem) :=
  if (f_X9_isPerson v1 μ) = 0 then
    bd2 (f_X9_error (-1000000001) μ) fun r13 μ14 =>
    some (r13, μ14)
  else
    if v2 = 0 ∨ v2 = 1 then
      bd (f_X9_of v1 v2 μ) fun r3 =>
      some (r3, μ)
    else if v2 = 2 then
      bd (f_X9_howManyBy v1 μ) fun r5 =>
      some (r5, μ)
    else if v2 = 3 then
      bd2 (f_X9_loadOf v1 μ) fun r7 μ8 =>
      some (r7, μ8)
    else if v2 = 4 then
      bd (f_X9_roomOf v1 μ) fun r10 =>
      some (r10, μ)
    else bd2 (f_X9_error (-1000000001) μ) fun r11 μ12 =>
    some (r11, μ12)
/-- GateMindsModel.plainWhistles(II)I : kind W -/
def f_X9_plainWhistles (v1 : Int32) (v2 : Int32) (μ : Mem) : Option (Int32 × Mem) :=
  bd (f_X9_begins 12 μ) fun μ1 =>
  bd2 (f_X9_minds v1 v2 μ1) fun r2 μ3 =>
  bd (f_X9_of v1 1 μ3) fun r4 =>
  some ((r2 - r4), μ3)
/-- GateMindsModel.put(III)I : kind W -/
def f_X9_put_92 (s1 : Int32) (s2 : Int32) (μ : Mem) : Option (Int32 × Mem) :=
  ck (inb s1 96) <|
  wr μ 7 (ix s1) s2 fun μ1 =>
  some (1, μ1)
def f_X9_put_35 (v1 : Int32) (v2 : Int32) (v3 : Int32) (s0 : Int32) (μ : Mem) : Option (Int32 × Mem) :=
  if s0 = 0 then
    ck (inb v1 4) <|
    if (μ 5 (ix v1)) = 8 then
      f_X9_put_92 ((24 * v1) + v2) (jbyte v3) μ
    else
      ck (inb v1 4) <|
      if (μ 5 (ix v1)) = 16 then
        f_X9_put_92 ((24 * v1) + v2) (jshort v3) μ
      else
        f_X9_put_92 ((24 * v1) + v2) v3 μ
  else
    bd2 (f_X9_error s0 μ) fun r6 μ7 =>
    some (r6, μ7)
def f_X9_put_33 (v1 : Int32) (v2 : Int32) (v3 : Int32) (v4 : Int32) (μ : Mem) : Option (Int32 × Mem) :=
  f_X9_put_35 v1 v2 v3 v4 μ
def f_X9_put (v1 : Int32) (v2 : Int32) (v3 : Int32) (μ : Mem) : Option (Int32 × Mem) :=
  bd (f_X9_notThere v1 μ) fun r1 =>
  if r1 = 0 then
    ck (inb v1 4) <|
    if (f_X9_in v2 0 ((μ 6 (ix v1)) - 1)) = 0 then
      f_X9_put_35 v1 v2 v3 (-1000000001) μ
    else
      f_X9_put_33 v1 v2 v3 r1 μ
  else
    f_X9_put_33 v1 v2 v3 r1 μ
/-- GateMindsModel.restore()I : kind W -/
def f_X9_restore (μ : Mem) : Option (Int32 × Mem) :=
  if (μ 0 3) = 0 then
    bd2 (f_X9_error (-1000000002) μ) fun r3 μ4 =>
    some (r3, μ4)
  else
    bd (f_X9_copyAll 2 1 μ) fun μ2 =>
    some ((μ2 1 (ix 0)), μ2)
/-- GateMindsModel.roams(I)I : kind W -/
def f_X9_roams (v1 : Int32) (μ : Mem) : Option (Int32 × Mem) :=
  if (f_X9_isField v1) = 0 then
    bd2 (f_X9_error (-1000000001) μ) fun r2 μ3 =>
    some (r2, μ3)
  else
    bd (f_X9_opened μ) fun r4 =>
    bd (f_X9_roamsBy v1 r4 μ) fun r5 =>
    some (r5, μ)
/-- GateMindsModel.seed(I)I : kind W -/
def f_X9_seed (v1 : Int32) (μ : Mem) : Option (Int32 × Mem) :=
  bd2 (f_X9_becomes 1 v1 μ) fun r1 μ2 =>
  some (r1, μ2)
/-- GateMindsModel.sheet(III)I : kind W -/
def f_X9_sheet_29 (μ : Mem) : Option (Int32 × Mem) :=
  bd2 (f_X9_error (-1000000001) μ) fun r1 μ2 =>
  some (r1, μ2)
def f_X9_sheet_93 : Nat → Int32 → Int32 → Mem → Option (Int32 × Mem)
  | 0, _, _, _ => none
  | n + 1, v1, v4, μ => if 24 ≤ v4 then
    some (1, μ)
  else
    ck (inb ((24 * v1) + v4) 96) <|
    wr μ 7 (ix ((24 * v1) + v4)) 0 fun μ2 =>
    f_X9_sheet_93 n v1 (v4 + 1) μ2
def f_X9_sheet_89 (v1 : Int32) (s1 : Int32) (s2 : Int32) (μ : Mem) : Option (Int32 × Mem) :=
  ck (inb s1 4) <|
  wr μ 6 (ix s1) s2 fun μ1 =>
  f_X9_sheet_93 2000 v1 0 μ1
def f_X9_sheet_68 (v1 : Int32) (v2 : Int32) (v3 : Int32) (μ : Mem) : Option (Int32 × Mem) :=
  ck (inb v1 4) <|
  wr μ 5 (ix v1) v2 fun μ1 =>
  if v2 = 0 then
    f_X9_sheet_89 v1 v1 0 μ1
  else
    f_X9_sheet_89 v1 v1 v3 μ1
def f_X9_sheet_51 (v1 : Int32) (v2 : Int32) (v3 : Int32) (μ : Mem) : Option (Int32 × Mem) :=
  if v2 ≤ 0 then
    f_X9_sheet_68 v1 v2 v3 μ
  else
    if v3 ≤ 24 then
      f_X9_sheet_68 v1 v2 v3 μ
    else
      bd2 (f_X9_error (-1000000001) μ) fun r3 μ4 =>
      some (r3, μ4)
def f_X9_sheet_36 (v1 : Int32) (v2 : Int32) (v3 : Int32) (μ : Mem) : Option (Int32 × Mem) :=
  if v2 ≤ 0 then
    f_X9_sheet_51 v1 v2 v3 μ
  else
    if 0 ≤ v3 then
      f_X9_sheet_51 v1 v2 v3 μ
    else
      bd2 (f_X9_error (-1000000003) μ) fun r3 μ4 =>
      some (r3, μ4)
def f_X9_sheet (v1 : Int32) (v2 : Int32) (v3 : Int32) (μ : Mem) : Option (Int32 × Mem) :=
  if (f_X9_isSheet v1) = 0 then
    f_X9_sheet_29 μ
  else
    if v2 = 0 then
      f_X9_sheet_36 v1 v2 v3 μ
    else
      if v2 = 8 then
        f_X9_sheet_36 v1 v2 v3 μ
      else
        if v2 = 16 then
          f_X9_sheet_36 v1 v2 v3 μ
        else
          if v2 = 32 then
            f_X9_sheet_36 v1 v2 v3 μ
          else
            f_X9_sheet_29 μ
/-- GateMindsModel.stock(I)I : kind W -/
def f_X9_stock (v1 : Int32) (μ : Mem) : Option (Int32 × Mem) :=
  if (f_X9_isField v1) = 0 then
    bd2 (f_X9_error (-1000000001) μ) fun r8 μ9 =>
    some (r8, μ9)
  else
    if (μ 1 (ix 4)) = 6 then
      bd2 (f_X9_error (-1000000004) μ) fun r6 μ7 =>
      some (r6, μ7)
    else
      wr μ 1 (ix 4) ((μ 1 (ix 4)) + 1) fun μ3 =>
      ck (inb (63 + (μ 1 (ix 4))) 395) <|
      wr μ3 1 (ix (63 + (μ 1 (ix 4)))) v1 fun μ4 =>
      some ((μ 1 (ix 4)), μ4)
/-- GateMindsModel.stockAt(I)I : kind W -/
def f_X9_stockAt (v1 : Int32) (μ : Mem) : Option (Int32 × Mem) :=
  if (f_X9_in v1 0 ((μ 1 (ix 4)) - 1)) = 0 then
    bd2 (f_X9_error (-1000000001) μ) fun r2 μ3 =>
    some (r2, μ3)
  else
    ck (inb (63 + v1) 395) <|
    some ((μ 1 (ix (63 + v1))), μ)
/-- GateMindsModel.tell(I)I : kind W -/
def f_X9_tell (v1 : Int32) (μ : Mem) : Option (Int32 × Mem) :=
  if (μ 1 (ix 7)) = 24 then
    bd2 (f_X9_error (-1000000004) μ) fun r5 μ6 =>
    some (r5, μ6)
  else
    ck (inb (129 + (μ 1 (ix 7))) 395) <|
    wr μ 1 (ix (129 + (μ 1 (ix 7)))) v1 fun μ2 =>
    wr μ2 1 (ix 7) ((μ2 1 (ix 7)) + 1) fun μ4 =>
    some ((μ4 1 (ix 7)), μ4)
/-- GateMindsModel.text(I)I : kind W -/
def f_X9_text_119 : Nat → Int32 → Int32 → Mem → Option (Int32 × Mem)
  | 0, _, _, _ => none
  | n + 1, v2, v3, μ => if (μ 0 12) ≤ v3 then
    some (1, μ)
  else
    ck (inb v3 60) <|
    ck (inb ((v2 + 1) + v3) 395) <|
    wr μ 1 (ix ((v2 + 1) + v3)) (μ 8 (ix v3)) fun μ3 =>
    ck (inb v3 60) <|
    ck (inb ((v2 + 61) + v3) 395) <|
    wr μ3 1 (ix ((v2 + 61) + v3)) (μ3 9 (ix v3)) fun μ6 =>
    f_X9_text_119 n v2 (v3 + 1) μ6
def f_X9_text_72 (v1 : Int32) (s1 : Int32) (μ : Mem) : Option (Int32 × Mem) :=
  ck (bl s1) <|
  wr μ 0 15 s1 fun μ1 =>
  wr μ1 1 (ix 6) 0 fun μ3 =>
  if (μ3 0 15) = 0 then
    ck (inb (153 + (121 * v1)) 395) <|
    wr μ3 1 (ix (153 + (121 * v1))) (μ3 0 12) fun μ5 =>
    f_X9_text_119 2000 (153 + (121 * v1)) 0 μ5
  else
    some (((-10) - (μ3 0 13)), μ3)
def f_X9_text_67 (v1 : Int32) (μ : Mem) : Option (Int32 × Mem) :=
  f_X9_text_72 v1 1 μ
def f_X9_text (v1 : Int32) (μ : Mem) : Option (Int32 × Mem) :=
  if (f_X9_in v1 0 1) = 0 then
    bd2 (f_X9_error (-1000000001) μ) fun r10 μ11 =>
    some (r10, μ11)
  else
    wr μ 0 16 v1 fun μ2 =>
    wr μ2 0 12 0 fun μ3 =>
    wr μ3 0 13 0 fun μ4 =>
    wr μ4 0 14 0 fun μ5 =>
    wr μ5 0 15 0 fun μ6 =>
    bd (f_X9_any (f_X9_one 20) μ6) fun μ7 =>
    if (μ7 0 15) = 0 then
      if (μ7 1 (ix 6)) ≤ (μ7 0 13) then
        f_X9_text_72 v1 0 μ7
      else
        f_X9_text_67 v1 μ7
    else
      f_X9_text_67 v1 μ7
/-- GateMindsModel.then(II)I : kind W -/
def f_X9_then_19 (μ : Mem) : Option (Int32 × Mem) :=
  bd2 (f_X9_error (-1000000001) μ) fun r1 μ2 =>
  some (r1, μ2)
def f_X9_then_64 (s0 : Int32) (μ : Mem) : Option (Int32 × Mem) :=
  bd (f_X9_putsBack μ) fun μ1 =>
  some (s0, μ1)
def f_X9_then_47 (v2 : Int32) (μ : Mem) : Option (Int32 × Mem) :=
  if v2 = 0 then
    bd (f_X9_opened μ) fun r2 =>
    f_X9_then_64 r2 μ
  else
    f_X9_then_64 (μ 1 (ix 5)) μ
def f_X9_then_32 : Nat → Int32 → Int32 → Int32 → Mem → Option (Int32 × Mem)
  | 0, _, _, _, _ => none
  | n + 1, v1, v2, v3, μ => if v1 ≤ v3 then
    f_X9_then_47 v2 μ
  else
    bd (f_X9_goes μ) fun μ2 =>
    f_X9_then_32 n v1 v2 (v3 + 1) μ2
def f_X9_then (v1 : Int32) (v2 : Int32) (μ : Mem) : Option (Int32 × Mem) :=
  if (f_X9_in v1 0 60) = 0 then
    f_X9_then_19 μ
  else
    if (f_X9_in v2 0 1) = 0 then
      f_X9_then_19 μ
    else
      bd (f_X9_thinks μ) fun μ3 =>
      f_X9_then_32 2000 v1 v2 0 μ3
/-- GateMindsModel.told(I)I : kind W -/
def f_X9_told (v1 : Int32) (μ : Mem) : Option (Int32 × Mem) :=
  if (f_X9_in v1 1 6) = 0 then
    bd2 (f_X9_error (-1000000001) μ) fun r2 μ3 =>
    some (r2, μ3)
  else
    ck (inb v1 7) <|
    some ((μ 4 (ix v1)), μ)
/-- GateMindsModel.untell(I)I : kind W -/
def f_X9_untell (v1 : Int32) (μ : Mem) : Option (Int32 × Mem) :=
  if (f_X9_in v1 0 1) = 0 then
    bd2 (f_X9_error (-1000000001) μ) fun r5 μ6 =>
    some (r5, μ6)
  else
    bd2 (f_X9_becomes (153 + (121 * v1)) 0 μ) fun r2 μ3 =>
    if r2 ≤ 0 then
      some (0, μ3)
    else
      some (1, μ3)
/-- GateMindsModel.whistles(II)I : kind W -/
def f_X9_whistles (v1 : Int32) (v2 : Int32) (μ : Mem) : Option (Int32 × Mem) :=
  bd (f_X9_of v1 0 μ) fun r1 =>
  if r1 = 3 then
    bd (f_X9_begins 40 μ) fun μ3 =>
    bd2 (f_X9_plainWhistles v1 (v2 / 2) μ3) fun r4 μ5 =>
    some (r4, μ5)
  else if r1 = 4 then
    bd (f_X9_begins 51 μ) fun μ7 =>
    bd2 (f_X9_plainWhistles v1 v2 μ7) fun r8 μ9 =>
    some ((r8 ^^^ v1), μ9)
  else bd2 (f_X9_plainWhistles v1 v2 μ) fun r10 μ11 =>
  some (r10, μ11)
/-- GateMindsModel.voice(III)I : kind W -/
def f_X9_voice_17 (μ : Mem) : Option (Int32 × Mem) :=
  bd2 (f_X9_error (-1000000001) μ) fun r1 μ2 =>
  some (r1, μ2)
def f_X9_voice_81 (s0 : Int32) (μ : Mem) : Option (Int32 × Mem) :=
  if (μ 0 22) = 0 then
    some (s0, μ)
  else
    bd2 (f_X9_error (-1000000006) μ) fun r2 μ3 =>
    some (r2, μ3)
def f_X9_voice (v1 : Int32) (v2 : Int32) (v3 : Int32) (μ : Mem) : Option (Int32 × Mem) :=
  if (f_X9_isPerson v1 μ) = 0 then
    f_X9_voice_17 μ
  else
    if (f_X9_in v2 0 3) = 0 then
      f_X9_voice_17 μ
    else
      wr μ 0 21 0 fun μ3 =>
      wr μ3 0 22 0 fun μ4 =>
      if v2 = 0 then
        bd2 (f_X9_nods v1 v3 μ4) fun r14 μ15 =>
        f_X9_voice_81 r14 μ15
      else
        if v2 = 1 then
          bd2 (f_X9_minds v1 v3 μ4) fun r12 μ13 =>
          f_X9_voice_81 r12 μ13
        else
          if v2 = 2 then
            bd2 (f_X9_whistles v1 v3 μ4) fun r10 μ11 =>
            f_X9_voice_81 r10 μ11
          else
            bd2 (f_X9_partsBy v1 v3 μ4) fun r8 μ9 =>
            f_X9_voice_81 r8 μ9
/-- GateMindsModel.way(II)I : kind W -/
def f_X9_way_14 (μ : Mem) : Option (Int32 × Mem) :=
  bd2 (f_X9_error (-1000000001) μ) fun r1 μ2 =>
  some (r1, μ2)
def f_X9_way_63 (μ : Mem) : Option (Int32 × Mem) :=
  bd2 (f_X9_error (-1000000002) μ) fun r1 μ2 =>
  some (r1, μ2)
def f_X9_way_28 : Nat → Int32 → Int32 → Int32 → Mem → Option (Int32 × Mem)
  | 0, _, _, _, _ => none
  | n + 1, v2, v3, v4, μ => if 7 ≤ v4 then
    f_X9_way_63 μ
  else
    if ((jshr v3 v2) &&& 1) = 1 then
      some (v4, μ)
    else
      bd (f_X9_onward v3 (f_X9_all μ) μ) fun r3 =>
      f_X9_way_28 n v2 r3 (v4 + 1) μ
def f_X9_way (v1 : Int32) (v2 : Int32) (μ : Mem) : Option (Int32 × Mem) :=
  if (f_X9_isField v1) = 0 then
    f_X9_way_14 μ
  else
    if (f_X9_isField v2) = 0 then
      f_X9_way_14 μ
    else
      f_X9_way_28 2000 v2 (jshl 1 v1) 0 μ
