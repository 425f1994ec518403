def oT (F : Nat → Int32) (r0 r1 r2 r3 r4 : Nat) : List Value := [.ref r0, .ref r1, .ref r2, .ref r3, .ref r4, .int (F 5), .int (F 6), .int (F 7), .int (F 8), .int (F 9), .int (F 10)]
def oD (F : Nat → Int32) (r0 r7 : Nat) : List Value := [.ref r0, .int (F 1), .int (F 2), .int (F 3), .int (F 4), .int (F 5), .int (F 6), .ref r7, .int (F 8), .int (F 9), .int (F 10), .int (F 11), .int (F 12), .int (F 13), .int (F 14), .int (F 15), .int (F 16), .int (F 17), .int (F 18)]
def oE (F : Nat → Int32) (r0 r7 r8 : Nat) : List Value := [.ref r0, .int (F 1), .int (F 2), .int (F 3), .int (F 4), .int (F 5), .int (F 6), .ref r7, .ref r8, .int (F 9)]
def oM (ga : Nat → Nat) (uM : Nat → Int32) (n1 n6 n26 n27 n29 n33 n34 n35 : Nat) : List Value := [.int (uM 0), .int (nI n1), .ref (ga 2), .int (uM 3), .int (uM 4), .int (uM 5), .int (nI n6), .int (uM 7), .ref (ga 8), .ref (ga 9), .ref (ga 10), .ref (ga 11), .ref (ga 12), .ref (ga 13), .ref (ga 14), .ref (ga 15), .ref (ga 16), .ref (ga 17), .ref (ga 18), .ref (ga 19), .ref (ga 20), .ref (ga 21), .ref (ga 22), .ref (ga 23), .int (uM 24), .int (uM 25), .int (nI n26), .int (nI n27), .ref (ga 28), .int (nI n29), .ref (ga 30), .ref (ga 31), .ref (ga 32), .int (nI n33), .int (nI n34), .int (nI n35), .ref (ga 36)]

def bnd {α β : Type} (e : α) (k : α → β) : β := k e
theorem bnd_eq {α β : Type} {e : α} {k : α → β} : bnd e k = k e := rfl
