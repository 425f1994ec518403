def s_I_bitCount (x : Int32) : Int32 :=
  (((((((x - ((ush x 1) &&& (1431655765 : Int32))) &&& (858993459 : Int32)) + ((ush (x - ((ush x 1) &&& (1431655765 : Int32))) 2) &&& (858993459 : Int32))) + (ush (((x - ((ush x 1) &&& (1431655765 : Int32))) &&& (858993459 : Int32)) + ((ush (x - ((ush x 1) &&& (1431655765 : Int32))) 2) &&& (858993459 : Int32))) 4)) &&& (252645135 : Int32)) + (ush (((((x - ((ush x 1) &&& (1431655765 : Int32))) &&& (858993459 : Int32)) + ((ush (x - ((ush x 1) &&& (1431655765 : Int32))) 2) &&& (858993459 : Int32))) + (ush (((x - ((ush x 1) &&& (1431655765 : Int32))) &&& (858993459 : Int32)) + ((ush (x - ((ush x 1) &&& (1431655765 : Int32))) 2) &&& (858993459 : Int32))) 4)) &&& (252645135 : Int32)) 8)) + (ush ((((((x - ((ush x 1) &&& (1431655765 : Int32))) &&& (858993459 : Int32)) + ((ush (x - ((ush x 1) &&& (1431655765 : Int32))) 2) &&& (858993459 : Int32))) + (ush (((x - ((ush x 1) &&& (1431655765 : Int32))) &&& (858993459 : Int32)) + ((ush (x - ((ush x 1) &&& (1431655765 : Int32))) 2) &&& (858993459 : Int32))) 4)) &&& (252645135 : Int32)) + (ush (((((x - ((ush x 1) &&& (1431655765 : Int32))) &&& (858993459 : Int32)) + ((ush (x - ((ush x 1) &&& (1431655765 : Int32))) 2) &&& (858993459 : Int32))) + (ush (((x - ((ush x 1) &&& (1431655765 : Int32))) &&& (858993459 : Int32)) + ((ush (x - ((ush x 1) &&& (1431655765 : Int32))) 2) &&& (858993459 : Int32))) 4)) &&& (252645135 : Int32)) 8)) 16)) &&& (63 : Int32)

def s_K_exclusiveOr_cut5  (v1 : Int32) : Int32 :=
  v1
def s_K_exclusiveOr_cut4 (x : Int32) (v1 : Int32) : Int32 :=
  bnd (s_I_bitCount (x &&& (4128768 : Int32))) (fun r3 =>
    s_K_exclusiveOr_cut5 (v1 ||| ((r3 &&& (1 : Int32)) <<< ((4 : Int32) &&& 31)))
  )
def s_K_exclusiveOr_cut3 (x : Int32) (v1 : Int32) : Int32 :=
  bnd (s_I_bitCount (x &&& (65280 : Int32))) (fun r6 =>
    s_K_exclusiveOr_cut4 x (v1 ||| ((r6 &&& (1 : Int32)) <<< ((3 : Int32) &&& 31)))
  )
def s_K_exclusiveOr_cut2 (x : Int32) (v1 : Int32) : Int32 :=
  bnd (s_I_bitCount (x &&& (3207408 : Int32))) (fun r9 =>
    s_K_exclusiveOr_cut3 x (v1 ||| ((r9 &&& (1 : Int32)) <<< ((2 : Int32) &&& 31)))
  )
def s_K_exclusiveOr_cut1 (x : Int32) (v1 : Int32) : Int32 :=
  bnd (s_I_bitCount (x &&& (838860 : Int32))) (fun r12 =>
    s_K_exclusiveOr_cut2 x (v1 ||| ((r12 &&& (1 : Int32)) <<< ((1 : Int32) &&& 31)))
  )
def s_K_exclusiveOr (x : Int32) : Int32 :=
  bnd (s_I_bitCount (x &&& (2796202 : Int32))) (fun r15 =>
    s_K_exclusiveOr_cut1 x ((0 : Int32) ||| ((r15 &&& (1 : Int32)) <<< ((0 : Int32) &&& 31)))
  )

def s_K_ofWord_cut5  (v1 : Int32) (v2 : Int32) : Int32 :=
  bnd (s_I_bitCount v1) (fun r2 =>
    v1 ||| (r2 &&& (1 : Int32))
  )
def s_K_ofWord_cut4  (v1 : Int32) (v2 : Int32) : Int32 :=
  if ((v2 >>> ((4 : Int32) &&& 31)) &&& (1 : Int32)) = 0 then (
    s_K_ofWord_cut5 v1 v2
  ) else (
    s_K_ofWord_cut5 (v1 ||| ((1 : Int32) <<< (((1 : Int32) <<< ((4 : Int32) &&& 31)) &&& 31))) v2
  )
def s_K_ofWord_cut3  (v1 : Int32) (v2 : Int32) : Int32 :=
  if ((v2 >>> ((3 : Int32) &&& 31)) &&& (1 : Int32)) = 0 then (
    s_K_ofWord_cut4 v1 v2
  ) else (
    s_K_ofWord_cut4 (v1 ||| ((1 : Int32) <<< (((1 : Int32) <<< ((3 : Int32) &&& 31)) &&& 31))) v2
  )
def s_K_ofWord_cut2  (v1 : Int32) (v2 : Int32) : Int32 :=
  if ((v2 >>> ((2 : Int32) &&& 31)) &&& (1 : Int32)) = 0 then (
    s_K_ofWord_cut3 v1 v2
  ) else (
    s_K_ofWord_cut3 (v1 ||| ((1 : Int32) <<< (((1 : Int32) <<< ((2 : Int32) &&& 31)) &&& 31))) v2
  )
def s_K_ofWord_cut1  (v1 : Int32) (v2 : Int32) : Int32 :=
  if ((v2 >>> ((1 : Int32) &&& 31)) &&& (1 : Int32)) = 0 then (
    s_K_ofWord_cut2 v1 v2
  ) else (
    s_K_ofWord_cut2 (v1 ||| ((1 : Int32) <<< (((1 : Int32) <<< ((1 : Int32) &&& 31)) &&& 31))) v2
  )
def s_K_ofWord_cut0  (v1 : Int32) (v2 : Int32) : Int32 :=
  if ((v2 >>> ((0 : Int32) &&& 31)) &&& (1 : Int32)) = 0 then (
    s_K_ofWord_cut1 v1 v2
  ) else (
    s_K_ofWord_cut1 (v1 ||| ((1 : Int32) <<< (((1 : Int32) <<< ((0 : Int32) &&& 31)) &&& 31))) v2
  )
def s_K_ofWord (x : Int32) : Int32 :=
  bnd (s_K_exclusiveOr (((((x &&& (1 : Int32)) <<< ((3 : Int32) &&& 31)) ||| ((x &&& (14 : Int32)) <<< ((4 : Int32) &&& 31))) ||| ((x &&& (2032 : Int32)) <<< ((5 : Int32) &&& 31))) ||| ((x &&& (63488 : Int32)) <<< ((6 : Int32) &&& 31)))) (fun r14 =>
    s_K_ofWord_cut0 (((((x &&& (1 : Int32)) <<< ((3 : Int32) &&& 31)) ||| ((x &&& (14 : Int32)) <<< ((4 : Int32) &&& 31))) ||| ((x &&& (2032 : Int32)) <<< ((5 : Int32) &&& 31))) ||| ((x &&& (63488 : Int32)) <<< ((6 : Int32) &&& 31))) r14
  )

def s_P_wrap (cn : Nat) (x : Int32) : Int32 :=
  if (nI cn) ≤ 0 then (
    0
  ) else (
    x - x / nI cn * nI cn
  )

def s_P_instructionAt (cn : Nat) (f : Nat → Int32) (x : Int32) : Int32 :=
  bnd (s_P_wrap cn x) (fun r1 =>
    f (Int32.toNatClampNeg r1)
  )

def s_C_clearProcessor_D_cut8  (g : Nat → Int32) : (Nat → Int32) :=
  g
def s_C_clearProcessor_D_cut7  (g : Nat → Int32) : (Nat → Int32) :=
  s_C_clearProcessor_D_cut8 (upd g (Int32.toNatClampNeg (7 : Int32)) (0 : Int32))
def s_C_clearProcessor_D_cut6  (g : Nat → Int32) : (Nat → Int32) :=
  s_C_clearProcessor_D_cut7 (upd g (Int32.toNatClampNeg (6 : Int32)) (0 : Int32))
def s_C_clearProcessor_D_cut5  (g : Nat → Int32) : (Nat → Int32) :=
  s_C_clearProcessor_D_cut6 (upd g (Int32.toNatClampNeg (5 : Int32)) (0 : Int32))
def s_C_clearProcessor_D_cut4  (g : Nat → Int32) : (Nat → Int32) :=
  s_C_clearProcessor_D_cut5 (upd g (Int32.toNatClampNeg (4 : Int32)) (0 : Int32))
def s_C_clearProcessor_D_cut3  (g : Nat → Int32) : (Nat → Int32) :=
  s_C_clearProcessor_D_cut4 (upd g (Int32.toNatClampNeg (3 : Int32)) (0 : Int32))
def s_C_clearProcessor_D_cut2  (g : Nat → Int32) : (Nat → Int32) :=
  s_C_clearProcessor_D_cut3 (upd g (Int32.toNatClampNeg (2 : Int32)) (0 : Int32))
def s_C_clearProcessor_D_cut1  (g : Nat → Int32) : (Nat → Int32) :=
  s_C_clearProcessor_D_cut2 (upd g (Int32.toNatClampNeg (1 : Int32)) (0 : Int32))
def s_C_clearProcessor_D_cut0  (g : Nat → Int32) : (Nat → Int32) :=
  s_C_clearProcessor_D_cut1 (upd g (Int32.toNatClampNeg (0 : Int32)) (0 : Int32))
def s_C_clearProcessor_D (rg : Nat → Int32) : (Nat → Int32) :=
  s_C_clearProcessor_D_cut0 rg

def s_C_clearProcessor_E_cut8  (g : Nat → Int32) : (Nat → Int32) :=
  g
def s_C_clearProcessor_E_cut7  (g : Nat → Int32) : (Nat → Int32) :=
  s_C_clearProcessor_E_cut8 (upd g (Int32.toNatClampNeg (7 : Int32)) (0 : Int32))
def s_C_clearProcessor_E_cut6  (g : Nat → Int32) : (Nat → Int32) :=
  s_C_clearProcessor_E_cut7 (upd g (Int32.toNatClampNeg (6 : Int32)) (0 : Int32))
def s_C_clearProcessor_E_cut5  (g : Nat → Int32) : (Nat → Int32) :=
  s_C_clearProcessor_E_cut6 (upd g (Int32.toNatClampNeg (5 : Int32)) (0 : Int32))
def s_C_clearProcessor_E_cut4  (g : Nat → Int32) : (Nat → Int32) :=
  s_C_clearProcessor_E_cut5 (upd g (Int32.toNatClampNeg (4 : Int32)) (0 : Int32))
def s_C_clearProcessor_E_cut3  (g : Nat → Int32) : (Nat → Int32) :=
  s_C_clearProcessor_E_cut4 (upd g (Int32.toNatClampNeg (3 : Int32)) (0 : Int32))
def s_C_clearProcessor_E_cut2  (g : Nat → Int32) : (Nat → Int32) :=
  s_C_clearProcessor_E_cut3 (upd g (Int32.toNatClampNeg (2 : Int32)) (0 : Int32))
def s_C_clearProcessor_E_cut1  (g : Nat → Int32) : (Nat → Int32) :=
  s_C_clearProcessor_E_cut2 (upd g (Int32.toNatClampNeg (1 : Int32)) (0 : Int32))
def s_C_clearProcessor_E_cut0  (g : Nat → Int32) : (Nat → Int32) :=
  s_C_clearProcessor_E_cut1 (upd g (Int32.toNatClampNeg (0 : Int32)) (0 : Int32))
def s_C_clearProcessor_E (rg : Nat → Int32) : (Nat → Int32) :=
  s_C_clearProcessor_E_cut0 rg

def s_C_passOver_D (F : Nat → Int32) (cn : Nat) : Int32 :=
  bnd (s_P_wrap cn ((F 1) + (1 : Int32))) (fun r1 =>
    r1
  )

def s_C_passOver_E (F : Nat → Int32) (cn : Nat) : Int32 :=
  bnd (s_P_wrap cn ((F 1) + (1 : Int32))) (fun r1 =>
    r1
  )

def s_C_reckon (o : Int32) (x : Int32) (y : Int32) : Int32 :=
  if o = 1 then (
    (x + y) &&& (65535 : Int32)
  ) else (
    if o = 2 then (
      (x - y) &&& (65535 : Int32)
    ) else (
      if o = 3 then (
        x ^^^ y
      ) else (
        ush x (y &&& (15 : Int32))
      )
    )
  )

def s_K_wordOf (x : Int32) : Int32 :=
  ((((x >>> ((3 : Int32) &&& 31)) &&& (1 : Int32)) ||| ((x >>> ((4 : Int32) &&& 31)) &&& (14 : Int32))) ||| ((x >>> ((5 : Int32) &&& 31)) &&& (2032 : Int32))) ||| ((x >>> ((6 : Int32) &&& 31)) &&& (63488 : Int32))

def s_D_findsSpoilt (F : Nat → Int32) (cd : Nat → Int32) (x : Int32) : Int32 × Int32 × (Nat → Int32) :=
  bnd (s_K_exclusiveOr (cd (Int32.toNatClampNeg x))) (fun r1 =>
    bnd (s_I_bitCount (cd (Int32.toNatClampNeg x))) (fun r3 =>
      if (r3 &&& (1 : Int32)) = 0 then (
        if r1 = 0 then (
          (0, F 13, cd)
        ) else (
          (1, F 13, cd)
        )
      ) else (
        if r1 < 22 then (
          (0, (F 13) + (1 : Int32), upd cd (Int32.toNatClampNeg x) ((cd (Int32.toNatClampNeg x)) ^^^ ((1 : Int32) <<< (r1 &&& 31))))
        ) else (
          (1, F 13, cd)
        )
      )
    )
  )

def s_D_writeWord (cd : Nat → Int32) (x : Int32) (y : Int32) : (Nat → Int32) :=
  bnd (s_K_ofWord y) (fun r1 =>
    upd cd (Int32.toNatClampNeg x) r1
  )

def s_D_readWord (F : Nat → Int32) (cd : Nat → Int32) (x : Int32) : Int32 × (Nat → Int32) × (Nat → Int32) :=
  bnd (s_D_findsSpoilt F cd x) (fun (r1, x133, cd24) =>
    if r1 = 0 then (
      bnd (s_K_wordOf (cd24 (Int32.toNatClampNeg x))) (fun r6 =>
        (r6, upc F 13 x133, cd24)
      )
    ) else (
      (0, upc (upc F 13 x133) 16 (1 : Int32), cd24)
    )
  )

def s_C_receive_D (F : Nat → Int32) (rg : Nat → Int32) (x : Int32) : (Nat → Int32) :=
  if (F 4) = (-1) then (
    rg
  ) else (
    upd rg (Int32.toNatClampNeg (F 4)) x
  )

def s_C_receive_E (F : Nat → Int32) (rg : Nat → Int32) (x : Int32) : (Nat → Int32) :=
  if (F 4) = (-1) then (
    rg
  ) else (
    upd rg (Int32.toNatClampNeg (F 4)) x
  )

def s_C_execute_D (F : Nat → Int32) (rg : Nat → Int32) (cd : Nat → Int32) (cn : Nat) (f : Nat → Int32) : (Nat → Int32) × (Nat → Int32) × (Nat → Int32) :=
  bnd (s_P_instructionAt cn f (F 1)) (fun r1 =>
    bnd (s_C_passOver_D F cn) (fun x15 =>
      if (ush r1 24) = 0 then (
        (upc F 1 x15, upd rg (Int32.toNatClampNeg (wA r1)) (((wB r1) * (256 : Int32)) + (wC r1)), cd)
      ) else (
        if (ush r1 24) = 1 then (
          bnd (s_C_reckon (ush r1 24) (rg (Int32.toNatClampNeg (wB r1))) (rg (Int32.toNatClampNeg (wC r1)))) (fun r17 =>
            (upc F 1 x15, upd rg (Int32.toNatClampNeg (wA r1)) r17, cd)
          )
        ) else (
          if (ush r1 24) = 2 then (
            bnd (s_C_reckon (ush r1 24) (rg (Int32.toNatClampNeg (wB r1))) (rg (Int32.toNatClampNeg (wC r1)))) (fun r21 =>
              (upc F 1 x15, upd rg (Int32.toNatClampNeg (wA r1)) r21, cd)
            )
          ) else (
            if (ush r1 24) = 3 then (
              bnd (s_C_reckon (ush r1 24) (rg (Int32.toNatClampNeg (wB r1))) (rg (Int32.toNatClampNeg (wC r1)))) (fun r25 =>
                (upc F 1 x15, upd rg (Int32.toNatClampNeg (wA r1)) r25, cd)
              )
            ) else (
              if (ush r1 24) = 4 then (
                bnd (s_C_reckon (ush r1 24) (rg (Int32.toNatClampNeg (wB r1))) (rg (Int32.toNatClampNeg (wC r1)))) (fun r29 =>
                  (upc F 1 x15, upd rg (Int32.toNatClampNeg (wA r1)) r29, cd)
                )
              ) else (
                if (ush r1 24) = 5 then (
                  bnd (s_D_readWord (upc F 1 x15) cd (pl32 (rg (Int32.toNatClampNeg (wB r1))) (wC r1))) (fun (r31, F233, cd234) =>
                    (F233, upd rg (Int32.toNatClampNeg (wA r1)) r31, cd234)
                  )
                ) else (
                  if (ush r1 24) = 6 then (
                    bnd (s_D_writeWord cd (pl32 (rg (Int32.toNatClampNeg (wB r1))) (wC r1)) (rg (Int32.toNatClampNeg (wA r1)))) (fun cd237 =>
                      (upc (upc (upc F 1 x15) 5 (pl32 (rg (Int32.toNatClampNeg (wB r1))) (wC r1))) 6 (rg (Int32.toNatClampNeg (wA r1))), rg, cd237)
                    )
                  ) else (
                    if (ush r1 24) = 7 then (
                      if (rg (Int32.toNatClampNeg (wA r1))) = 0 then (
                        (upc (upc F 1 x15) 1 (wB r1), rg, cd)
                      ) else (
                        (upc F 1 x15, rg, cd)
                      )
                    ) else (
                      if (ush r1 24) = 8 then (
                        (upc (upc F 1 x15) 1 (wB r1), rg, cd)
                      ) else (
                        if (ush r1 24) = 9 then (
                          (upc (upc (upc F 1 x15) 2 (1 : Int32)) 4 (wA r1), rg, cd)
                        ) else (
                          if (ush r1 24) = 10 then (
                            (upc (upc (upc F 1 x15) 2 (2 : Int32)) 3 (rg (Int32.toNatClampNeg (wA r1))), rg, cd)
                          ) else (
                            (fun _ => 0, fun _ => 0, fun _ => 0)
                          )
                        )
                      )
                    )
                  )
                )
              )
            )
          )
        )
      )
    )
  )

def s_D_shownMark (F : Nat → Int32) : Int32 :=
  if (F 8) = 1 then (
    F 9
  ) else (
    if (F 8) = 0 then (
      32
    ) else (
      0
    )
  )

def s_D_wishAsBallot (F : Nat → Int32) : Int32 :=
  if (F 16) = 0 then (
    ((((F 2) * (2 : Int32)) + (0 : Int32)) <<< ((16 : Int32) &&& 31)) ||| (F 3)
  ) else (
    ((((F 2) * (2 : Int32)) + (1 : Int32)) <<< ((16 : Int32) &&& 31)) ||| (F 3)
  )

def s_D_digest_cut8  (v1 : Int32) : Int32 :=
  v1
def s_D_digest_cut7 (rg : Nat → Int32) (v1 : Int32) : Int32 :=
  s_D_digest_cut8 (v1 ^^^ ((((rg (Int32.toNatClampNeg (7 : Int32))) <<< ((7 : Int32) &&& 31)) ||| (ush (rg (Int32.toNatClampNeg (7 : Int32))) ((16 : Int32) - (7 : Int32)))) &&& (65535 : Int32)))
def s_D_digest_cut6 (rg : Nat → Int32) (v1 : Int32) : Int32 :=
  s_D_digest_cut7 rg (v1 ^^^ ((((rg (Int32.toNatClampNeg (6 : Int32))) <<< ((6 : Int32) &&& 31)) ||| (ush (rg (Int32.toNatClampNeg (6 : Int32))) ((16 : Int32) - (6 : Int32)))) &&& (65535 : Int32)))
def s_D_digest_cut5 (rg : Nat → Int32) (v1 : Int32) : Int32 :=
  s_D_digest_cut6 rg (v1 ^^^ ((((rg (Int32.toNatClampNeg (5 : Int32))) <<< ((5 : Int32) &&& 31)) ||| (ush (rg (Int32.toNatClampNeg (5 : Int32))) ((16 : Int32) - (5 : Int32)))) &&& (65535 : Int32)))
def s_D_digest_cut4 (rg : Nat → Int32) (v1 : Int32) : Int32 :=
  s_D_digest_cut5 rg (v1 ^^^ ((((rg (Int32.toNatClampNeg (4 : Int32))) <<< ((4 : Int32) &&& 31)) ||| (ush (rg (Int32.toNatClampNeg (4 : Int32))) ((16 : Int32) - (4 : Int32)))) &&& (65535 : Int32)))
def s_D_digest_cut3 (rg : Nat → Int32) (v1 : Int32) : Int32 :=
  s_D_digest_cut4 rg (v1 ^^^ ((((rg (Int32.toNatClampNeg (3 : Int32))) <<< ((3 : Int32) &&& 31)) ||| (ush (rg (Int32.toNatClampNeg (3 : Int32))) ((16 : Int32) - (3 : Int32)))) &&& (65535 : Int32)))
def s_D_digest_cut2 (rg : Nat → Int32) (v1 : Int32) : Int32 :=
  s_D_digest_cut3 rg (v1 ^^^ ((((rg (Int32.toNatClampNeg (2 : Int32))) <<< ((2 : Int32) &&& 31)) ||| (ush (rg (Int32.toNatClampNeg (2 : Int32))) ((16 : Int32) - (2 : Int32)))) &&& (65535 : Int32)))
def s_D_digest_cut1 (rg : Nat → Int32) (v1 : Int32) : Int32 :=
  s_D_digest_cut2 rg (v1 ^^^ ((((rg (Int32.toNatClampNeg (1 : Int32))) <<< ((1 : Int32) &&& 31)) ||| (ush (rg (Int32.toNatClampNeg (1 : Int32))) ((16 : Int32) - (1 : Int32)))) &&& (65535 : Int32)))
def s_D_digest (F : Nat → Int32) (rg : Nat → Int32) : Int32 :=
  s_D_digest_cut1 rg ((F 1) ^^^ ((((rg (Int32.toNatClampNeg (0 : Int32))) <<< ((0 : Int32) &&& 31)) ||| (ush (rg (Int32.toNatClampNeg (0 : Int32))) ((16 : Int32) - (0 : Int32)))) &&& (65535 : Int32)))

def s_D_blameLater (F : Nat → Int32) : (Nat → Int32) :=
  upc (upc F 14 ((F 14) + (1 : Int32))) 15 (1 : Int32)

def s_D_takeBlame (F : Nat → Int32) : (Nat → Int32) :=
  if ((F 10) + (20 : Int32)) < 50 then (
    upc (upc (upc F 8 (1 : Int32)) 9 (0 : Int32)) 10 ((F 10) + (20 : Int32))
  ) else (
    upc (upc (upc F 8 (2 : Int32)) 9 (0 : Int32)) 10 ((F 10) + (20 : Int32))
  )

def s_D_makeBlank_loop (F : Nat → Int32) (x : Int32) : Nat → (Nat) → (Nat → Int32) → (Nat → Int32) → (Nat → Int32) × (Nat → Int32) × (Nat → Int32)
  | 0, i, g, d =>
    (flF (upc (upc (upc (upc (upc (upc (upc (upc F 1 0) 8 x) 9 (0 : Int32)) 10 (0 : Int32)) 11 (0 : Int32)) 12 (0 : Int32)) 13 (0 : Int32)) 14 (0 : Int32)), g, d)
  | n9 + 1, i, g, d =>
    bnd (s_D_writeWord d (nI i) 0) (fun cd27 =>
      s_D_makeBlank_loop F x n9 (i + 1) g cd27
    )
def s_D_makeBlank (F : Nat → Int32) (rg : Nat → Int32) (cd : Nat → Int32) (x : Int32) : (Nat → Int32) × (Nat → Int32) × (Nat → Int32) :=
  bnd (s_C_clearProcessor_D rg) (fun g10 =>
    s_D_makeBlank_loop F x 32 0 g10 cd
  )

def s_N_wordAt (k : Nat) (wd : Nat → Int32) (x : Int32) : Int32 :=
  if x < 0 then (
    0
  ) else (
    if (nI k) ≤ x then (
      0
    ) else (
      wd (Int32.toNatClampNeg x)
    )
  )

def s_N_add (k : Nat) (wd : Nat → Int32) (x : Int32) : Int32 × Nat × (Nat → Int32) :=
  if (nI k) < 64 then (
    (1, k + 1, upd wd (Int32.toNatClampNeg (nI k)) x)
  ) else (
    (0, k, wd)
  )

def s_O_add (k : Nat) (wd : Nat → Int32) (x : Int32) : (Nat → Int32) :=
  if 300 ≤ (nI k) then (
    wd
  ) else (
    upd wd (Int32.toNatClampNeg (nI k)) x
  )

def s_E_readWord (wd : Nat → Int32) (x : Int32) : Int32 :=
  wd (Int32.toNatClampNeg x)

def s_E_writeWord (wd : Nat → Int32) (x : Int32) (y : Int32) : (Nat → Int32) :=
  upd wd (Int32.toNatClampNeg x) y

def s_C_execute_E (F : Nat → Int32) (rg : Nat → Int32) (wd : Nat → Int32) (cn : Nat) (f : Nat → Int32) : (Nat → Int32) × (Nat → Int32) × (Nat → Int32) :=
  bnd (s_P_instructionAt cn f (F 1)) (fun r1 =>
    bnd (s_C_passOver_E F cn) (fun x15 =>
      if (ush r1 24) = 0 then (
        (upc F 1 x15, upd rg (Int32.toNatClampNeg (wA r1)) (((wB r1) * (256 : Int32)) + (wC r1)), wd)
      ) else (
        if (ush r1 24) = 1 then (
          bnd (s_C_reckon (ush r1 24) (rg (Int32.toNatClampNeg (wB r1))) (rg (Int32.toNatClampNeg (wC r1)))) (fun r17 =>
            (upc F 1 x15, upd rg (Int32.toNatClampNeg (wA r1)) r17, wd)
          )
        ) else (
          if (ush r1 24) = 2 then (
            bnd (s_C_reckon (ush r1 24) (rg (Int32.toNatClampNeg (wB r1))) (rg (Int32.toNatClampNeg (wC r1)))) (fun r21 =>
              (upc F 1 x15, upd rg (Int32.toNatClampNeg (wA r1)) r21, wd)
            )
          ) else (
            if (ush r1 24) = 3 then (
              bnd (s_C_reckon (ush r1 24) (rg (Int32.toNatClampNeg (wB r1))) (rg (Int32.toNatClampNeg (wC r1)))) (fun r25 =>
                (upc F 1 x15, upd rg (Int32.toNatClampNeg (wA r1)) r25, wd)
              )
            ) else (
              if (ush r1 24) = 4 then (
                bnd (s_C_reckon (ush r1 24) (rg (Int32.toNatClampNeg (wB r1))) (rg (Int32.toNatClampNeg (wC r1)))) (fun r29 =>
                  (upc F 1 x15, upd rg (Int32.toNatClampNeg (wA r1)) r29, wd)
                )
              ) else (
                if (ush r1 24) = 5 then (
                  bnd (s_E_readWord wd (pl32 (rg (Int32.toNatClampNeg (wB r1))) (wC r1))) (fun r31 =>
                    (upc F 1 x15, upd rg (Int32.toNatClampNeg (wA r1)) r31, wd)
                  )
                ) else (
                  if (ush r1 24) = 6 then (
                    bnd (s_E_writeWord wd (pl32 (rg (Int32.toNatClampNeg (wB r1))) (wC r1)) (rg (Int32.toNatClampNeg (wA r1)))) (fun w235 =>
                      (upc (upc (upc F 1 x15) 5 (pl32 (rg (Int32.toNatClampNeg (wB r1))) (wC r1))) 6 (rg (Int32.toNatClampNeg (wA r1))), rg, w235)
                    )
                  ) else (
                    if (ush r1 24) = 7 then (
                      if (rg (Int32.toNatClampNeg (wA r1))) = 0 then (
                        (upc (upc F 1 x15) 1 (wB r1), rg, wd)
                      ) else (
                        (upc F 1 x15, rg, wd)
                      )
                    ) else (
                      if (ush r1 24) = 8 then (
                        (upc (upc F 1 x15) 1 (wB r1), rg, wd)
                      ) else (
                        if (ush r1 24) = 9 then (
                          (upc (upc (upc F 1 x15) 2 (1 : Int32)) 4 (wA r1), rg, wd)
                        ) else (
                          if (ush r1 24) = 10 then (
                            (upc (upc (upc F 1 x15) 2 (2 : Int32)) 3 (rg (Int32.toNatClampNeg (wA r1))), rg, wd)
                          ) else (
                            (fun _ => 0, fun _ => 0, fun _ => 0)
                          )
                        )
                      )
                    )
                  )
                )
              )
            )
          )
        )
      )
    )
  )

def s_E_doInstruction (F : Nat → Int32) (rg : Nat → Int32) (wd : Nat → Int32) (cn : Nat) (f : Nat → Int32) (kN : Nat) (wN : Nat → Int32) (ko : Nat) (kp : Nat → Int32) : (Nat → Int32) × (Nat → Int32) × (Nat → Int32) × Nat × (Nat → Int32) :=
  bnd (s_C_execute_E (clE F) rg wd cn f) (fun (F25, g6, w27) =>
    if (F25 2) = 1 then (
      bnd (s_N_wordAt kN wN (F25 9)) (fun r13 =>
        bnd (s_C_receive_E F25 g6 r13) (fun g17 =>
          if (nI kN) ≤ (F25 9) then (
            (upc F25 9 ((F25 9) + (0 : Int32)), g17, w27, ko, kp)
          ) else (
            (upc F25 9 ((F25 9) + (1 : Int32)), g17, w27, ko, kp)
          )
        )
      )
    ) else (
      if (F25 2) = 2 then (
        bnd (s_O_add ko kp (F25 3)) (fun w212 =>
          (F25, g6, w27, ko + 1, w212)
        )
      ) else (
        (F25, g6, w27, ko, kp)
      )
    )
  )

def s_E_makeBlank_loop (F : Nat → Int32) : Nat → (Nat) → (Nat → Int32) → (Nat → Int32) → (Nat → Int32) × (Nat → Int32) × (Nat → Int32)
  | 0, i, g, d =>
    (upc (upc F 1 0) 9 (0 : Int32), g, d)
  | n9 + 1, i, g, d =>
    s_E_makeBlank_loop F n9 (i + 1) g (upd d (Int32.toNatClampNeg (nI i)) (0 : Int32))
def s_E_makeBlank (F : Nat → Int32) (rg : Nat → Int32) (wd : Nat → Int32) : (Nat → Int32) × (Nat → Int32) × (Nat → Int32) :=
  bnd (s_C_clearProcessor_E rg) (fun g7 =>
    s_E_makeBlank_loop F 32 0 g7 wd
  )

def s_T_countInStep_cut4_3  (w1 : Int32) : Int32 :=
  w1
def s_T_countInStep_cut4_2 (F : Nat → Nat → Int32) (w1 : Int32) : Int32 :=
  if (F 2 8) = 0 then (
    s_T_countInStep_cut4_3 (w1 + 1)
  ) else (
    s_T_countInStep_cut4_3 w1
  )
def s_T_countInStep_cut4_1 (F : Nat → Nat → Int32) (w1 : Int32) : Int32 :=
  if (F 1 8) = 0 then (
    s_T_countInStep_cut4_2 F (w1 + 1)
  ) else (
    s_T_countInStep_cut4_2 F w1
  )
def s_T_countInStep (F : Nat → Nat → Int32) : Int32 :=
  if (F 0 8) = 0 then (
    s_T_countInStep_cut4_1 F 1
  ) else (
    s_T_countInStep_cut4_1 F 0
  )

def s_T_currentMode (uT : Nat → Int32) (F : Nat → Nat → Int32) : Int32 :=
  if (uT 5) = 0 then (
    (-1)
  ) else (
    if (uT 6) = 0 then (
      bnd (s_T_countInStep F) (fun r3 =>
        r3
      )
    ) else (
      0
    )
  )

def s_T_lowestTrusted_cut2_3   : Int32 :=
  (-1)
def s_T_lowestTrusted_cut2_2 (F : Nat → Nat → Int32)  : Int32 :=
  if (bI (trB (F 2))) = 0 then (
    s_T_lowestTrusted_cut2_3
  ) else (
    2
  )
def s_T_lowestTrusted_cut2_1 (F : Nat → Nat → Int32)  : Int32 :=
  if (bI (trB (F 1))) = 0 then (
    s_T_lowestTrusted_cut2_2 F
  ) else (
    1
  )
def s_T_lowestTrusted (F : Nat → Nat → Int32) : Int32 :=
  if (bI (trB (F 0))) = 0 then (
    s_T_lowestTrusted_cut2_1 F
  ) else (
    0
  )

def s_T_countTrusted_cut4_3  (w1 : Int32) : Int32 :=
  w1
def s_T_countTrusted_cut4_2 (F : Nat → Nat → Int32) (w1 : Int32) : Int32 :=
  if (bI (trB (F 2))) = 0 then (
    s_T_countTrusted_cut4_3 w1
  ) else (
    s_T_countTrusted_cut4_3 (w1 + 1)
  )
def s_T_countTrusted_cut4_1 (F : Nat → Nat → Int32) (w1 : Int32) : Int32 :=
  if (bI (trB (F 1))) = 0 then (
    s_T_countTrusted_cut4_2 F w1
  ) else (
    s_T_countTrusted_cut4_2 F (w1 + 1)
  )
def s_T_countTrusted (F : Nat → Nat → Int32) : Int32 :=
  if (bI (trB (F 0))) = 0 then (
    s_T_countTrusted_cut4_1 F 0
  ) else (
    s_T_countTrusted_cut4_1 F 1
  )

def s_T_countBallots_cut4_3  (w2 : Int32) : Int32 :=
  w2
def s_T_countBallots_cut4_2 (F : Nat → Nat → Int32) (x : Int32) (w2 : Int32) : Int32 :=
  if (bI (trB (F 2))) = 0 then (
    s_T_countBallots_cut4_3 w2
  ) else (
    if (F 2 18) = x then (
      s_T_countBallots_cut4_3 (w2 + 1)
    ) else (
      s_T_countBallots_cut4_3 w2
    )
  )
def s_T_countBallots_cut4_1 (F : Nat → Nat → Int32) (x : Int32) (w2 : Int32) : Int32 :=
  if (bI (trB (F 1))) = 0 then (
    s_T_countBallots_cut4_2 F x w2
  ) else (
    if (F 1 18) = x then (
      s_T_countBallots_cut4_2 F x (w2 + 1)
    ) else (
      s_T_countBallots_cut4_2 F x w2
    )
  )
def s_T_countBallots (F : Nat → Nat → Int32) (x : Int32) : Int32 :=
  if (bI (trB (F 0))) = 0 then (
    s_T_countBallots_cut4_1 F x 0
  ) else (
    if (F 0 18) = x then (
      s_T_countBallots_cut4_1 F x 1
    ) else (
      s_T_countBallots_cut4_1 F x 0
    )
  )

def s_T_oneOfTheAlikePair_cut2_3   : Int32 :=
  (-1)
def s_T_oneOfTheAlikePair_cut2_2 (F : Nat → Nat → Int32)  : Int32 :=
  if (bI (trB (F 2))) = 0 then (
    s_T_oneOfTheAlikePair_cut2_3
  ) else (
    bnd (s_T_countBallots F (F 2 18)) (fun r6 =>
      if r6 = 2 then (
        2
      ) else (
        s_T_oneOfTheAlikePair_cut2_3
      )
    )
  )
def s_T_oneOfTheAlikePair_cut2_1 (F : Nat → Nat → Int32)  : Int32 :=
  if (bI (trB (F 1))) = 0 then (
    s_T_oneOfTheAlikePair_cut2_2 F
  ) else (
    bnd (s_T_countBallots F (F 1 18)) (fun r13 =>
      if r13 = 2 then (
        1
      ) else (
        s_T_oneOfTheAlikePair_cut2_2 F
      )
    )
  )
def s_T_oneOfTheAlikePair (F : Nat → Nat → Int32) : Int32 :=
  if (bI (trB (F 0))) = 0 then (
    s_T_oneOfTheAlikePair_cut2_1 F
  ) else (
    bnd (s_T_countBallots F (F 0 18)) (fun r20 =>
      if r20 = 2 then (
        0
      ) else (
        s_T_oneOfTheAlikePair_cut2_1 F
      )
    )
  )

def s_T_soundOneOfTwo_cut6_3 (F : Nat → Nat → Int32) (w1 : Int32) (w2 : Int32) : Int32 :=
  if w2 = 1 then (
    bnd (s_T_countTrusted F) (fun r3 =>
      if r3 = 2 then (
        w1
      ) else (
        (-1)
      )
    )
  ) else (
    (-1)
  )
def s_T_soundOneOfTwo_cut6_2 (F : Nat → Nat → Int32) (w1 : Int32) (w2 : Int32) : Int32 :=
  if (bI (trB (F 2))) = 0 then (
    s_T_soundOneOfTwo_cut6_3 F w1 w2
  ) else (
    if (F 2 16) = 0 then (
      s_T_soundOneOfTwo_cut6_3 F 2 (w2 + 1)
    ) else (
      s_T_soundOneOfTwo_cut6_3 F w1 w2
    )
  )
def s_T_soundOneOfTwo_cut6_1 (F : Nat → Nat → Int32) (w1 : Int32) (w2 : Int32) : Int32 :=
  if (bI (trB (F 1))) = 0 then (
    s_T_soundOneOfTwo_cut6_2 F w1 w2
  ) else (
    if (F 1 16) = 0 then (
      s_T_soundOneOfTwo_cut6_2 F 1 (w2 + 1)
    ) else (
      s_T_soundOneOfTwo_cut6_2 F w1 w2
    )
  )
def s_T_soundOneOfTwo (F : Nat → Nat → Int32) : Int32 :=
  if (bI (trB (F 0))) = 0 then (
    s_T_soundOneOfTwo_cut6_1 F (-1) 0
  ) else (
    if (F 0 16) = 0 then (
      s_T_soundOneOfTwo_cut6_1 F 0 1
    ) else (
      s_T_soundOneOfTwo_cut6_1 F (-1) 0
    )
  )

def s_T_nameAllUnlike_cut2_3  (F : Nat → Nat → Int32) : (Nat → Nat → Int32) :=
  F
def s_T_nameAllUnlike_cut2_2 (x : Int32) (F : Nat → Nat → Int32) : (Nat → Nat → Int32) :=
  if (bI (trB (F 2))) = 0 then (
    s_T_nameAllUnlike_cut2_3 F
  ) else (
    if (F 2 18) = x then (
      s_T_nameAllUnlike_cut2_3 F
    ) else (
      bnd (s_D_blameLater (F 2)) (fun F29 =>
        s_T_nameAllUnlike_cut2_3 (tri (F 0) (F 1) F29)
      )
    )
  )
def s_T_nameAllUnlike_cut2_1 (x : Int32) (F : Nat → Nat → Int32) : (Nat → Nat → Int32) :=
  if (bI (trB (F 1))) = 0 then (
    s_T_nameAllUnlike_cut2_2 x F
  ) else (
    if (F 1 18) = x then (
      s_T_nameAllUnlike_cut2_2 x F
    ) else (
      bnd (s_D_blameLater (F 1)) (fun F217 =>
        s_T_nameAllUnlike_cut2_2 x (tri (F 0) F217 (F 2))
      )
    )
  )
def s_T_nameAllUnlike (F : Nat → Nat → Int32) (x : Int32) : (Nat → Nat → Int32) :=
  if (bI (trB (F 0))) = 0 then (
    s_T_nameAllUnlike_cut2_1 x F
  ) else (
    if (F 0 18) = x then (
      s_T_nameAllUnlike_cut2_1 x F
    ) else (
      bnd (s_D_blameLater (F 0)) (fun F225 =>
        s_T_nameAllUnlike_cut2_1 x (tri F225 (F 1) (F 2))
      )
    )
  )

def s_D_copyNextFrom (F : Nat → Int32) (rg : Nat → Int32) (cd : Nat → Int32) (F2 : Nat → Int32) (rg2 : Nat → Int32) (cd2 : Nat → Int32) : (Nat → Int32) × (Nat → Int32) × (Nat → Int32) :=
  if 32 ≤ (F 9) then (
    if (F 9) = 32 then (
      (upc (upc F 1 (F2 1)) 8 (0 : Int32), va_cpy rg2 rg 0 0 8, cd)
    ) else (
      (F, rg, cd)
    )
  ) else (
    if ((F 9) + (1 : Int32)) = 32 then (
      (upc (upc (upc F 1 (F2 1)) 8 (0 : Int32)) 9 ((F 9) + (1 : Int32)), va_cpy rg2 rg 0 0 8, upd cd (Int32.toNatClampNeg (F 9)) (cd2 (Int32.toNatClampNeg (F 9))))
    ) else (
      (upc F 9 ((F 9) + (1 : Int32)), rg, upd cd (Int32.toNatClampNeg (F 9)) (cd2 (Int32.toNatClampNeg (F 9))))
    )
  )

def s_T_vote_cv65 (uT : Nat → Int32) (F : Nat → Nat → Int32) : Int32 × (Nat → Nat → Int32) × Int32 :=
  bnd (s_T_oneOfTheAlikePair F) (fun r1 =>
    if r1 = (-1) then (
      bnd (s_T_soundOneOfTwo F) (fun r4 =>
        if r4 = (-1) then (
          ((-1), F, upc uT 9 ((uT 9) + (1 : Int32)) 9)
        ) else (
          if r4 = 0 then (
            bnd (s_T_nameAllUnlike F (F 0 18)) (fun F210 =>
              (0, F210, upc uT 9 ((uT 9) + (1 : Int32)) 9)
            )
          ) else (
            if r4 = 1 then (
              bnd (s_T_nameAllUnlike F (F 1 18)) (fun F214 =>
                (1, F214, upc uT 9 ((uT 9) + (1 : Int32)) 9)
              )
            ) else (
              bnd (s_T_nameAllUnlike F (F 2 18)) (fun F218 =>
                (2, F218, upc uT 9 ((uT 9) + (1 : Int32)) 9)
              )
            )
          )
        )
      )
    ) else (
      if r1 = 0 then (
        bnd (s_T_nameAllUnlike F (F 0 18)) (fun F223 =>
          (0, F223, upc uT 9 ((uT 9) + (1 : Int32)) 9)
        )
      ) else (
        if r1 = 1 then (
          bnd (s_T_nameAllUnlike F (F 1 18)) (fun F228 =>
            (1, F228, upc uT 9 ((uT 9) + (1 : Int32)) 9)
          )
        ) else (
          bnd (s_T_nameAllUnlike F (F 2 18)) (fun F233 =>
            (2, F233, upc uT 9 ((uT 9) + (1 : Int32)) 9)
          )
        )
      )
    )
  )
def s_T_vote_cut14_3 (uT : Nat → Int32) (F : Nat → Nat → Int32) (w1 : Int32) : Int32 × (Nat → Nat → Int32) × Int32 :=
  if w1 = 0 then (
    bnd (s_T_countBallots F (F 0 18)) (fun r35 =>
      bnd (s_T_countTrusted F) (fun r37 =>
        if r35 = r37 then (
          (0, F, uT 9)
        ) else (
          s_T_vote_cv65 uT F
        )
      )
    )
  ) else (
    if w1 = 1 then (
      bnd (s_T_countBallots F (F 1 18)) (fun r40 =>
        bnd (s_T_countTrusted F) (fun r42 =>
          if r40 = r42 then (
            (1, F, uT 9)
          ) else (
            s_T_vote_cv65 uT F
          )
        )
      )
    ) else (
      bnd (s_T_countBallots F (F 2 18)) (fun r45 =>
        bnd (s_T_countTrusted F) (fun r47 =>
          if r45 = r47 then (
            (2, F, uT 9)
          ) else (
            s_T_vote_cv65 uT F
          )
        )
      )
    )
  )
def s_T_vote_cut14_2 (uT : Nat → Int32) (F : Nat → Nat → Int32) (w1 : Int32) : Int32 × (Nat → Nat → Int32) × Int32 :=
  bnd (s_D_wishAsBallot (F 2)) (fun r51 =>
    s_T_vote_cut14_3 uT (tri (F 0) (F 1) (upc (F 2) 18 r51)) w1
  )
def s_T_vote_cut14_1 (uT : Nat → Int32) (F : Nat → Nat → Int32) (w1 : Int32) : Int32 × (Nat → Nat → Int32) × Int32 :=
  bnd (s_D_wishAsBallot (F 1)) (fun r54 =>
    s_T_vote_cut14_2 uT (tri (F 0) (upc (F 1) 18 r54) (F 2)) w1
  )
def s_T_vote_cut14_0 (uT : Nat → Int32) (F : Nat → Nat → Int32) (w1 : Int32) : Int32 × (Nat → Nat → Int32) × Int32 :=
  bnd (s_D_wishAsBallot (F 0)) (fun r57 =>
    s_T_vote_cut14_1 uT (tri (upc (F 0) 18 r57) (F 1) (F 2)) w1
  )
def s_T_vote (uT : Nat → Int32) (F : Nat → Nat → Int32) : Int32 × (Nat → Nat → Int32) × Int32 :=
  bnd (s_T_lowestTrusted F) (fun r59 =>
    if r59 = (-1) then (
      ((-1), F, uT 9)
    ) else (
      if r59 = 0 then (
        s_T_vote_cut14_0 uT F 0
      ) else (
        if r59 = 1 then (
          s_T_vote_cut14_0 uT F 1
        ) else (
          s_T_vote_cut14_0 uT F 2
        )
      )
    )
  )

def s_T_takeWord (uT : Nat → Int32) (kN : Nat) (wN : Nat → Int32) : Int32 × Int32 :=
  bnd (s_N_wordAt kN wN (uT 10)) (fun r1 =>
    if (nI kN) ≤ (uT 10) then (
      (r1, uT 10)
    ) else (
      (r1, (uT 10) + (1 : Int32))
    )
  )

def s_T_doWhatIsAgreed0_cut39_3 (uT : Nat → Int32) (y10 : Int32) (g : Nat → Nat → Int32) (ko2 : Nat) (kp2 : Nat → Int32) (w2 : Int32) : (Nat → Nat → Int32) × Nat × (Nat → Int32) × Int32 :=
  (g, ko2, kp2, upc uT 10 y10 10)
def s_T_doWhatIsAgreed0_cut39_2 (uT : Nat → Int32) (F : Nat → Nat → Int32) (y10 : Int32) (g : Nat → Nat → Int32) (ko2 : Nat) (kp2 : Nat → Int32) (w2 : Int32) : (Nat → Nat → Int32) × Nat × (Nat → Int32) × Int32 :=
  if (F 2 8) = 0 then (
    bnd (s_C_receive_D (F 2) (g 2) w2) (fun g6 =>
      s_T_doWhatIsAgreed0_cut39_3 uT (upc uT 10 y10 10) (tri (g 0) (g 1) g6) ko2 kp2 w2
    )
  ) else (
    s_T_doWhatIsAgreed0_cut39_3 uT (upc uT 10 y10 10) g ko2 kp2 w2
  )
def s_T_doWhatIsAgreed0_cut39_1 (uT : Nat → Int32) (F : Nat → Nat → Int32) (y10 : Int32) (g : Nat → Nat → Int32) (ko2 : Nat) (kp2 : Nat → Int32) (w2 : Int32) : (Nat → Nat → Int32) × Nat × (Nat → Int32) × Int32 :=
  if (F 1 8) = 0 then (
    bnd (s_C_receive_D (F 1) (g 1) w2) (fun g11 =>
      s_T_doWhatIsAgreed0_cut39_2 uT F (upc uT 10 y10 10) (tri (g 0) g11 (g 2)) ko2 kp2 w2
    )
  ) else (
    s_T_doWhatIsAgreed0_cut39_2 uT F (upc uT 10 y10 10) g ko2 kp2 w2
  )
def s_T_doWhatIsAgreed0_cut39_0 (uT : Nat → Int32) (F : Nat → Nat → Int32) (y10 : Int32) (g : Nat → Nat → Int32) (ko2 : Nat) (kp2 : Nat → Int32) (w2 : Int32) : (Nat → Nat → Int32) × Nat × (Nat → Int32) × Int32 :=
  if (F 0 8) = 0 then (
    bnd (s_C_receive_D (F 0) (g 0) w2) (fun g16 =>
      s_T_doWhatIsAgreed0_cut39_1 uT F (upc uT 10 y10 10) (tri g16 (g 1) (g 2)) ko2 kp2 w2
    )
  ) else (
    s_T_doWhatIsAgreed0_cut39_1 uT F (upc uT 10 y10 10) g ko2 kp2 w2
  )
def s_T_doWhatIsAgreed0 (uT : Nat → Int32) (F : Nat → Nat → Int32) (g : Nat → Nat → Int32) (kN : Nat) (wN : Nat → Int32) (ko : Nat) (kp : Nat → Int32) : (Nat → Nat → Int32) × Nat × (Nat → Int32) × Int32 :=
  if (F 0 2) = 1 then (
    bnd (s_T_takeWord uT kN wN) (fun (r22, y1024) =>
      s_T_doWhatIsAgreed0_cut39_0 uT F (upc uT 10 y1024 10) g ko kp r22
    )
  ) else (
    if (F 0 2) = 2 then (
      bnd (s_O_add ko kp (F 0 3)) (fun w221 =>
        s_T_doWhatIsAgreed0_cut39_0 uT F (uT 10) g (ko + 1) w221 0
      )
    ) else (
      s_T_doWhatIsAgreed0_cut39_0 uT F (uT 10) g ko kp 0
    )
  )

def s_T_doWhatIsAgreed1_cut39_3 (uT : Nat → Int32) (y10 : Int32) (g : Nat → Nat → Int32) (ko2 : Nat) (kp2 : Nat → Int32) (w2 : Int32) : (Nat → Nat → Int32) × Nat × (Nat → Int32) × Int32 :=
  (g, ko2, kp2, upc uT 10 y10 10)
def s_T_doWhatIsAgreed1_cut39_2 (uT : Nat → Int32) (F : Nat → Nat → Int32) (y10 : Int32) (g : Nat → Nat → Int32) (ko2 : Nat) (kp2 : Nat → Int32) (w2 : Int32) : (Nat → Nat → Int32) × Nat × (Nat → Int32) × Int32 :=
  if (F 2 8) = 0 then (
    bnd (s_C_receive_D (F 2) (g 2) w2) (fun g6 =>
      s_T_doWhatIsAgreed1_cut39_3 uT (upc uT 10 y10 10) (tri (g 0) (g 1) g6) ko2 kp2 w2
    )
  ) else (
    s_T_doWhatIsAgreed1_cut39_3 uT (upc uT 10 y10 10) g ko2 kp2 w2
  )
def s_T_doWhatIsAgreed1_cut39_1 (uT : Nat → Int32) (F : Nat → Nat → Int32) (y10 : Int32) (g : Nat → Nat → Int32) (ko2 : Nat) (kp2 : Nat → Int32) (w2 : Int32) : (Nat → Nat → Int32) × Nat × (Nat → Int32) × Int32 :=
  if (F 1 8) = 0 then (
    bnd (s_C_receive_D (F 1) (g 1) w2) (fun g11 =>
      s_T_doWhatIsAgreed1_cut39_2 uT F (upc uT 10 y10 10) (tri (g 0) g11 (g 2)) ko2 kp2 w2
    )
  ) else (
    s_T_doWhatIsAgreed1_cut39_2 uT F (upc uT 10 y10 10) g ko2 kp2 w2
  )
def s_T_doWhatIsAgreed1_cut39_0 (uT : Nat → Int32) (F : Nat → Nat → Int32) (y10 : Int32) (g : Nat → Nat → Int32) (ko2 : Nat) (kp2 : Nat → Int32) (w2 : Int32) : (Nat → Nat → Int32) × Nat × (Nat → Int32) × Int32 :=
  if (F 0 8) = 0 then (
    bnd (s_C_receive_D (F 0) (g 0) w2) (fun g16 =>
      s_T_doWhatIsAgreed1_cut39_1 uT F (upc uT 10 y10 10) (tri g16 (g 1) (g 2)) ko2 kp2 w2
    )
  ) else (
    s_T_doWhatIsAgreed1_cut39_1 uT F (upc uT 10 y10 10) g ko2 kp2 w2
  )
def s_T_doWhatIsAgreed1 (uT : Nat → Int32) (F : Nat → Nat → Int32) (g : Nat → Nat → Int32) (kN : Nat) (wN : Nat → Int32) (ko : Nat) (kp : Nat → Int32) : (Nat → Nat → Int32) × Nat × (Nat → Int32) × Int32 :=
  if (F 1 2) = 1 then (
    bnd (s_T_takeWord uT kN wN) (fun (r22, y1024) =>
      s_T_doWhatIsAgreed1_cut39_0 uT F (upc uT 10 y1024 10) g ko kp r22
    )
  ) else (
    if (F 1 2) = 2 then (
      bnd (s_O_add ko kp (F 1 3)) (fun w221 =>
        s_T_doWhatIsAgreed1_cut39_0 uT F (uT 10) g (ko + 1) w221 0
      )
    ) else (
      s_T_doWhatIsAgreed1_cut39_0 uT F (uT 10) g ko kp 0
    )
  )

def s_T_doWhatIsAgreed2_cut39_3 (uT : Nat → Int32) (y10 : Int32) (g : Nat → Nat → Int32) (ko2 : Nat) (kp2 : Nat → Int32) (w2 : Int32) : (Nat → Nat → Int32) × Nat × (Nat → Int32) × Int32 :=
  (g, ko2, kp2, upc uT 10 y10 10)
def s_T_doWhatIsAgreed2_cut39_2 (uT : Nat → Int32) (F : Nat → Nat → Int32) (y10 : Int32) (g : Nat → Nat → Int32) (ko2 : Nat) (kp2 : Nat → Int32) (w2 : Int32) : (Nat → Nat → Int32) × Nat × (Nat → Int32) × Int32 :=
  if (F 2 8) = 0 then (
    bnd (s_C_receive_D (F 2) (g 2) w2) (fun g6 =>
      s_T_doWhatIsAgreed2_cut39_3 uT (upc uT 10 y10 10) (tri (g 0) (g 1) g6) ko2 kp2 w2
    )
  ) else (
    s_T_doWhatIsAgreed2_cut39_3 uT (upc uT 10 y10 10) g ko2 kp2 w2
  )
def s_T_doWhatIsAgreed2_cut39_1 (uT : Nat → Int32) (F : Nat → Nat → Int32) (y10 : Int32) (g : Nat → Nat → Int32) (ko2 : Nat) (kp2 : Nat → Int32) (w2 : Int32) : (Nat → Nat → Int32) × Nat × (Nat → Int32) × Int32 :=
  if (F 1 8) = 0 then (
    bnd (s_C_receive_D (F 1) (g 1) w2) (fun g11 =>
      s_T_doWhatIsAgreed2_cut39_2 uT F (upc uT 10 y10 10) (tri (g 0) g11 (g 2)) ko2 kp2 w2
    )
  ) else (
    s_T_doWhatIsAgreed2_cut39_2 uT F (upc uT 10 y10 10) g ko2 kp2 w2
  )
def s_T_doWhatIsAgreed2_cut39_0 (uT : Nat → Int32) (F : Nat → Nat → Int32) (y10 : Int32) (g : Nat → Nat → Int32) (ko2 : Nat) (kp2 : Nat → Int32) (w2 : Int32) : (Nat → Nat → Int32) × Nat × (Nat → Int32) × Int32 :=
  if (F 0 8) = 0 then (
    bnd (s_C_receive_D (F 0) (g 0) w2) (fun g16 =>
      s_T_doWhatIsAgreed2_cut39_1 uT F (upc uT 10 y10 10) (tri g16 (g 1) (g 2)) ko2 kp2 w2
    )
  ) else (
    s_T_doWhatIsAgreed2_cut39_1 uT F (upc uT 10 y10 10) g ko2 kp2 w2
  )
def s_T_doWhatIsAgreed2 (uT : Nat → Int32) (F : Nat → Nat → Int32) (g : Nat → Nat → Int32) (kN : Nat) (wN : Nat → Int32) (ko : Nat) (kp : Nat → Int32) : (Nat → Nat → Int32) × Nat × (Nat → Int32) × Int32 :=
  if (F 2 2) = 1 then (
    bnd (s_T_takeWord uT kN wN) (fun (r22, y1024) =>
      s_T_doWhatIsAgreed2_cut39_0 uT F (upc uT 10 y1024 10) g ko kp r22
    )
  ) else (
    if (F 2 2) = 2 then (
      bnd (s_O_add ko kp (F 2 3)) (fun w221 =>
        s_T_doWhatIsAgreed2_cut39_0 uT F (uT 10) g (ko + 1) w221 0
      )
    ) else (
      s_T_doWhatIsAgreed2_cut39_0 uT F (uT 10) g ko kp 0
    )
  )

def s_T_storeInCopies_cut36_3  (v : Nat → Nat → Int32) (w1 : Int32) (w2 : Int32) : (Nat → Nat → Int32) :=
  v
def s_T_storeInCopies_cut36_2 (F : Nat → Nat → Int32) (v : Nat → Nat → Int32) (w1 : Int32) (w2 : Int32) : (Nat → Nat → Int32) :=
  if (F 2 8) = 1 then (
    if (F 2 9) ≤ w2 then (
      s_T_storeInCopies_cut36_3 v w1 w2
    ) else (
      if w1 = 0 then (
        bnd (s_D_writeWord (v 2) w2 (F 0 6)) (fun cd27 =>
          s_T_storeInCopies_cut36_3 (tri (v 0) (v 1) cd27) 0 w2
        )
      ) else (
        if w1 = 1 then (
          bnd (s_D_writeWord (v 2) w2 (F 1 6)) (fun cd210 =>
            s_T_storeInCopies_cut36_3 (tri (v 0) (v 1) cd210) 1 w2
          )
        ) else (
          bnd (s_D_writeWord (v 2) w2 (F 2 6)) (fun cd213 =>
            s_T_storeInCopies_cut36_3 (tri (v 0) (v 1) cd213) 2 w2
          )
        )
      )
    )
  ) else (
    s_T_storeInCopies_cut36_3 v w1 w2
  )
def s_T_storeInCopies_cut36_1 (F : Nat → Nat → Int32) (v : Nat → Nat → Int32) (w1 : Int32) (w2 : Int32) : (Nat → Nat → Int32) :=
  if (F 1 8) = 1 then (
    if (F 1 9) ≤ w2 then (
      s_T_storeInCopies_cut36_2 F v w1 w2
    ) else (
      if w1 = 0 then (
        bnd (s_D_writeWord (v 1) w2 (F 0 6)) (fun cd219 =>
          s_T_storeInCopies_cut36_2 F (tri (v 0) cd219 (v 2)) 0 w2
        )
      ) else (
        if w1 = 1 then (
          bnd (s_D_writeWord (v 1) w2 (F 1 6)) (fun cd222 =>
            s_T_storeInCopies_cut36_2 F (tri (v 0) cd222 (v 2)) 1 w2
          )
        ) else (
          bnd (s_D_writeWord (v 1) w2 (F 2 6)) (fun cd225 =>
            s_T_storeInCopies_cut36_2 F (tri (v 0) cd225 (v 2)) 2 w2
          )
        )
      )
    )
  ) else (
    s_T_storeInCopies_cut36_2 F v w1 w2
  )
def s_T_storeInCopies_cut36_0 (F : Nat → Nat → Int32) (v : Nat → Nat → Int32) (w1 : Int32) (w2 : Int32) : (Nat → Nat → Int32) :=
  if (F 0 8) = 1 then (
    if (F 0 9) ≤ w2 then (
      s_T_storeInCopies_cut36_1 F v w1 w2
    ) else (
      if w1 = 0 then (
        bnd (s_D_writeWord (v 0) w2 (F 0 6)) (fun cd231 =>
          s_T_storeInCopies_cut36_1 F (tri cd231 (v 1) (v 2)) 0 w2
        )
      ) else (
        if w1 = 1 then (
          bnd (s_D_writeWord (v 0) w2 (F 1 6)) (fun cd234 =>
            s_T_storeInCopies_cut36_1 F (tri cd234 (v 1) (v 2)) 1 w2
          )
        ) else (
          bnd (s_D_writeWord (v 0) w2 (F 2 6)) (fun cd237 =>
            s_T_storeInCopies_cut36_1 F (tri cd237 (v 1) (v 2)) 2 w2
          )
        )
      )
    )
  ) else (
    s_T_storeInCopies_cut36_1 F v w1 w2
  )
def s_T_storeInCopies (F : Nat → Nat → Int32) (v : Nat → Nat → Int32) : (Nat → Nat → Int32) :=
  bnd (s_T_lowestTrusted F) (fun r38 =>
    if r38 = (-1) then (
      v
    ) else (
      if r38 = 0 then (
        if (F 0 5) = (-1) then (
          v
        ) else (
          s_T_storeInCopies_cut36_0 F v 0 (F 0 5)
        )
      ) else (
        if r38 = 1 then (
          if (F 1 5) = (-1) then (
            v
          ) else (
            s_T_storeInCopies_cut36_0 F v 1 (F 1 5)
          )
        ) else (
          if (F 2 5) = (-1) then (
            v
          ) else (
            s_T_storeInCopies_cut36_0 F v 2 (F 2 5)
          )
        )
      )
    )
  )

def s_T_scrub_cut89_3  (F : Nat → Nat → Int32) (v : Nat → Nat → Int32) : Int32 × (Nat → Nat → Int32) × (Nat → Nat → Int32) :=
  (1, F, v)
def s_T_scrub_cut89_2  (F : Nat → Nat → Int32) (v : Nat → Nat → Int32) : Int32 × (Nat → Nat → Int32) × (Nat → Nat → Int32) :=
  if (F 2 17) = 0 then (
    s_T_scrub_cut89_3 F v
  ) else (
    bnd (s_D_blameLater (F 2)) (fun F26 =>
      s_T_scrub_cut89_3 (tri (F 0) (F 1) F26) v
    )
  )
def s_T_scrub_cut89_1  (F : Nat → Nat → Int32) (v : Nat → Nat → Int32) : Int32 × (Nat → Nat → Int32) × (Nat → Nat → Int32) :=
  if (F 1 17) = 0 then (
    s_T_scrub_cut89_2 F v
  ) else (
    bnd (s_D_blameLater (F 1)) (fun F211 =>
      s_T_scrub_cut89_2 (tri (F 0) F211 (F 2)) v
    )
  )
def s_T_scrub_cut89_0  (F : Nat → Nat → Int32) (v : Nat → Nat → Int32) : Int32 × (Nat → Nat → Int32) × (Nat → Nat → Int32) :=
  if (F 0 17) = 0 then (
    s_T_scrub_cut89_1 F v
  ) else (
    bnd (s_D_blameLater (F 0)) (fun F216 =>
      s_T_scrub_cut89_1 (tri F216 (F 1) (F 2)) v
    )
  )
def s_T_scrub_cut12_3  (F : Nat → Nat → Int32) (v : Nat → Nat → Int32) (w2 : Int32) : Int32 × (Nat → Nat → Int32) × (Nat → Nat → Int32) :=
  bnd (s_T_countTrusted F) (fun r18 =>
    if w2 = r18 then (
      (0, F, v)
    ) else (
      s_T_scrub_cut89_0 F v
    )
  )
def s_T_scrub_cut12_2 (uT : Nat → Int32) (F : Nat → Nat → Int32) (v : Nat → Nat → Int32) (w2 : Int32) : Int32 × (Nat → Nat → Int32) × (Nat → Nat → Int32) :=
  if (bI (trB (F 2))) = 0 then (
    s_T_scrub_cut12_3 (tri (F 0) (F 1) (upc (F 2) 17 (0 : Int32))) v w2
  ) else (
    bnd (s_D_findsSpoilt (F 2) (v 2) ((uT 8) - (uT 8) / (32 : Int32) * (32 : Int32))) (fun (r26, x1328, cd229) =>
      if r26 = 0 then (
        s_T_scrub_cut12_3 (tri (F 0) (F 1) (upc (upc (F 2) 13 x1328) 17 (0 : Int32))) (tri (v 0) (v 1) cd229) w2
      ) else (
        s_T_scrub_cut12_3 (tri (F 0) (F 1) (upc (upc (F 2) 13 x1328) 17 (1 : Int32))) (tri (v 0) (v 1) cd229) (w2 + 1)
      )
    )
  )
def s_T_scrub_cut12_1 (uT : Nat → Int32) (F : Nat → Nat → Int32) (v : Nat → Nat → Int32) (w2 : Int32) : Int32 × (Nat → Nat → Int32) × (Nat → Nat → Int32) :=
  if (bI (trB (F 1))) = 0 then (
    s_T_scrub_cut12_2 uT (tri (F 0) (upc (F 1) 17 (0 : Int32)) (F 2)) v w2
  ) else (
    bnd (s_D_findsSpoilt (F 1) (v 1) ((uT 8) - (uT 8) / (32 : Int32) * (32 : Int32))) (fun (r38, x1340, cd241) =>
      if r38 = 0 then (
        s_T_scrub_cut12_2 uT (tri (F 0) (upc (upc (F 1) 13 x1340) 17 (0 : Int32)) (F 2)) (tri (v 0) cd241 (v 2)) w2
      ) else (
        s_T_scrub_cut12_2 uT (tri (F 0) (upc (upc (F 1) 13 x1340) 17 (1 : Int32)) (F 2)) (tri (v 0) cd241 (v 2)) (w2 + 1)
      )
    )
  )
def s_T_scrub (uT : Nat → Int32) (F : Nat → Nat → Int32) (v : Nat → Nat → Int32) : Int32 × (Nat → Nat → Int32) × (Nat → Nat → Int32) :=
  if (bI (trB (F 0))) = 0 then (
    s_T_scrub_cut12_1 uT (tri (upc (F 0) 17 (0 : Int32)) (F 1) (F 2)) v 0
  ) else (
    bnd (s_D_findsSpoilt (F 0) (v 0) ((uT 8) - (uT 8) / (32 : Int32) * (32 : Int32))) (fun (r50, x1352, cd253) =>
      if r50 = 0 then (
        s_T_scrub_cut12_1 uT (tri (upc (upc (F 0) 13 x1352) 17 (0 : Int32)) (F 1) (F 2)) (tri cd253 (v 1) (v 2)) 0
      ) else (
        s_T_scrub_cut12_1 uT (tri (upc (upc (F 0) 13 x1352) 17 (1 : Int32)) (F 1) (F 2)) (tri cd253 (v 1) (v 2)) 1
      )
    )
  )

def s_T_compareDigests_cv75  (F : Nat → Nat → Int32) : Int32 × (Nat → Nat → Int32) :=
  bnd (s_T_oneOfTheAlikePair F) (fun r1 =>
    if r1 = (-1) then (
      (0, F)
    ) else (
      if r1 = 0 then (
        bnd (s_T_nameAllUnlike F (F 0 18)) (fun F27 =>
          (1, F27)
        )
      ) else (
        if r1 = 1 then (
          bnd (s_T_nameAllUnlike F (F 1 18)) (fun F211 =>
            (1, F211)
          )
        ) else (
          bnd (s_T_nameAllUnlike F (F 2 18)) (fun F215 =>
            (1, F215)
          )
        )
      )
    )
  )
def s_T_compareDigests_cut24_3  (F : Nat → Nat → Int32) (w1 : Int32) : Int32 × (Nat → Nat → Int32) :=
  if w1 = 0 then (
    bnd (s_T_countBallots F (F 0 18)) (fun r17 =>
      bnd (s_T_countTrusted F) (fun r19 =>
        if r17 = r19 then (
          (1, F)
        ) else (
          s_T_compareDigests_cv75 F
        )
      )
    )
  ) else (
    if w1 = 1 then (
      bnd (s_T_countBallots F (F 1 18)) (fun r22 =>
        bnd (s_T_countTrusted F) (fun r24 =>
          if r22 = r24 then (
            (1, F)
          ) else (
            s_T_compareDigests_cv75 F
          )
        )
      )
    ) else (
      bnd (s_T_countBallots F (F 2 18)) (fun r27 =>
        bnd (s_T_countTrusted F) (fun r29 =>
          if r27 = r29 then (
            (1, F)
          ) else (
            s_T_compareDigests_cv75 F
          )
        )
      )
    )
  )
def s_T_compareDigests_cut24_2 (g : Nat → Nat → Int32) (F : Nat → Nat → Int32) (w1 : Int32) : Int32 × (Nat → Nat → Int32) :=
  bnd (s_D_digest (F 2) (g 2)) (fun r33 =>
    s_T_compareDigests_cut24_3 (tri (F 0) (F 1) (upc (F 2) 18 r33)) w1
  )
def s_T_compareDigests_cut24_1 (g : Nat → Nat → Int32) (F : Nat → Nat → Int32) (w1 : Int32) : Int32 × (Nat → Nat → Int32) :=
  bnd (s_D_digest (F 1) (g 1)) (fun r36 =>
    s_T_compareDigests_cut24_2 g (tri (F 0) (upc (F 1) 18 r36) (F 2)) w1
  )
def s_T_compareDigests_cut24_0 (g : Nat → Nat → Int32) (F : Nat → Nat → Int32) (w1 : Int32) : Int32 × (Nat → Nat → Int32) :=
  bnd (s_D_digest (F 0) (g 0)) (fun r39 =>
    s_T_compareDigests_cut24_1 g (tri (upc (F 0) 18 r39) (F 1) (F 2)) w1
  )
def s_T_compareDigests (uT : Nat → Int32) (F : Nat → Nat → Int32) (g : Nat → Nat → Int32) : Int32 × (Nat → Nat → Int32) :=
  bnd (s_T_lowestTrusted F) (fun r41 =>
    if r41 = (-1) then (
      if ((uT 8) - (uT 8) / (16 : Int32) * (16 : Int32)) = 0 then (
        (1, F)
      ) else (
        (1, F)
      )
    ) else (
      if r41 = 0 then (
        if ((uT 8) - (uT 8) / (16 : Int32) * (16 : Int32)) = 0 then (
          s_T_compareDigests_cut24_0 g F 0
        ) else (
          (1, F)
        )
      ) else (
        if r41 = 1 then (
          if ((uT 8) - (uT 8) / (16 : Int32) * (16 : Int32)) = 0 then (
            s_T_compareDigests_cut24_0 g F 1
          ) else (
            (1, F)
          )
        ) else (
          if ((uT 8) - (uT 8) / (16 : Int32) * (16 : Int32)) = 0 then (
            s_T_compareDigests_cut24_0 g F 2
          ) else (
            (1, F)
          )
        )
      )
    )
  )

def s_T_blameNamed_cut2_3 (uT : Nat → Int32) (F : Nat → Nat → Int32) : Int32 × (Nat → Nat → Int32) :=
  bnd (s_T_countInStep F) (fun r2 =>
    (bI (cgB uT r2), F)
  )
def s_T_blameNamed_cut2_2 (uT : Nat → Int32) (F : Nat → Nat → Int32) : Int32 × (Nat → Nat → Int32) :=
  if (F 2 15) = 0 then (
    s_T_blameNamed_cut2_3 uT F
  ) else (
    bnd (s_D_takeBlame (F 2)) (fun F210 =>
      s_T_blameNamed_cut2_3 uT (tri (F 0) (F 1) F210)
    )
  )
def s_T_blameNamed_cut2_1 (uT : Nat → Int32) (F : Nat → Nat → Int32) : Int32 × (Nat → Nat → Int32) :=
  if (F 1 15) = 0 then (
    s_T_blameNamed_cut2_2 uT F
  ) else (
    bnd (s_D_takeBlame (F 1)) (fun F215 =>
      s_T_blameNamed_cut2_2 uT (tri (F 0) F215 (F 2))
    )
  )
def s_T_blameNamed (uT : Nat → Int32) (F : Nat → Nat → Int32) : Int32 × (Nat → Nat → Int32) :=
  if (F 0 15) = 0 then (
    s_T_blameNamed_cut2_1 uT F
  ) else (
    bnd (s_D_takeBlame (F 0)) (fun F220 =>
      s_T_blameNamed_cut2_1 uT (tri F220 (F 1) (F 2))
    )
  )

def s_T_copyOn_cut13_3  (F : Nat → Nat → Int32) (g : Nat → Nat → Int32) (v : Nat → Nat → Int32) (w1 : Int32) : (Nat → Nat → Int32) × (Nat → Nat → Int32) × (Nat → Nat → Int32) :=
  (F, g, v)
def s_T_copyOn_cut13_2  (F : Nat → Nat → Int32) (g : Nat → Nat → Int32) (v : Nat → Nat → Int32) (w1 : Int32) : (Nat → Nat → Int32) × (Nat → Nat → Int32) × (Nat → Nat → Int32) :=
  if w1 = 0 then (
    if (F 2 8) = 1 then (
      if (F 2 15) = 0 then (
        bnd (s_D_copyNextFrom (F 2) (g 2) (v 2) (F 0) (g 0) (v 0)) (fun (F58, g59, c510) =>
          s_T_copyOn_cut13_3 (tri (F 0) (F 1) F58) (tri (g 0) (g 1) g59) (tri (v 0) (v 1) c510) 0
        )
      ) else (
        s_T_copyOn_cut13_3 F g v 0
      )
    ) else (
      s_T_copyOn_cut13_3 F g v 0
    )
  ) else (
    if w1 = 1 then (
      if (F 2 8) = 1 then (
        if (F 2 15) = 0 then (
          bnd (s_D_copyNextFrom (F 2) (g 2) (v 2) (F 1) (g 1) (v 1)) (fun (F515, g516, c517) =>
            s_T_copyOn_cut13_3 (tri (F 0) (F 1) F515) (tri (g 0) (g 1) g516) (tri (v 0) (v 1) c517) 1
          )
        ) else (
          s_T_copyOn_cut13_3 F g v 1
        )
      ) else (
        s_T_copyOn_cut13_3 F g v 1
      )
    ) else (
      s_T_copyOn_cut13_3 F g v 2
    )
  )
def s_T_copyOn_cut13_1  (F : Nat → Nat → Int32) (g : Nat → Nat → Int32) (v : Nat → Nat → Int32) (w1 : Int32) : (Nat → Nat → Int32) × (Nat → Nat → Int32) × (Nat → Nat → Int32) :=
  if w1 = 0 then (
    if (F 1 8) = 1 then (
      if (F 1 15) = 0 then (
        bnd (s_D_copyNextFrom (F 1) (g 1) (v 1) (F 0) (g 0) (v 0)) (fun (F525, g526, c527) =>
          s_T_copyOn_cut13_2 (tri (F 0) F525 (F 2)) (tri (g 0) g526 (g 2)) (tri (v 0) c527 (v 2)) 0
        )
      ) else (
        s_T_copyOn_cut13_2 F g v 0
      )
    ) else (
      s_T_copyOn_cut13_2 F g v 0
    )
  ) else (
    if w1 = 1 then (
      s_T_copyOn_cut13_2 F g v 1
    ) else (
      if (F 1 8) = 1 then (
        if (F 1 15) = 0 then (
          bnd (s_D_copyNextFrom (F 1) (g 1) (v 1) (F 2) (g 2) (v 2)) (fun (F533, g534, c535) =>
            s_T_copyOn_cut13_2 (tri (F 0) F533 (F 2)) (tri (g 0) g534 (g 2)) (tri (v 0) c535 (v 2)) 2
          )
        ) else (
          s_T_copyOn_cut13_2 F g v 2
        )
      ) else (
        s_T_copyOn_cut13_2 F g v 2
      )
    )
  )
def s_T_copyOn_cut13_0  (F : Nat → Nat → Int32) (g : Nat → Nat → Int32) (v : Nat → Nat → Int32) (w1 : Int32) : (Nat → Nat → Int32) × (Nat → Nat → Int32) × (Nat → Nat → Int32) :=
  if w1 = 0 then (
    s_T_copyOn_cut13_1 F g v 0
  ) else (
    if w1 = 1 then (
      if (F 0 8) = 1 then (
        if (F 0 15) = 0 then (
          bnd (s_D_copyNextFrom (F 0) (g 0) (v 0) (F 1) (g 1) (v 1)) (fun (F543, g544, c545) =>
            s_T_copyOn_cut13_1 (tri F543 (F 1) (F 2)) (tri g544 (g 1) (g 2)) (tri c545 (v 1) (v 2)) 1
          )
        ) else (
          s_T_copyOn_cut13_1 F g v 1
        )
      ) else (
        s_T_copyOn_cut13_1 F g v 1
      )
    ) else (
      if (F 0 8) = 1 then (
        if (F 0 15) = 0 then (
          bnd (s_D_copyNextFrom (F 0) (g 0) (v 0) (F 2) (g 2) (v 2)) (fun (F550, g551, c552) =>
            s_T_copyOn_cut13_1 (tri F550 (F 1) (F 2)) (tri g551 (g 1) (g 2)) (tri c552 (v 1) (v 2)) 2
          )
        ) else (
          s_T_copyOn_cut13_1 F g v 2
        )
      ) else (
        s_T_copyOn_cut13_1 F g v 2
      )
    )
  )
def s_T_copyOn (F : Nat → Nat → Int32) (g : Nat → Nat → Int32) (v : Nat → Nat → Int32) : (Nat → Nat → Int32) × (Nat → Nat → Int32) × (Nat → Nat → Int32) :=
  bnd (s_T_lowestTrusted F) (fun r53 =>
    if r53 = (-1) then (
      (F, g, v)
    ) else (
      if r53 = 0 then (
        s_T_copyOn_cut13_0 F g v 0
      ) else (
        if r53 = 1 then (
          s_T_copyOn_cut13_0 F g v 1
        ) else (
          s_T_copyOn_cut13_0 F g v 2
        )
      )
    )
  )

def s_T_forgive_cut12_3  (F : Nat → Nat → Int32) : (Nat → Nat → Int32) :=
  F
def s_T_forgive_cut12_2  (F : Nat → Nat → Int32) : (Nat → Nat → Int32) :=
  if (F 2 10) ≤ 0 then (
    s_T_forgive_cut12_3 F
  ) else (
    s_T_forgive_cut12_3 (tri (F 0) (F 1) (upc (F 2) 10 ((F 2 10) - (1 : Int32))))
  )
def s_T_forgive_cut12_1  (F : Nat → Nat → Int32) : (Nat → Nat → Int32) :=
  if (F 1 10) ≤ 0 then (
    s_T_forgive_cut12_2 F
  ) else (
    s_T_forgive_cut12_2 (tri (F 0) (upc (F 1) 10 ((F 1 10) - (1 : Int32))) (F 2))
  )
def s_T_forgive (uT : Nat → Int32) (F : Nat → Nat → Int32) : (Nat → Nat → Int32) :=
  if ((uT 8) - (uT 8) / (4 : Int32) * (4 : Int32)) = 0 then (
    if (F 0 10) ≤ 0 then (
      s_T_forgive_cut12_1 F
    ) else (
      s_T_forgive_cut12_1 (tri (upc (F 0) 10 ((F 0 10) - (1 : Int32))) (F 1) (F 2))
    )
  ) else (
    F
  )

def s_T_doInstructions_cut2_3  (F : Nat → Nat → Int32) (g : Nat → Nat → Int32) (v : Nat → Nat → Int32) : (Nat → Nat → Int32) × (Nat → Nat → Int32) × (Nat → Nat → Int32) :=
  (F, g, v)
def s_T_doInstructions_cut2_2 (cn : Nat) (f : Nat → Int32) (F : Nat → Nat → Int32) (g : Nat → Nat → Int32) (v : Nat → Nat → Int32) : (Nat → Nat → Int32) × (Nat → Nat → Int32) × (Nat → Nat → Int32) :=
  if (flF (F 2) 8) = 0 then (
    if (flF (F 2) 12) = 0 then (
      bnd (s_C_execute_D (flF (F 2)) (g 2) (v 2) cn f) (fun (F210, g11, cd212) =>
        if (F210 11) = 0 then (
          s_T_doInstructions_cut2_3 (tri (F 0) (F 1) F210) (tri (g 0) (g 1) g11) (tri (v 0) (v 1) cd212)
        ) else (
          s_T_doInstructions_cut2_3 (tri (F 0) (F 1) (clW F210)) (tri (g 0) (g 1) g11) (tri (v 0) (v 1) cd212)
        )
      )
    ) else (
      bnd (s_C_passOver_D (upc (flF (F 2)) 12 (0 : Int32)) cn) (fun x119 =>
        if (upc (upc (flF (F 2)) 12 (0 : Int32)) 1 x119 11) = 0 then (
          s_T_doInstructions_cut2_3 (tri (F 0) (F 1) (upc (upc (flF (F 2)) 12 (0 : Int32)) 1 x119)) g v
        ) else (
          s_T_doInstructions_cut2_3 (tri (F 0) (F 1) (clW (upc (upc (flF (F 2)) 12 (0 : Int32)) 1 x119))) g v
        )
      )
    )
  ) else (
    s_T_doInstructions_cut2_3 (tri (F 0) (F 1) (flF (F 2))) g v
  )
def s_T_doInstructions_cut2_1 (cn : Nat) (f : Nat → Int32) (F : Nat → Nat → Int32) (g : Nat → Nat → Int32) (v : Nat → Nat → Int32) : (Nat → Nat → Int32) × (Nat → Nat → Int32) × (Nat → Nat → Int32) :=
  if (flF (F 1) 8) = 0 then (
    if (flF (F 1) 12) = 0 then (
      bnd (s_C_execute_D (flF (F 1)) (g 1) (v 1) cn f) (fun (F232, g33, cd234) =>
        if (F232 11) = 0 then (
          s_T_doInstructions_cut2_2 cn f (tri (F 0) F232 (F 2)) (tri (g 0) g33 (g 2)) (tri (v 0) cd234 (v 2))
        ) else (
          s_T_doInstructions_cut2_2 cn f (tri (F 0) (clW F232) (F 2)) (tri (g 0) g33 (g 2)) (tri (v 0) cd234 (v 2))
        )
      )
    ) else (
      bnd (s_C_passOver_D (upc (flF (F 1)) 12 (0 : Int32)) cn) (fun x141 =>
        if (upc (upc (flF (F 1)) 12 (0 : Int32)) 1 x141 11) = 0 then (
          s_T_doInstructions_cut2_2 cn f (tri (F 0) (upc (upc (flF (F 1)) 12 (0 : Int32)) 1 x141) (F 2)) g v
        ) else (
          s_T_doInstructions_cut2_2 cn f (tri (F 0) (clW (upc (upc (flF (F 1)) 12 (0 : Int32)) 1 x141)) (F 2)) g v
        )
      )
    )
  ) else (
    s_T_doInstructions_cut2_2 cn f (tri (F 0) (flF (F 1)) (F 2)) g v
  )
def s_T_doInstructions (F : Nat → Nat → Int32) (g : Nat → Nat → Int32) (v : Nat → Nat → Int32) (cn : Nat) (f : Nat → Int32) : (Nat → Nat → Int32) × (Nat → Nat → Int32) × (Nat → Nat → Int32) :=
  if (flF (F 0) 8) = 0 then (
    if (flF (F 0) 12) = 0 then (
      bnd (s_C_execute_D (flF (F 0)) (g 0) (v 0) cn f) (fun (F254, g55, cd256) =>
        if (F254 11) = 0 then (
          s_T_doInstructions_cut2_1 cn f (tri F254 (F 1) (F 2)) (tri g55 (g 1) (g 2)) (tri cd256 (v 1) (v 2))
        ) else (
          s_T_doInstructions_cut2_1 cn f (tri (clW F254) (F 1) (F 2)) (tri g55 (g 1) (g 2)) (tri cd256 (v 1) (v 2))
        )
      )
    ) else (
      bnd (s_C_passOver_D (upc (flF (F 0)) 12 (0 : Int32)) cn) (fun x163 =>
        if (upc (upc (flF (F 0)) 12 (0 : Int32)) 1 x163 11) = 0 then (
          s_T_doInstructions_cut2_1 cn f (tri (upc (upc (flF (F 0)) 12 (0 : Int32)) 1 x163) (F 1) (F 2)) g v
        ) else (
          s_T_doInstructions_cut2_1 cn f (tri (clW (upc (upc (flF (F 0)) 12 (0 : Int32)) 1 x163)) (F 1) (F 2)) g v
        )
      )
    )
  ) else (
    s_T_doInstructions_cut2_1 cn f (tri (flF (F 0)) (F 1) (F 2)) g v
  )

def s_P_put (cn : Nat) (f : Nat → Int32) (i : Int32) (w : Int32) : Int32 × Nat × (Nat → Int32) :=
  if i < 0 then (
    (0, cn, f)
  ) else (
    if (nI cn) < i then (
      (0, cn, f)
    ) else (
      if 64 ≤ i then (
        (0, cn, f)
      ) else (
        if (bI (isIn w)) = 0 then (
          (0, cn, f)
        ) else (
          if i = (nI cn) then (
            (1, cn + 1, upd f (Int32.toNatClampNeg i) w)
          ) else (
            (1, cn, upd f (Int32.toNatClampNeg i) w)
          )
        )
      )
    )
  )

def s_T_program (uT : Nat → Int32) (cn : Nat) (f : Nat → Int32) (x : Int32) (y : Int32) : Int32 × Nat × (Nat → Int32) :=
  if (uT 5) = 0 then (
    bnd (s_P_put cn f x y) (fun (r2, cn24, f25) =>
      if (bI (putB cn x y)) = 0 then (
        (0, pN (putB cn x y) cn x, pF (putB cn x y) f x y)
      ) else (
        (1, pN (putB cn x y) cn x, pF (putB cn x y) f x y)
      )
    )
  ) else (
    (0, cn, f)
  )

def s_T_doOneStep_ca55 (sn : Nat) (uTx : Nat → Int32) (F : Nat → Nat → Int32) (g : Nat → Nat → Int32) (v : Nat → Nat → Int32) (ko : Nat) (kp : Nat → Int32) (Z : Nat → Int32) (eg : Nat → Int32) (ew : Nat → Int32) (ke : Nat) (pe : Nat → Int32) : (Nat → Int32) × (Nat → Nat → Int32) × (Nat → Nat → Int32) × (Nat → Nat → Int32) × Nat × (Nat → Int32) × (Nat → Int32) × (Nat → Int32) × (Nat → Int32) × Nat × (Nat → Int32) × Nat :=
  bnd (s_T_storeInCopies F v) (fun v23 =>
    bnd (s_T_scrub uTx F v23) (fun (r4, F26, v27) =>
      if r4 = 0 then (
        (upc uTx 6 (1 : Int32), F26, g, v27, ko, kp, Z, eg, ew, ke, pe, sn + 1)
      ) else (
        bnd (s_T_compareDigests uTx F26 g) (fun (r9, F211) =>
          if r9 = 0 then (
            (upc uTx 6 (1 : Int32), F211, g, v27, ko, kp, Z, eg, ew, ke, pe, sn + 1)
          ) else (
            bnd (s_T_blameNamed uTx F211) (fun (r13, F215) =>
              if r13 = 0 then (
                (upc uTx 6 (1 : Int32), F215, g, v27, ko, kp, Z, eg, ew, ke, pe, sn + 1)
              ) else (
                bnd (s_T_copyOn F215 g v27) (fun (F219, g220, v221) =>
                  bnd (s_T_forgive uTx F219) (fun F224 =>
                    (uTx, F224, g220, v221, ko, kp, Z, eg, ew, ke, pe, sn + 1)
                  )
                )
              )
            )
          )
        )
      )
    )
  )
def s_T_doOneStep (uT : Nat → Int32) (F : Nat → Nat → Int32) (g : Nat → Nat → Int32) (v : Nat → Nat → Int32) (cn : Nat) (f : Nat → Int32) (kN : Nat) (wN : Nat → Int32) (ko : Nat) (kp : Nat → Int32) (Z : Nat → Int32) (eg : Nat → Int32) (ew : Nat → Int32) (ke : Nat) (pe : Nat → Int32) (sn : Nat) : (Nat → Int32) × (Nat → Nat → Int32) × (Nat → Nat → Int32) × (Nat → Nat → Int32) × Nat × (Nat → Int32) × (Nat → Int32) × (Nat → Int32) × (Nat → Int32) × Nat × (Nat → Int32) × Nat :=
  bnd (s_E_doInstruction Z eg ew cn f kN wN ke pe) (fun (F227, g28, w229, k230, p231) =>
    bnd (s_T_doInstructions F g v cn f) (fun (F234, g235, v236) =>
      bnd (s_T_vote (upc uT 8 ((uT 8) + (1 : Int32))) F234) (fun (r37, F239, y940) =>
        if r37 = (-1) then (
          (upc (upc (upc uT 8 ((uT 8) + (1 : Int32))) 9 y940) 6 (1 : Int32), F239, g235, v236, ko, kp, F227, g28, w229, k230, p231, sn + 1)
        ) else (
          if r37 = 0 then (
            bnd (s_T_doWhatIsAgreed0 (upc (upc uT 8 ((uT 8) + (1 : Int32))) 9 y940) F239 g235 kN wN ko kp) (fun (g245, ko246, kp247, y1048) =>
              s_T_doOneStep_ca55 sn (upc (upc (upc uT 8 ((uT 8) + (1 : Int32))) 9 y940) 10 y1048) F239 g245 v236 ko246 kp247 F227 g28 w229 k230 p231
            )
          ) else (
            if r37 = 1 then (
              bnd (s_T_doWhatIsAgreed1 (upc (upc uT 8 ((uT 8) + (1 : Int32))) 9 y940) F239 g235 kN wN ko kp) (fun (g252, ko253, kp254, y1055) =>
                s_T_doOneStep_ca55 sn (upc (upc (upc uT 8 ((uT 8) + (1 : Int32))) 9 y940) 10 y1055) F239 g252 v236 ko253 kp254 F227 g28 w229 k230 p231
              )
            ) else (
              bnd (s_T_doWhatIsAgreed2 (upc (upc uT 8 ((uT 8) + (1 : Int32))) 9 y940) F239 g235 kN wN ko kp) (fun (g259, ko260, kp261, y1062) =>
                s_T_doOneStep_ca55 sn (upc (upc (upc uT 8 ((uT 8) + (1 : Int32))) 9 y940) 10 y1062) F239 g259 v236 ko260 kp261 F227 g28 w229 k230 p231
              )
            )
          )
        )
      )
    )
  )

def s_T_step_loop (cn : Nat) (f : Nat → Int32) (kN : Nat) (wN : Nat → Int32) : Nat → (Nat) → (Nat → Int32) → (Nat → Nat → Int32) → (Nat → Nat → Int32) → (Nat → Nat → Int32) → (Nat) → (Nat → Int32) → (Nat → Int32) → (Nat → Int32) → (Nat → Int32) → (Nat) → (Nat → Int32) → (Nat) → Int32 × (Nat → Int32) × (Nat → Nat → Int32) × (Nat → Nat → Int32) × (Nat → Nat → Int32) × Nat × (Nat → Int32) × (Nat → Int32) × (Nat → Int32) × (Nat → Int32) × Nat × (Nat → Int32) × Nat
  | 0, i, uTx, F, g, v, ko, kp, Z, eg, ew, ke, pe, snx =>
    (nI i, uTx, F, g, v, ko, kp, Z, eg, ew, ke, pe, snx)
  | nn9 + 1, i, uTx, F, g, v, ko, kp, Z, eg, ew, ke, pe, snx =>
    if (uTx 6) = 0 then (
      bnd (s_T_doOneStep uTx F g v cn f kN wN ko kp Z eg ew ke pe snx) (fun (uT26, F27, g28, v29, ko210, kp211, Z212, eg213, ew214, ke215, pe216, sn217) =>
        s_T_step_loop cn f kN wN nn9 (i + 1) uT26 F27 g28 v29 ko210 kp211 Z212 eg213 ew214 ke215 pe216 sn217
      )
    ) else (
      (nI i, uTx, F, g, v, ko, kp, Z, eg, ew, ke, pe, snx)
    )
def s_T_step (uT : Nat → Int32) (F : Nat → Nat → Int32) (g : Nat → Nat → Int32) (v : Nat → Nat → Int32) (cn : Nat) (f : Nat → Int32) (kN : Nat) (wN : Nat → Int32) (ko : Nat) (kp : Nat → Int32) (Z : Nat → Int32) (eg : Nat → Int32) (ew : Nat → Int32) (ke : Nat) (pe : Nat → Int32) (sn : Nat) (xN : Nat) : Int32 × (Nat → Int32) × (Nat → Nat → Int32) × (Nat → Nat → Int32) × (Nat → Nat → Int32) × Nat × (Nat → Int32) × (Nat → Int32) × (Nat → Int32) × (Nat → Int32) × Nat × (Nat → Int32) × Nat :=
  s_T_step_loop cn f kN wN xN 0 uT F g v ko kp Z eg ew ke pe sn

def s_T_start_cut14_3 (uT : Nat → Int32) (Z : Nat → Int32) (eg : Nat → Int32) (ew : Nat → Int32) (F : Nat → Nat → Int32) (g : Nat → Nat → Int32) (v : Nat → Nat → Int32) : Int32 × (Nat → Int32) × (Nat → Nat → Int32) × (Nat → Nat → Int32) × (Nat → Nat → Int32) × Nat × Nat × (Nat → Int32) × (Nat → Int32) × (Nat → Int32) × Nat × Nat :=
  bnd (s_E_makeBlank Z eg ew) (fun (F24, g5, w26) =>
    (1, upc (upc (upc (upc (upc (upc uT 5 (1 : Int32)) 6 (0 : Int32)) 7 (0 : Int32)) 8 (0 : Int32)) 9 (0 : Int32)) 10 (0 : Int32), F, g, v, 0, 0, F24, g5, w26, 0, 0)
  )
def s_T_start_cut14_2 (uT : Nat → Int32) (Z : Nat → Int32) (eg : Nat → Int32) (ew : Nat → Int32) (F : Nat → Nat → Int32) (g : Nat → Nat → Int32) (v : Nat → Nat → Int32) : Int32 × (Nat → Int32) × (Nat → Nat → Int32) × (Nat → Nat → Int32) × (Nat → Nat → Int32) × Nat × Nat × (Nat → Int32) × (Nat → Int32) × (Nat → Int32) × Nat × Nat :=
  bnd (s_D_makeBlank (F 2) (g 2) (v 2) 0) (fun (F214, g15, cd216) =>
    s_T_start_cut14_3 uT Z eg ew (tri (F 0) (F 1) F214) (tri (g 0) (g 1) g15) (tri (v 0) (v 1) cd216)
  )
def s_T_start_cut14_1 (uT : Nat → Int32) (Z : Nat → Int32) (eg : Nat → Int32) (ew : Nat → Int32) (F : Nat → Nat → Int32) (g : Nat → Nat → Int32) (v : Nat → Nat → Int32) : Int32 × (Nat → Int32) × (Nat → Nat → Int32) × (Nat → Nat → Int32) × (Nat → Nat → Int32) × Nat × Nat × (Nat → Int32) × (Nat → Int32) × (Nat → Int32) × Nat × Nat :=
  bnd (s_D_makeBlank (F 1) (g 1) (v 1) 0) (fun (F221, g22, cd223) =>
    s_T_start_cut14_2 uT Z eg ew (tri (F 0) F221 (F 2)) (tri (g 0) g22 (g 2)) (tri (v 0) cd223 (v 2))
  )
def s_T_start (uT : Nat → Int32) (F : Nat → Nat → Int32) (g : Nat → Nat → Int32) (v : Nat → Nat → Int32) (cn : Nat) (f : Nat → Int32) (kN : Nat) (ko : Nat) (Z : Nat → Int32) (eg : Nat → Int32) (ew : Nat → Int32) (ke : Nat) (sn : Nat) : Int32 × (Nat → Int32) × (Nat → Nat → Int32) × (Nat → Nat → Int32) × (Nat → Nat → Int32) × Nat × Nat × (Nat → Int32) × (Nat → Int32) × (Nat → Int32) × Nat × Nat :=
  if (bI (crB cn f)) = 0 then (
    (0, uT, F, g, v, kN, ko, Z, eg, ew, ke, sn)
  ) else (
    bnd (s_D_makeBlank (F 0) (g 0) (v 0) 0) (fun (F231, g32, cd233) =>
      s_T_start_cut14_1 uT Z eg ew (tri F231 (F 1) (F 2)) (tri g32 (g 1) (g 2)) (tri cd233 (v 1) (v 2))
    )
  )

def s_T_input (uT : Nat → Int32) (kN : Nat) (wN : Nat → Int32) (x : Int32) : Int32 × Nat × (Nat → Int32) :=
  if (uT 5) = 0 then (
    (0, kN, wN)
  ) else (
    bnd (s_N_add kN wN (x &&& (65535 : Int32))) (fun (r2, k24, w25) =>
      if (bI (decide (kN < 64))) = 0 then (
        (0, k24, w25)
      ) else (
        (1, k24, w25)
      )
    )
  )

def s_T_output (kp : Nat → Int32) (x : Int32) : Int32 :=
  kp (Int32.toNatClampNeg x)

def s_T_perfect (pe : Nat → Int32) (x : Int32) : Int32 :=
  pe (Int32.toNatClampNeg x)

def s_T_freeze (uT : Nat → Int32) (F : Nat → Nat → Int32) (x : Int32) (zb : Int32) : Int32 × (Nat → Nat → Int32) :=
  if (bI (hmB uT x)) = 0 then (
    (0, F)
  ) else (
    if x = 0 then (
      (1, tri (upc (F 0) 11 zb) (F 1) (F 2))
    ) else (
      if x = 1 then (
        (1, tri (F 0) (upc (F 1) 11 zb) (F 2))
      ) else (
        (1, tri (F 0) (F 1) (upc (F 2) 11 zb))
      )
    )
  )

def s_T_skip (uT : Nat → Int32) (F : Nat → Nat → Int32) (x : Int32) : Int32 × (Nat → Nat → Int32) :=
  if (bI (hmB uT x)) = 0 then (
    (0, F)
  ) else (
    if x = 0 then (
      (1, tri (upc (F 0) 12 (1 : Int32)) (F 1) (F 2))
    ) else (
      if x = 1 then (
        (1, tri (F 0) (upc (F 1) 12 (1 : Int32)) (F 2))
      ) else (
        (1, tri (F 0) (F 1) (upc (F 2) 12 (1 : Int32)))
      )
    )
  )

def s_T_swap (uT : Nat → Int32) (F : Nat → Nat → Int32) (g : Nat → Nat → Int32) (v : Nat → Nat → Int32) (x : Int32) : Int32 × (Nat → Nat → Int32) × (Nat → Nat → Int32) × (Nat → Nat → Int32) :=
  if (bI (hmB uT x)) = 0 then (
    (0, F, g, v)
  ) else (
    if (uT 6) = 0 then (
      if x = 0 then (
        bnd (s_T_countInStep F) (fun r5 =>
          if (F 0 8) = 0 then (
            if (bI (cgB uT (r5 - (1 : Int32)))) = 0 then (
              (0, F, g, v)
            ) else (
              bnd (s_D_makeBlank (F 0) (g 0) (v 0) 1) (fun (F222, g23, cd224) =>
                (1, tri F222 (F 1) (F 2), tri g23 (g 1) (g 2), tri cd224 (v 1) (v 2))
              )
            )
          ) else (
            if (bI (cgB uT (r5 - (0 : Int32)))) = 0 then (
              (0, F, g, v)
            ) else (
              bnd (s_D_makeBlank (F 0) (g 0) (v 0) 1) (fun (F213, g14, cd215) =>
                (1, tri F213 (F 1) (F 2), tri g14 (g 1) (g 2), tri cd215 (v 1) (v 2))
              )
            )
          )
        )
      ) else (
        if x = 1 then (
          bnd (s_T_countInStep F) (fun r26 =>
            if (F 1 8) = 0 then (
              if (bI (cgB uT (r26 - (1 : Int32)))) = 0 then (
                (0, F, g, v)
              ) else (
                bnd (s_D_makeBlank (F 1) (g 1) (v 1) 1) (fun (F243, g44, cd245) =>
                  (1, tri (F 0) F243 (F 2), tri (g 0) g44 (g 2), tri (v 0) cd245 (v 2))
                )
              )
            ) else (
              if (bI (cgB uT (r26 - (0 : Int32)))) = 0 then (
                (0, F, g, v)
              ) else (
                bnd (s_D_makeBlank (F 1) (g 1) (v 1) 1) (fun (F234, g35, cd236) =>
                  (1, tri (F 0) F234 (F 2), tri (g 0) g35 (g 2), tri (v 0) cd236 (v 2))
                )
              )
            )
          )
        ) else (
          bnd (s_T_countInStep F) (fun r47 =>
            if (F 2 8) = 0 then (
              if (bI (cgB uT (r47 - (1 : Int32)))) = 0 then (
                (0, F, g, v)
              ) else (
                bnd (s_D_makeBlank (F 2) (g 2) (v 2) 1) (fun (F264, g65, cd266) =>
                  (1, tri (F 0) (F 1) F264, tri (g 0) (g 1) g65, tri (v 0) (v 1) cd266)
                )
              )
            ) else (
              if (bI (cgB uT (r47 - (0 : Int32)))) = 0 then (
                (0, F, g, v)
              ) else (
                bnd (s_D_makeBlank (F 2) (g 2) (v 2) 1) (fun (F255, g56, cd257) =>
                  (1, tri (F 0) (F 1) F255, tri (g 0) (g 1) g56, tri (v 0) (v 1) cd257)
                )
              )
            )
          )
        )
      )
    ) else (
      (0, F, g, v)
    )
  )

def s_T_allow (uT : Nat → Int32) (zb : Int32) : (Nat → Int32) :=
  upc uT 7 zb

def s_T_module (uT : Nat → Int32) (F : Nat → Nat → Int32) (x : Int32) (y : Int32) : Int32 :=
  if (bI (hmB uT x)) = 0 then (
    (-1)
  ) else (
    if x = 0 then (
      if y = 0 then (
        F 0 8
      ) else (
        if y = 1 then (
          bnd (s_D_shownMark (F 0)) (fun r5 =>
            r5
          )
        ) else (
          if y = 2 then (
            F 0 10
          ) else (
            if y = 3 then (
              F 0 1
            ) else (
              if y = 4 then (
                F 0 13
              ) else (
                if y = 5 then (
                  F 0 14
                ) else (
                  (-1)
                )
              )
            )
          )
        )
      )
    ) else (
      if x = 1 then (
        if y = 0 then (
          F 1 8
        ) else (
          if y = 1 then (
            bnd (s_D_shownMark (F 1)) (fun r8 =>
              r8
            )
          ) else (
            if y = 2 then (
              F 1 10
            ) else (
              if y = 3 then (
                F 1 1
              ) else (
                if y = 4 then (
                  F 1 13
                ) else (
                  if y = 5 then (
                    F 1 14
                  ) else (
                    (-1)
                  )
                )
              )
            )
          )
        )
      ) else (
        if y = 0 then (
          F 2 8
        ) else (
          if y = 1 then (
            bnd (s_D_shownMark (F 2)) (fun r11 =>
              r11
            )
          ) else (
            if y = 2 then (
              F 2 10
            ) else (
              if y = 3 then (
                F 2 1
              ) else (
                if y = 4 then (
                  F 2 13
                ) else (
                  if y = 5 then (
                    F 2 14
                  ) else (
                    (-1)
                  )
                )
              )
            )
          )
        )
      )
    )
  )

def s_T_register (uT : Nat → Int32) (g : Nat → Nat → Int32) (x : Int32) (y : Int32) : Int32 :=
  if (bI (hmB uT x)) = 0 then (
    (-1)
  ) else (
    if x = 0 then (
      if y < 0 then (
        (-1)
      ) else (
        if y < 8 then (
          (g 0) (Int32.toNatClampNeg y)
        ) else (
          (-1)
        )
      )
    ) else (
      if x = 1 then (
        if y < 0 then (
          (-1)
        ) else (
          if y < 8 then (
            (g 1) (Int32.toNatClampNeg y)
          ) else (
            (-1)
          )
        )
      ) else (
        if y < 0 then (
          (-1)
        ) else (
          if y < 8 then (
            (g 2) (Int32.toNatClampNeg y)
          ) else (
            (-1)
          )
        )
      )
    )
  )

def s_T_code (uT : Nat → Int32) (v : Nat → Nat → Int32) (x : Int32) (y : Int32) : Int32 :=
  if (bI (hmB uT x)) = 0 then (
    (-1)
  ) else (
    if x = 0 then (
      if y < 0 then (
        (-1)
      ) else (
        if y < 32 then (
          (v 0) (Int32.toNatClampNeg y)
        ) else (
          (-1)
        )
      )
    ) else (
      if x = 1 then (
        if y < 0 then (
          (-1)
        ) else (
          if y < 32 then (
            (v 1) (Int32.toNatClampNeg y)
          ) else (
            (-1)
          )
        )
      ) else (
        if y < 0 then (
          (-1)
        ) else (
          if y < 32 then (
            (v 2) (Int32.toNatClampNeg y)
          ) else (
            (-1)
          )
        )
      )
    )
  )

def s_T_state (uT : Nat → Int32) (F : Nat → Nat → Int32) (kN : Nat) (ko : Nat) (ke : Nat) (x : Int32) : Int32 :=
  if x = 0 then (
    bnd (s_T_currentMode uT F) (fun r2 =>
      r2
    )
  ) else (
    if x = 1 then (
      uT 8
    ) else (
      if x = 2 then (
        uT 9
      ) else (
        if x = 3 then (
          nI ko
        ) else (
          if x = 4 then (
            nI ke
          ) else (
            if x = 5 then (
              (nI kN) - (uT 10)
            ) else (
              if x = 6 then (
                if (uT 7) = 0 then (
                  0
                ) else (
                  1
                )
              ) else (
                (-1)
              )
            )
          )
        )
      )
    )
  )

def s_T_flip (F : Nat → Nat → Int32) (g : Nat → Nat → Int32) (v : Nat → Nat → Int32) (cn : Nat) (x : Int32) (y : Int32) (z : Int32) (u : Int32) : (Nat → Nat → Int32) × (Nat → Nat → Int32) × (Nat → Nat → Int32) :=
  if x = 0 then (
    if y = 0 then (
      (F, tri (upd (g 0) (Int32.toNatClampNeg z) (((g 0) (Int32.toNatClampNeg z)) ^^^ ((1 : Int32) <<< (u &&& 31)))) (g 1) (g 2), v)
    ) else (
      if y = 1 then (
        (F, g, tri (upd (v 0) (Int32.toNatClampNeg z) (((v 0) (Int32.toNatClampNeg z)) ^^^ ((1 : Int32) <<< (u &&& 31)))) (v 1) (v 2))
      ) else (
        bnd (s_P_wrap cn ((F 0 1) ^^^ ((1 : Int32) <<< (u &&& 31)))) (fun r12 =>
          (tri (upc (F 0) 1 r12) (F 1) (F 2), g, v)
        )
      )
    )
  ) else (
    if x = 1 then (
      if y = 0 then (
        (F, tri (g 0) (upd (g 1) (Int32.toNatClampNeg z) (((g 1) (Int32.toNatClampNeg z)) ^^^ ((1 : Int32) <<< (u &&& 31)))) (g 2), v)
      ) else (
        if y = 1 then (
          (F, g, tri (v 0) (upd (v 1) (Int32.toNatClampNeg z) (((v 1) (Int32.toNatClampNeg z)) ^^^ ((1 : Int32) <<< (u &&& 31)))) (v 2))
        ) else (
          bnd (s_P_wrap cn ((F 1 1) ^^^ ((1 : Int32) <<< (u &&& 31)))) (fun r19 =>
            (tri (F 0) (upc (F 1) 1 r19) (F 2), g, v)
          )
        )
      )
    ) else (
      if y = 0 then (
        (F, tri (g 0) (g 1) (upd (g 2) (Int32.toNatClampNeg z) (((g 2) (Int32.toNatClampNeg z)) ^^^ ((1 : Int32) <<< (u &&& 31)))), v)
      ) else (
        if y = 1 then (
          (F, g, tri (v 0) (v 1) (upd (v 2) (Int32.toNatClampNeg z) (((v 2) (Int32.toNatClampNeg z)) ^^^ ((1 : Int32) <<< (u &&& 31)))))
        ) else (
          bnd (s_P_wrap cn ((F 2 1) ^^^ ((1 : Int32) <<< (u &&& 31)))) (fun r26 =>
            (tri (F 0) (F 1) (upc (F 2) 1 r26), g, v)
          )
        )
      )
    )
  )

def s_M_positions_loop4 (x : Int32) : Nat → (Nat) → (Int32) → Int32
  | 0, i, w1 =>
    w1
  | n9 + 1, i, w1 =>
    if ((x >>> ((nI i) &&& 31)) &&& (1 : Int32)) = 1 then (
      s_M_positions_loop4 x n9 (i + 1) (w1 ^^^ (nI i))
    ) else (
      s_M_positions_loop4 x n9 (i + 1) (w1 ^^^ (0 : Int32))
    )
def s_M_positions (x : Int32) : Int32 :=
  s_M_positions_loop4 x 21 1 0

def s_M_ones_loop4 (x : Int32) : Nat → (Nat) → (Int32) → Int32
  | 0, i, w1 =>
    w1
  | n9 + 1, i, w1 =>
    s_M_ones_loop4 x n9 (i + 1) (w1 + ((x >>> ((nI i) &&& 31)) &&& (1 : Int32)))
def s_M_ones (x : Int32) : Int32 :=
  s_M_ones_loop4 x 22 0 0

def s_M_encode_loop49  : Nat → (Nat) → (Int32) → (Int32) → Int32
  | 0, i, w1, w3 =>
    bnd (s_M_ones w1) (fun r2 =>
      w1 ||| (r2 &&& (1 : Int32))
    )
  | n9 + 1, i, w1, w3 =>
    s_M_encode_loop49 n9 (i + 1) (w1 ||| (((w3 >>> ((nI i) &&& 31)) &&& (1 : Int32)) <<< (((1 : Int32) <<< ((nI i) &&& 31)) &&& 31))) w3
def s_M_encode_loop6 (x : Int32) : Nat → (Nat) → (Int32) → (Int32) → Int32
  | 0, i, w1, w2 =>
    bnd (s_M_positions w1) (fun r6 =>
      s_M_encode_loop49 5 0 w1 r6
    )
  | n9 + 1, i, w1, w2 =>
    if (bI (idB (nI i))) = 0 then (
      s_M_encode_loop6 x n9 (i + 1) w1 w2
    ) else (
      s_M_encode_loop6 x n9 (i + 1) (w1 ||| (((x >>> (w2 &&& 31)) &&& (1 : Int32)) <<< ((nI i) &&& 31))) (w2 + 1)
    )
def s_M_encode (x : Int32) : Int32 :=
  s_M_encode_loop6 x 21 1 0 0

def s_M_decode_cut22  (w1 : Int32) : Int32 :=
  w1
def s_M_decode_cut21 (x : Int32) (w1 : Int32) : Int32 :=
  s_M_decode_cut22 (w1 ||| (((x >>> ((21 : Int32) &&& 31)) &&& (1 : Int32)) <<< ((15 : Int32) &&& 31)))
def s_M_decode_cut20 (x : Int32) (w1 : Int32) : Int32 :=
  s_M_decode_cut21 x (w1 ||| (((x >>> ((20 : Int32) &&& 31)) &&& (1 : Int32)) <<< ((14 : Int32) &&& 31)))
def s_M_decode_cut19 (x : Int32) (w1 : Int32) : Int32 :=
  s_M_decode_cut20 x (w1 ||| (((x >>> ((19 : Int32) &&& 31)) &&& (1 : Int32)) <<< ((13 : Int32) &&& 31)))
def s_M_decode_cut18 (x : Int32) (w1 : Int32) : Int32 :=
  s_M_decode_cut19 x (w1 ||| (((x >>> ((18 : Int32) &&& 31)) &&& (1 : Int32)) <<< ((12 : Int32) &&& 31)))
def s_M_decode_cut17 (x : Int32) (w1 : Int32) : Int32 :=
  s_M_decode_cut18 x (w1 ||| (((x >>> ((17 : Int32) &&& 31)) &&& (1 : Int32)) <<< ((11 : Int32) &&& 31)))
def s_M_decode_cut16 (x : Int32) (w1 : Int32) : Int32 :=
  s_M_decode_cut17 x w1
def s_M_decode_cut15 (x : Int32) (w1 : Int32) : Int32 :=
  s_M_decode_cut16 x (w1 ||| (((x >>> ((15 : Int32) &&& 31)) &&& (1 : Int32)) <<< ((10 : Int32) &&& 31)))
def s_M_decode_cut14 (x : Int32) (w1 : Int32) : Int32 :=
  s_M_decode_cut15 x (w1 ||| (((x >>> ((14 : Int32) &&& 31)) &&& (1 : Int32)) <<< ((9 : Int32) &&& 31)))
def s_M_decode_cut13 (x : Int32) (w1 : Int32) : Int32 :=
  s_M_decode_cut14 x (w1 ||| (((x >>> ((13 : Int32) &&& 31)) &&& (1 : Int32)) <<< ((8 : Int32) &&& 31)))
def s_M_decode_cut12 (x : Int32) (w1 : Int32) : Int32 :=
  s_M_decode_cut13 x (w1 ||| (((x >>> ((12 : Int32) &&& 31)) &&& (1 : Int32)) <<< ((7 : Int32) &&& 31)))
def s_M_decode_cut11 (x : Int32) (w1 : Int32) : Int32 :=
  s_M_decode_cut12 x (w1 ||| (((x >>> ((11 : Int32) &&& 31)) &&& (1 : Int32)) <<< ((6 : Int32) &&& 31)))
def s_M_decode_cut10 (x : Int32) (w1 : Int32) : Int32 :=
  s_M_decode_cut11 x (w1 ||| (((x >>> ((10 : Int32) &&& 31)) &&& (1 : Int32)) <<< ((5 : Int32) &&& 31)))
def s_M_decode_cut9 (x : Int32) (w1 : Int32) : Int32 :=
  s_M_decode_cut10 x (w1 ||| (((x >>> ((9 : Int32) &&& 31)) &&& (1 : Int32)) <<< ((4 : Int32) &&& 31)))
def s_M_decode_cut8 (x : Int32) (w1 : Int32) : Int32 :=
  s_M_decode_cut9 x w1
def s_M_decode_cut7 (x : Int32) (w1 : Int32) : Int32 :=
  s_M_decode_cut8 x (w1 ||| (((x >>> ((7 : Int32) &&& 31)) &&& (1 : Int32)) <<< ((3 : Int32) &&& 31)))
def s_M_decode_cut6 (x : Int32) (w1 : Int32) : Int32 :=
  s_M_decode_cut7 x (w1 ||| (((x >>> ((6 : Int32) &&& 31)) &&& (1 : Int32)) <<< ((2 : Int32) &&& 31)))
def s_M_decode_cut5 (x : Int32) (w1 : Int32) : Int32 :=
  s_M_decode_cut6 x (w1 ||| (((x >>> ((5 : Int32) &&& 31)) &&& (1 : Int32)) <<< ((1 : Int32) &&& 31)))
def s_M_decode_cut4 (x : Int32) (w1 : Int32) : Int32 :=
  s_M_decode_cut5 x w1
def s_M_decode_cut3 (x : Int32) (w1 : Int32) : Int32 :=
  s_M_decode_cut4 x (w1 ||| (((x >>> ((3 : Int32) &&& 31)) &&& (1 : Int32)) <<< ((0 : Int32) &&& 31)))
def s_M_decode_cut2 (x : Int32) (w1 : Int32) : Int32 :=
  s_M_decode_cut3 x w1
def s_M_decode_cut1 (x : Int32) (w1 : Int32) : Int32 :=
  s_M_decode_cut2 x w1
def s_M_decode (x : Int32) : Int32 :=
  s_M_decode_cut1 x 0

def s_M_result (o : Int32) (x : Int32) (y : Int32) : Int32 :=
  if o = 1 then (
    (x + y) &&& (65535 : Int32)
  ) else (
    if o = 2 then (
      (x - y) &&& (65535 : Int32)
    ) else (
      if o = 3 then (
        (x ^^^ y) &&& (65535 : Int32)
      ) else (
        (ush x (y &&& (15 : Int32))) &&& (65535 : Int32)
      )
    )
  )

def s_M_read (a9 : Nat → Int32) (a16 : Nat → Int32) (mi : Int32) (x : Int32) : Int32 × (Nat → Int32) × (Nat → Int32) × Int32 :=
  bnd (s_M_positions (a9 (Int32.toNatClampNeg (((32 : Int32) * mi) + x)))) (fun r1 =>
    bnd (s_M_ones (a9 (Int32.toNatClampNeg (((32 : Int32) * mi) + x)))) (fun r3 =>
      if (r3 - r3 / (2 : Int32) * (2 : Int32)) = 0 then (
        if r1 = 0 then (
          if (r3 - r3 / (2 : Int32) * (2 : Int32)) = 1 then (
            bnd (s_M_decode ((a9 (Int32.toNatClampNeg (((32 : Int32) * mi) + x))) ^^^ ((1 : Int32) <<< (r1 &&& 31)))) (fun r23 =>
              (r23, upd a9 (Int32.toNatClampNeg (((32 : Int32) * mi) + x)) ((a9 (Int32.toNatClampNeg (((32 : Int32) * mi) + x))) ^^^ ((1 : Int32) <<< (r1 &&& 31))), upd a16 (Int32.toNatClampNeg mi) ((a16 (Int32.toNatClampNeg mi)) + (1 : Int32)), 0)
            )
          ) else (
            bnd (s_M_decode (a9 (Int32.toNatClampNeg (((32 : Int32) * mi) + x)))) (fun r21 =>
              (r21, a9, a16, 0)
            )
          )
        ) else (
          (0, a9, a16, 1)
        )
      ) else (
        if r1 < 22 then (
          if (r3 - r3 / (2 : Int32) * (2 : Int32)) = 1 then (
            bnd (s_M_decode ((a9 (Int32.toNatClampNeg (((32 : Int32) * mi) + x))) ^^^ ((1 : Int32) <<< (r1 &&& 31)))) (fun r13 =>
              (r13, upd a9 (Int32.toNatClampNeg (((32 : Int32) * mi) + x)) ((a9 (Int32.toNatClampNeg (((32 : Int32) * mi) + x))) ^^^ ((1 : Int32) <<< (r1 &&& 31))), upd a16 (Int32.toNatClampNeg mi) ((a16 (Int32.toNatClampNeg mi)) + (1 : Int32)), 0)
            )
          ) else (
            bnd (s_M_decode (a9 (Int32.toNatClampNeg (((32 : Int32) * mi) + x)))) (fun r11 =>
              (r11, a9, a16, 0)
            )
          )
        ) else (
          (0, a9, a16, 1)
        )
      )
    )
  )

def s_M_blank_loop28 (a10 : Nat → Int32) (a13 : Nat → Int32) (a14 : Nat → Int32) (a15 : Nat → Int32) (a16 : Nat → Int32) (a17 : Nat → Int32) (mi : Int32) : Nat → (Nat) → (Nat → Int32) → (Nat → Int32) → (Nat → Int32) × (Nat → Int32) × (Nat → Int32) × (Nat → Int32) × (Nat → Int32) × (Nat → Int32) × (Nat → Int32) × (Nat → Int32)
  | 0, i, a8, a9 =>
    (a8, a9, upd a10 (Int32.toNatClampNeg mi) (0 : Int32), upd a13 (Int32.toNatClampNeg mi) (0 : Int32), upd a14 (Int32.toNatClampNeg mi) (0 : Int32), upd a15 (Int32.toNatClampNeg mi) (0 : Int32), upd a16 (Int32.toNatClampNeg mi) (0 : Int32), upd a17 (Int32.toNatClampNeg mi) (0 : Int32))
  | n9 + 1, i, a8, a9 =>
    bnd (s_M_encode 0) (fun r3 =>
      s_M_blank_loop28 a10 a13 a14 a15 a16 a17 mi n9 (i + 1) a8 (upd a9 (Int32.toNatClampNeg (((32 : Int32) * mi) + (nI i))) r3)
    )
def s_M_blank_loop2 (a9 : Nat → Int32) (a10 : Nat → Int32) (a13 : Nat → Int32) (a14 : Nat → Int32) (a15 : Nat → Int32) (a16 : Nat → Int32) (a17 : Nat → Int32) (mi : Int32) : Nat → (Nat) → (Nat → Int32) → (Nat → Int32) × (Nat → Int32) × (Nat → Int32) × (Nat → Int32) × (Nat → Int32) × (Nat → Int32) × (Nat → Int32) × (Nat → Int32)
  | 0, i, a8 =>
    s_M_blank_loop28 a10 a13 a14 a15 a16 a17 mi 32 0 a8 a9
  | n9 + 1, i, a8 =>
    s_M_blank_loop2 a9 a10 a13 a14 a15 a16 a17 mi n9 (i + 1) (upd a8 (Int32.toNatClampNeg (((8 : Int32) * mi) + (nI i))) (0 : Int32))
def s_M_blank (a8 : Nat → Int32) (a9 : Nat → Int32) (a10 : Nat → Int32) (a13 : Nat → Int32) (a14 : Nat → Int32) (a15 : Nat → Int32) (a16 : Nat → Int32) (a17 : Nat → Int32) (mi : Int32) : (Nat → Int32) × (Nat → Int32) × (Nat → Int32) × (Nat → Int32) × (Nat → Int32) × (Nat → Int32) × (Nat → Int32) × (Nat → Int32) :=
  s_M_blank_loop2 a9 a10 a13 a14 a15 a16 a17 mi 8 0 a8

def s_M_program (uM : Nat → Int32) (cn : Nat) (a2 : Nat → Int32) (x : Int32) (y : Int32) : Int32 × Nat × (Nat → Int32) × Int32 :=
  if (uM 3) = 0 then (
    if x < 0 then (
      (0, cn, a2, 0)
    ) else (
      if (nI cn) < x then (
        (0, cn, a2, 0)
      ) else (
        if 63 < x then (
          (0, cn, a2, 0)
        ) else (
          if (bI (isIn y)) = 0 then (
            (0, cn, a2, 0)
          ) else (
            if x = (nI cn) then (
              (1, cn + 1, upd a2 (Int32.toNatClampNeg x) y, 0)
            ) else (
              (1, cn, upd a2 (Int32.toNatClampNeg x) y, 0)
            )
          )
        )
      )
    )
  ) else (
    (0, cn, a2, 0)
  )

def s_M_perfectStep (cn : Nat) (cm : Nat) (oc : Nat) (ou : Nat) (ow : Nat) (a2 : Nat → Int32) (a28 : Nat → Int32) (a31 : Nat → Int32) (a32 : Nat → Int32) (a36 : Nat → Int32) : (Nat → Int32) × (Nat → Int32) × (Nat → Int32) × Nat × Nat × Nat :=
  bnd (a2 (Int32.toNatClampNeg (nI oc))) (fun iw =>
    if (ush iw 24) = 0 then (
      (upd a31 (Int32.toNatClampNeg (wA iw)) (((256 : Int32) * (wB iw)) + (wC iw)), a32, a36, (oc + 1) % cn, ou, ow)
    ) else (
      if (ush iw 24) = 1 then (
        bnd (s_M_result (ush iw 24) (a31 (Int32.toNatClampNeg (wB iw))) (a31 (Int32.toNatClampNeg (wC iw)))) (fun r12 =>
          (upd a31 (Int32.toNatClampNeg (wA iw)) r12, a32, a36, (oc + 1) % cn, ou, ow)
        )
      ) else (
        if (ush iw 24) = 2 then (
          bnd (s_M_result (ush iw 24) (a31 (Int32.toNatClampNeg (wB iw))) (a31 (Int32.toNatClampNeg (wC iw)))) (fun r16 =>
            (upd a31 (Int32.toNatClampNeg (wA iw)) r16, a32, a36, (oc + 1) % cn, ou, ow)
          )
        ) else (
          if (ush iw 24) = 3 then (
            bnd (s_M_result (ush iw 24) (a31 (Int32.toNatClampNeg (wB iw))) (a31 (Int32.toNatClampNeg (wC iw)))) (fun r20 =>
              (upd a31 (Int32.toNatClampNeg (wA iw)) r20, a32, a36, (oc + 1) % cn, ou, ow)
            )
          ) else (
            if (ush iw 24) = 4 then (
              bnd (s_M_result (ush iw 24) (a31 (Int32.toNatClampNeg (wB iw))) (a31 (Int32.toNatClampNeg (wC iw)))) (fun r24 =>
                (upd a31 (Int32.toNatClampNeg (wA iw)) r24, a32, a36, (oc + 1) % cn, ou, ow)
              )
            ) else (
              if (ush iw 24) = 5 then (
                (upd a31 (Int32.toNatClampNeg (wA iw)) (a32 (Int32.toNatClampNeg (pl32 (a31 (Int32.toNatClampNeg (wB iw))) (wC iw)))), a32, a36, (oc + 1) % cn, ou, ow)
              ) else (
                if (ush iw 24) = 6 then (
                  (a31, upd a32 (Int32.toNatClampNeg (pl32 (a31 (Int32.toNatClampNeg (wB iw))) (wC iw))) (a31 (Int32.toNatClampNeg (wA iw))), a36, (oc + 1) % cn, ou, ow)
                ) else (
                  if (ush iw 24) = 7 then (
                    if (a31 (Int32.toNatClampNeg (wA iw))) = 0 then (
                      (a31, a32, a36, Int32.toNatClampNeg (wB iw), ou, ow)
                    ) else (
                      (a31, a32, a36, (oc + 1) % cn, ou, ow)
                    )
                  ) else (
                    if (ush iw 24) = 8 then (
                      (a31, a32, a36, Int32.toNatClampNeg (wB iw), ou, ow)
                    ) else (
                      if (ush iw 24) = 9 then (
                        if (nI cm) ≤ (nI ou) then (
                          (upd a31 (Int32.toNatClampNeg (wA iw)) (0 : Int32), a32, a36, (oc + 1) % cn, ou, ow)
                        ) else (
                          (upd a31 (Int32.toNatClampNeg (wA iw)) (a28 (Int32.toNatClampNeg (nI ou))), a32, a36, (oc + 1) % cn, ou + 1, ow)
                        )
                      ) else (
                        if 300 ≤ (nI ow) then (
                          (a31, a32, a36, (oc + 1) % cn, ou, ow + 1)
                        ) else (
                          (a31, a32, upd a36 (Int32.toNatClampNeg (nI ow)) (a31 (Int32.toNatClampNeg (wA iw))), (oc + 1) % cn, ou, ow + 1)
                        )
                      )
                    )
                  )
                )
              )
            )
          )
        )
      )
    )
  )

def s_M_instruction (uM : Nat → Int32) (cn : Nat) (a2 : Nat → Int32) (a8 : Nat → Int32) (a9 : Nat → Int32) (a10 : Nat → Int32) (a14 : Nat → Int32) (a15 : Nat → Int32) (a16 : Nat → Int32) (a18 : Nat → Int32) (a19 : Nat → Int32) (a20 : Nat → Int32) (a21 : Nat → Int32) (a22 : Nat → Int32) (mi : Int32) : (Nat → Int32) × (Nat → Int32) × (Nat → Int32) × (Nat → Int32) × (Nat → Int32) × (Nat → Int32) × (Nat → Int32) × (Nat → Int32) × (Nat → Int32) × (Nat → Int32) × Int32 :=
  bnd (a2 (Int32.toNatClampNeg (a10 (Int32.toNatClampNeg mi)))) (fun iw =>
    if (a15 (Int32.toNatClampNeg mi)) = 0 then (
      if (ush iw 24) = 0 then (
        if (a14 (Int32.toNatClampNeg mi)) = 0 then (
          (upd a8 (Int32.toNatClampNeg (((8 : Int32) * mi) + (wA iw))) (((256 : Int32) * (wB iw)) + (wC iw)), a9, upd a10 (Int32.toNatClampNeg mi) (((a10 (Int32.toNatClampNeg mi)) + (1 : Int32)) - ((a10 (Int32.toNatClampNeg mi)) + (1 : Int32)) / (nI cn) * (nI cn)), a15, a16, upd a18 (Int32.toNatClampNeg mi) (-1 : Int32), upd a19 (Int32.toNatClampNeg mi) (0 : Int32), upd a20 (Int32.toNatClampNeg mi) (-1 : Int32), upd a21 (Int32.toNatClampNeg mi) (-1 : Int32), a22, uM 24)
        ) else (
          (upd a8 (Int32.toNatClampNeg (((8 : Int32) * mi) + (wA iw))) (((256 : Int32) * (wB iw)) + (wC iw)), a9, upd a10 (Int32.toNatClampNeg mi) (((a10 (Int32.toNatClampNeg mi)) + (1 : Int32)) - ((a10 (Int32.toNatClampNeg mi)) + (1 : Int32)) / (nI cn) * (nI cn)), a15, a16, upd (upd a18 (Int32.toNatClampNeg mi) (-1 : Int32)) (Int32.toNatClampNeg mi) (-1 : Int32), upd a19 (Int32.toNatClampNeg mi) (0 : Int32), upd a20 (Int32.toNatClampNeg mi) (-1 : Int32), upd a21 (Int32.toNatClampNeg mi) (-1 : Int32), a22, uM 24)
        )
      ) else (
        if (ush iw 24) = 1 then (
          bnd (s_M_result (ush iw 24) (a8 (Int32.toNatClampNeg (((8 : Int32) * mi) + (wB iw)))) (a8 (Int32.toNatClampNeg (((8 : Int32) * mi) + (wC iw))))) (fun r14 =>
            if (a14 (Int32.toNatClampNeg mi)) = 0 then (
              (upd a8 (Int32.toNatClampNeg (((8 : Int32) * mi) + (wA iw))) r14, a9, upd a10 (Int32.toNatClampNeg mi) (((a10 (Int32.toNatClampNeg mi)) + (1 : Int32)) - ((a10 (Int32.toNatClampNeg mi)) + (1 : Int32)) / (nI cn) * (nI cn)), a15, a16, upd a18 (Int32.toNatClampNeg mi) (-1 : Int32), upd a19 (Int32.toNatClampNeg mi) (0 : Int32), upd a20 (Int32.toNatClampNeg mi) (-1 : Int32), upd a21 (Int32.toNatClampNeg mi) (-1 : Int32), a22, uM 24)
            ) else (
              (upd a8 (Int32.toNatClampNeg (((8 : Int32) * mi) + (wA iw))) r14, a9, upd a10 (Int32.toNatClampNeg mi) (((a10 (Int32.toNatClampNeg mi)) + (1 : Int32)) - ((a10 (Int32.toNatClampNeg mi)) + (1 : Int32)) / (nI cn) * (nI cn)), a15, a16, upd (upd a18 (Int32.toNatClampNeg mi) (-1 : Int32)) (Int32.toNatClampNeg mi) (-1 : Int32), upd a19 (Int32.toNatClampNeg mi) (0 : Int32), upd a20 (Int32.toNatClampNeg mi) (-1 : Int32), upd a21 (Int32.toNatClampNeg mi) (-1 : Int32), a22, uM 24)
            )
          )
        ) else (
          if (ush iw 24) = 2 then (
            bnd (s_M_result (ush iw 24) (a8 (Int32.toNatClampNeg (((8 : Int32) * mi) + (wB iw)))) (a8 (Int32.toNatClampNeg (((8 : Int32) * mi) + (wC iw))))) (fun r19 =>
              if (a14 (Int32.toNatClampNeg mi)) = 0 then (
                (upd a8 (Int32.toNatClampNeg (((8 : Int32) * mi) + (wA iw))) r19, a9, upd a10 (Int32.toNatClampNeg mi) (((a10 (Int32.toNatClampNeg mi)) + (1 : Int32)) - ((a10 (Int32.toNatClampNeg mi)) + (1 : Int32)) / (nI cn) * (nI cn)), a15, a16, upd a18 (Int32.toNatClampNeg mi) (-1 : Int32), upd a19 (Int32.toNatClampNeg mi) (0 : Int32), upd a20 (Int32.toNatClampNeg mi) (-1 : Int32), upd a21 (Int32.toNatClampNeg mi) (-1 : Int32), a22, uM 24)
              ) else (
                (upd a8 (Int32.toNatClampNeg (((8 : Int32) * mi) + (wA iw))) r19, a9, upd a10 (Int32.toNatClampNeg mi) (((a10 (Int32.toNatClampNeg mi)) + (1 : Int32)) - ((a10 (Int32.toNatClampNeg mi)) + (1 : Int32)) / (nI cn) * (nI cn)), a15, a16, upd (upd a18 (Int32.toNatClampNeg mi) (-1 : Int32)) (Int32.toNatClampNeg mi) (-1 : Int32), upd a19 (Int32.toNatClampNeg mi) (0 : Int32), upd a20 (Int32.toNatClampNeg mi) (-1 : Int32), upd a21 (Int32.toNatClampNeg mi) (-1 : Int32), a22, uM 24)
              )
            )
          ) else (
            if (ush iw 24) = 3 then (
              bnd (s_M_result (ush iw 24) (a8 (Int32.toNatClampNeg (((8 : Int32) * mi) + (wB iw)))) (a8 (Int32.toNatClampNeg (((8 : Int32) * mi) + (wC iw))))) (fun r24 =>
                if (a14 (Int32.toNatClampNeg mi)) = 0 then (
                  (upd a8 (Int32.toNatClampNeg (((8 : Int32) * mi) + (wA iw))) r24, a9, upd a10 (Int32.toNatClampNeg mi) (((a10 (Int32.toNatClampNeg mi)) + (1 : Int32)) - ((a10 (Int32.toNatClampNeg mi)) + (1 : Int32)) / (nI cn) * (nI cn)), a15, a16, upd a18 (Int32.toNatClampNeg mi) (-1 : Int32), upd a19 (Int32.toNatClampNeg mi) (0 : Int32), upd a20 (Int32.toNatClampNeg mi) (-1 : Int32), upd a21 (Int32.toNatClampNeg mi) (-1 : Int32), a22, uM 24)
                ) else (
                  (upd a8 (Int32.toNatClampNeg (((8 : Int32) * mi) + (wA iw))) r24, a9, upd a10 (Int32.toNatClampNeg mi) (((a10 (Int32.toNatClampNeg mi)) + (1 : Int32)) - ((a10 (Int32.toNatClampNeg mi)) + (1 : Int32)) / (nI cn) * (nI cn)), a15, a16, upd (upd a18 (Int32.toNatClampNeg mi) (-1 : Int32)) (Int32.toNatClampNeg mi) (-1 : Int32), upd a19 (Int32.toNatClampNeg mi) (0 : Int32), upd a20 (Int32.toNatClampNeg mi) (-1 : Int32), upd a21 (Int32.toNatClampNeg mi) (-1 : Int32), a22, uM 24)
                )
              )
            ) else (
              if (ush iw 24) = 4 then (
                bnd (s_M_result (ush iw 24) (a8 (Int32.toNatClampNeg (((8 : Int32) * mi) + (wB iw)))) (a8 (Int32.toNatClampNeg (((8 : Int32) * mi) + (wC iw))))) (fun r29 =>
                  if (a14 (Int32.toNatClampNeg mi)) = 0 then (
                    (upd a8 (Int32.toNatClampNeg (((8 : Int32) * mi) + (wA iw))) r29, a9, upd a10 (Int32.toNatClampNeg mi) (((a10 (Int32.toNatClampNeg mi)) + (1 : Int32)) - ((a10 (Int32.toNatClampNeg mi)) + (1 : Int32)) / (nI cn) * (nI cn)), a15, a16, upd a18 (Int32.toNatClampNeg mi) (-1 : Int32), upd a19 (Int32.toNatClampNeg mi) (0 : Int32), upd a20 (Int32.toNatClampNeg mi) (-1 : Int32), upd a21 (Int32.toNatClampNeg mi) (-1 : Int32), a22, uM 24)
                  ) else (
                    (upd a8 (Int32.toNatClampNeg (((8 : Int32) * mi) + (wA iw))) r29, a9, upd a10 (Int32.toNatClampNeg mi) (((a10 (Int32.toNatClampNeg mi)) + (1 : Int32)) - ((a10 (Int32.toNatClampNeg mi)) + (1 : Int32)) / (nI cn) * (nI cn)), a15, a16, upd (upd a18 (Int32.toNatClampNeg mi) (-1 : Int32)) (Int32.toNatClampNeg mi) (-1 : Int32), upd a19 (Int32.toNatClampNeg mi) (0 : Int32), upd a20 (Int32.toNatClampNeg mi) (-1 : Int32), upd a21 (Int32.toNatClampNeg mi) (-1 : Int32), a22, uM 24)
                  )
                )
              ) else (
                if (ush iw 24) = 5 then (
                  bnd (s_M_read a9 a16 mi (pl32 (a8 (Int32.toNatClampNeg (((8 : Int32) * mi) + (wB iw)))) (wC iw))) (fun (r32, a9n34, a16n35, y2436) =>
                    if (a14 (Int32.toNatClampNeg mi)) = 0 then (
                      (upd a8 (Int32.toNatClampNeg (((8 : Int32) * mi) + (wA iw))) r32, a9n34, upd a10 (Int32.toNatClampNeg mi) (((a10 (Int32.toNatClampNeg mi)) + (1 : Int32)) - ((a10 (Int32.toNatClampNeg mi)) + (1 : Int32)) / (nI cn) * (nI cn)), a15, a16n35, upd a18 (Int32.toNatClampNeg mi) (-1 : Int32), upd (upd a19 (Int32.toNatClampNeg mi) (0 : Int32)) (Int32.toNatClampNeg mi) (vp_nar .boolean (upc uM 24 y2436 24)), upd a20 (Int32.toNatClampNeg mi) (-1 : Int32), upd a21 (Int32.toNatClampNeg mi) (-1 : Int32), a22, upc uM 24 y2436 24)
                    ) else (
                      (upd a8 (Int32.toNatClampNeg (((8 : Int32) * mi) + (wA iw))) r32, a9n34, upd a10 (Int32.toNatClampNeg mi) (((a10 (Int32.toNatClampNeg mi)) + (1 : Int32)) - ((a10 (Int32.toNatClampNeg mi)) + (1 : Int32)) / (nI cn) * (nI cn)), a15, a16n35, upd (upd a18 (Int32.toNatClampNeg mi) (-1 : Int32)) (Int32.toNatClampNeg mi) (-1 : Int32), upd (upd a19 (Int32.toNatClampNeg mi) (0 : Int32)) (Int32.toNatClampNeg mi) (vp_nar .boolean (upc uM 24 y2436 24)), upd a20 (Int32.toNatClampNeg mi) (-1 : Int32), upd a21 (Int32.toNatClampNeg mi) (-1 : Int32), a22, upc uM 24 y2436 24)
                    )
                  )
                ) else (
                  if (ush iw 24) = 6 then (
                    bnd (s_M_encode ((upd a22 (Int32.toNatClampNeg mi) (a8 (Int32.toNatClampNeg (((8 : Int32) * mi) + (wA iw))))) (Int32.toNatClampNeg mi))) (fun r39 =>
                      if (a14 (Int32.toNatClampNeg mi)) = 0 then (
                        (a8, upd a9 (Int32.toNatClampNeg (((32 : Int32) * mi) + ((upd (upd a21 (Int32.toNatClampNeg mi) (-1 : Int32)) (Int32.toNatClampNeg mi) (pl32 (a8 (Int32.toNatClampNeg (((8 : Int32) * mi) + (wB iw)))) (wC iw))) (Int32.toNatClampNeg mi)))) r39, upd a10 (Int32.toNatClampNeg mi) (((a10 (Int32.toNatClampNeg mi)) + (1 : Int32)) - ((a10 (Int32.toNatClampNeg mi)) + (1 : Int32)) / (nI cn) * (nI cn)), a15, a16, upd a18 (Int32.toNatClampNeg mi) (-1 : Int32), upd a19 (Int32.toNatClampNeg mi) (0 : Int32), upd a20 (Int32.toNatClampNeg mi) (-1 : Int32), upd (upd a21 (Int32.toNatClampNeg mi) (-1 : Int32)) (Int32.toNatClampNeg mi) (pl32 (a8 (Int32.toNatClampNeg (((8 : Int32) * mi) + (wB iw)))) (wC iw)), upd a22 (Int32.toNatClampNeg mi) (a8 (Int32.toNatClampNeg (((8 : Int32) * mi) + (wA iw)))), uM 24)
                      ) else (
                        (a8, upd a9 (Int32.toNatClampNeg (((32 : Int32) * mi) + ((upd (upd a21 (Int32.toNatClampNeg mi) (-1 : Int32)) (Int32.toNatClampNeg mi) (pl32 (a8 (Int32.toNatClampNeg (((8 : Int32) * mi) + (wB iw)))) (wC iw))) (Int32.toNatClampNeg mi)))) r39, upd a10 (Int32.toNatClampNeg mi) (((a10 (Int32.toNatClampNeg mi)) + (1 : Int32)) - ((a10 (Int32.toNatClampNeg mi)) + (1 : Int32)) / (nI cn) * (nI cn)), a15, a16, upd (upd a18 (Int32.toNatClampNeg mi) (-1 : Int32)) (Int32.toNatClampNeg mi) (-1 : Int32), upd a19 (Int32.toNatClampNeg mi) (0 : Int32), upd a20 (Int32.toNatClampNeg mi) (-1 : Int32), upd (upd a21 (Int32.toNatClampNeg mi) (-1 : Int32)) (Int32.toNatClampNeg mi) (pl32 (a8 (Int32.toNatClampNeg (((8 : Int32) * mi) + (wB iw)))) (wC iw)), upd a22 (Int32.toNatClampNeg mi) (a8 (Int32.toNatClampNeg (((8 : Int32) * mi) + (wA iw)))), uM 24)
                      )
                    )
                  ) else (
                    if (ush iw 24) = 7 then (
                      if (a8 (Int32.toNatClampNeg (((8 : Int32) * mi) + (wA iw)))) = 0 then (
                        if (a14 (Int32.toNatClampNeg mi)) = 0 then (
                          (a8, a9, upd (upd a10 (Int32.toNatClampNeg mi) (((a10 (Int32.toNatClampNeg mi)) + (1 : Int32)) - ((a10 (Int32.toNatClampNeg mi)) + (1 : Int32)) / (nI cn) * (nI cn))) (Int32.toNatClampNeg mi) (wB iw), a15, a16, upd a18 (Int32.toNatClampNeg mi) (-1 : Int32), upd a19 (Int32.toNatClampNeg mi) (0 : Int32), upd a20 (Int32.toNatClampNeg mi) (-1 : Int32), upd a21 (Int32.toNatClampNeg mi) (-1 : Int32), a22, uM 24)
                        ) else (
                          (a8, a9, upd (upd a10 (Int32.toNatClampNeg mi) (((a10 (Int32.toNatClampNeg mi)) + (1 : Int32)) - ((a10 (Int32.toNatClampNeg mi)) + (1 : Int32)) / (nI cn) * (nI cn))) (Int32.toNatClampNeg mi) (wB iw), a15, a16, upd (upd a18 (Int32.toNatClampNeg mi) (-1 : Int32)) (Int32.toNatClampNeg mi) (-1 : Int32), upd a19 (Int32.toNatClampNeg mi) (0 : Int32), upd a20 (Int32.toNatClampNeg mi) (-1 : Int32), upd a21 (Int32.toNatClampNeg mi) (-1 : Int32), a22, uM 24)
                        )
                      ) else (
                        if (a14 (Int32.toNatClampNeg mi)) = 0 then (
                          (a8, a9, upd a10 (Int32.toNatClampNeg mi) (((a10 (Int32.toNatClampNeg mi)) + (1 : Int32)) - ((a10 (Int32.toNatClampNeg mi)) + (1 : Int32)) / (nI cn) * (nI cn)), a15, a16, upd a18 (Int32.toNatClampNeg mi) (-1 : Int32), upd a19 (Int32.toNatClampNeg mi) (0 : Int32), upd a20 (Int32.toNatClampNeg mi) (-1 : Int32), upd a21 (Int32.toNatClampNeg mi) (-1 : Int32), a22, uM 24)
                        ) else (
                          (a8, a9, upd a10 (Int32.toNatClampNeg mi) (((a10 (Int32.toNatClampNeg mi)) + (1 : Int32)) - ((a10 (Int32.toNatClampNeg mi)) + (1 : Int32)) / (nI cn) * (nI cn)), a15, a16, upd (upd a18 (Int32.toNatClampNeg mi) (-1 : Int32)) (Int32.toNatClampNeg mi) (-1 : Int32), upd a19 (Int32.toNatClampNeg mi) (0 : Int32), upd a20 (Int32.toNatClampNeg mi) (-1 : Int32), upd a21 (Int32.toNatClampNeg mi) (-1 : Int32), a22, uM 24)
                        )
                      )
                    ) else (
                      if (ush iw 24) = 8 then (
                        if (a14 (Int32.toNatClampNeg mi)) = 0 then (
                          (a8, a9, upd (upd a10 (Int32.toNatClampNeg mi) (((a10 (Int32.toNatClampNeg mi)) + (1 : Int32)) - ((a10 (Int32.toNatClampNeg mi)) + (1 : Int32)) / (nI cn) * (nI cn))) (Int32.toNatClampNeg mi) (wB iw), a15, a16, upd a18 (Int32.toNatClampNeg mi) (-1 : Int32), upd a19 (Int32.toNatClampNeg mi) (0 : Int32), upd a20 (Int32.toNatClampNeg mi) (-1 : Int32), upd a21 (Int32.toNatClampNeg mi) (-1 : Int32), a22, uM 24)
                        ) else (
                          (a8, a9, upd (upd a10 (Int32.toNatClampNeg mi) (((a10 (Int32.toNatClampNeg mi)) + (1 : Int32)) - ((a10 (Int32.toNatClampNeg mi)) + (1 : Int32)) / (nI cn) * (nI cn))) (Int32.toNatClampNeg mi) (wB iw), a15, a16, upd (upd a18 (Int32.toNatClampNeg mi) (-1 : Int32)) (Int32.toNatClampNeg mi) (-1 : Int32), upd a19 (Int32.toNatClampNeg mi) (0 : Int32), upd a20 (Int32.toNatClampNeg mi) (-1 : Int32), upd a21 (Int32.toNatClampNeg mi) (-1 : Int32), a22, uM 24)
                        )
                      ) else (
                        if (ush iw 24) = 9 then (
                          if (a14 (Int32.toNatClampNeg mi)) = 0 then (
                            (a8, a9, upd a10 (Int32.toNatClampNeg mi) (((a10 (Int32.toNatClampNeg mi)) + (1 : Int32)) - ((a10 (Int32.toNatClampNeg mi)) + (1 : Int32)) / (nI cn) * (nI cn)), a15, a16, upd (upd a18 (Int32.toNatClampNeg mi) (-1 : Int32)) (Int32.toNatClampNeg mi) (-2 : Int32), upd a19 (Int32.toNatClampNeg mi) (0 : Int32), upd (upd a20 (Int32.toNatClampNeg mi) (-1 : Int32)) (Int32.toNatClampNeg mi) (wA iw), upd a21 (Int32.toNatClampNeg mi) (-1 : Int32), a22, uM 24)
                          ) else (
                            (a8, a9, upd a10 (Int32.toNatClampNeg mi) (((a10 (Int32.toNatClampNeg mi)) + (1 : Int32)) - ((a10 (Int32.toNatClampNeg mi)) + (1 : Int32)) / (nI cn) * (nI cn)), a15, a16, upd (upd (upd a18 (Int32.toNatClampNeg mi) (-1 : Int32)) (Int32.toNatClampNeg mi) (-2 : Int32)) (Int32.toNatClampNeg mi) (-1 : Int32), upd a19 (Int32.toNatClampNeg mi) (0 : Int32), upd (upd a20 (Int32.toNatClampNeg mi) (-1 : Int32)) (Int32.toNatClampNeg mi) (wA iw), upd a21 (Int32.toNatClampNeg mi) (-1 : Int32), a22, uM 24)
                          )
                        ) else (
                          if (a14 (Int32.toNatClampNeg mi)) = 0 then (
                            (a8, a9, upd a10 (Int32.toNatClampNeg mi) (((a10 (Int32.toNatClampNeg mi)) + (1 : Int32)) - ((a10 (Int32.toNatClampNeg mi)) + (1 : Int32)) / (nI cn) * (nI cn)), a15, a16, upd (upd a18 (Int32.toNatClampNeg mi) (-1 : Int32)) (Int32.toNatClampNeg mi) (a8 (Int32.toNatClampNeg (((8 : Int32) * mi) + (wA iw)))), upd a19 (Int32.toNatClampNeg mi) (0 : Int32), upd a20 (Int32.toNatClampNeg mi) (-1 : Int32), upd a21 (Int32.toNatClampNeg mi) (-1 : Int32), a22, uM 24)
                          ) else (
                            (a8, a9, upd a10 (Int32.toNatClampNeg mi) (((a10 (Int32.toNatClampNeg mi)) + (1 : Int32)) - ((a10 (Int32.toNatClampNeg mi)) + (1 : Int32)) / (nI cn) * (nI cn)), a15, a16, upd (upd (upd a18 (Int32.toNatClampNeg mi) (-1 : Int32)) (Int32.toNatClampNeg mi) (a8 (Int32.toNatClampNeg (((8 : Int32) * mi) + (wA iw))))) (Int32.toNatClampNeg mi) (-1 : Int32), upd a19 (Int32.toNatClampNeg mi) (0 : Int32), upd a20 (Int32.toNatClampNeg mi) (-1 : Int32), upd a21 (Int32.toNatClampNeg mi) (-1 : Int32), a22, uM 24)
                          )
                        )
                      )
                    )
                  )
                )
              )
            )
          )
        )
      )
    ) else (
      (a8, a9, upd a10 (Int32.toNatClampNeg mi) (((a10 (Int32.toNatClampNeg mi)) + (1 : Int32)) - ((a10 (Int32.toNatClampNeg mi)) + (1 : Int32)) / (nI cn) * (nI cn)), upd a15 (Int32.toNatClampNeg mi) (0 : Int32), a16, upd a18 (Int32.toNatClampNeg mi) (-1 : Int32), upd a19 (Int32.toNatClampNeg mi) (0 : Int32), upd a20 (Int32.toNatClampNeg mi) (-1 : Int32), upd a21 (Int32.toNatClampNeg mi) (-1 : Int32), a22, uM 24)
    )
  )

def s_M_isLike (a18 : Nat → Int32) (a19 : Nat → Int32) (mi : Int32) (nj : Int32) : Int32 :=
  if (a18 (Int32.toNatClampNeg mi)) = (a18 (Int32.toNatClampNeg nj)) then (
    if (a19 (Int32.toNatClampNeg mi)) = (a19 (Int32.toNatClampNeg nj)) then (
      1
    ) else (
      0
    )
  ) else (
    0
  )

def s_M_vote (uM : Nat → Int32) (a11 : Nat → Int32) (a18 : Nat → Int32) (a19 : Nat → Int32) (a23 : Nat → Int32) : Int32 × (Nat → Int32) × Int32 :=
  if (a11 0) = 0 then (
    if (a11 1) = 0 then (
      if (a11 2) = 0 then (
        bnd (s_M_isLike a18 a19 0 1) (fun r19 =>
          if r19 = 0 then (
            bnd (s_M_isLike a18 a19 0 2) (fun r25 =>
              if r25 = 0 then (
                bnd (s_M_isLike a18 a19 1 2) (fun r28 =>
                  if r28 = 0 then (
                    ((-1), a23, upc uM 7 ((uM 7) + (1 : Int32)) 7)
                  ) else (
                    (1, upd a23 0 (1 : Int32), upc uM 7 ((uM 7) + (1 : Int32)) 7)
                  )
                )
              ) else (
                (0, upd a23 1 (1 : Int32), upc uM 7 ((uM 7) + (1 : Int32)) 7)
              )
            )
          ) else (
            bnd (s_M_isLike a18 a19 1 2) (fun r31 =>
              if r31 = 0 then (
                (0, upd a23 2 (1 : Int32), upc uM 7 ((uM 7) + (1 : Int32)) 7)
              ) else (
                (0, a23, uM 7)
              )
            )
          )
        )
      ) else (
        bnd (s_M_isLike a18 a19 0 1) (fun r40 =>
          if r40 = 0 then (
            if (a19 0) = (a19 1) then (
              ((-1), a23, (uM 7) + (1 : Int32))
            ) else (
              if (a19 0) = 0 then (
                (0, upd a23 1 (1 : Int32), (uM 7) + (1 : Int32))
              ) else (
                (1, upd a23 0 (1 : Int32), (uM 7) + (1 : Int32))
              )
            )
          ) else (
            (0, a23, uM 7)
          )
        )
      )
    ) else (
      if (a11 2) = 0 then (
        bnd (s_M_isLike a18 a19 0 2) (fun r55 =>
          if r55 = 0 then (
            if (a19 0) = (a19 2) then (
              ((-1), a23, (uM 7) + (1 : Int32))
            ) else (
              if (a19 0) = 0 then (
                (0, upd a23 2 (1 : Int32), (uM 7) + (1 : Int32))
              ) else (
                (2, upd a23 0 (1 : Int32), (uM 7) + (1 : Int32))
              )
            )
          ) else (
            (0, a23, uM 7)
          )
        )
      ) else (
        (0, a23, uM 7)
      )
    )
  ) else (
    if (a11 1) = 0 then (
      if (a11 2) = 0 then (
        bnd (s_M_isLike a18 a19 1 2) (fun r77 =>
          if r77 = 0 then (
            if (a19 1) = (a19 2) then (
              ((-1), a23, (uM 7) + (1 : Int32))
            ) else (
              if (a19 1) = 0 then (
                (1, upd a23 2 (1 : Int32), (uM 7) + (1 : Int32))
              ) else (
                (2, upd a23 1 (1 : Int32), (uM 7) + (1 : Int32))
              )
            )
          ) else (
            (1, a23, uM 7)
          )
        )
      ) else (
        (1, a23, uM 7)
      )
    ) else (
      if (a11 2) = 0 then (
        (2, a23, uM 7)
      ) else (
        (0, fun _ => 0, 0)
      )
    )
  )

def s_M_agreed_cut49_3 (wt : Nat) (a30 : Nat → Int32) (a8 : Nat → Int32) (us2 : Nat) (w2 : Int32) (w3 : Int32) : (Nat → Int32) × (Nat → Int32) × Nat × Nat :=
  if 0 ≤ w2 then (
    if 300 ≤ (nI wt) then (
      (a8, a30, us2, wt + 1)
    ) else (
      (a8, upd a30 (Int32.toNatClampNeg (nI wt)) w2, us2, wt + 1)
    )
  ) else (
    (a8, a30, us2, wt)
  )
def s_M_agreed_cut49_2 (wt : Nat) (a11 : Nat → Int32) (a20 : Nat → Int32) (a30 : Nat → Int32) (a8 : Nat → Int32) (us2 : Nat) (w2 : Int32) (w3 : Int32) : (Nat → Int32) × (Nat → Int32) × Nat × Nat :=
  if (a11 2) = 0 then (
    if (a20 2) = (-1) then (
      s_M_agreed_cut49_3 wt a30 a8 us2 w2 w3
    ) else (
      s_M_agreed_cut49_3 wt a30 (upd a8 (Int32.toNatClampNeg (((8 : Int32) * (2 : Int32)) + (a20 2))) w3) us2 w2 w3
    )
  ) else (
    s_M_agreed_cut49_3 wt a30 a8 us2 w2 w3
  )
def s_M_agreed_cut49_1 (wt : Nat) (a11 : Nat → Int32) (a20 : Nat → Int32) (a30 : Nat → Int32) (a8 : Nat → Int32) (us2 : Nat) (w2 : Int32) (w3 : Int32) : (Nat → Int32) × (Nat → Int32) × Nat × Nat :=
  if (a11 1) = 0 then (
    if (a20 1) = (-1) then (
      s_M_agreed_cut49_2 wt a11 a20 a30 a8 us2 w2 w3
    ) else (
      s_M_agreed_cut49_2 wt a11 a20 a30 (upd a8 (Int32.toNatClampNeg (((8 : Int32) * (1 : Int32)) + (a20 1))) w3) us2 w2 w3
    )
  ) else (
    s_M_agreed_cut49_2 wt a11 a20 a30 a8 us2 w2 w3
  )
def s_M_agreed_cut49_0 (wt : Nat) (a11 : Nat → Int32) (a20 : Nat → Int32) (a30 : Nat → Int32) (a8 : Nat → Int32) (us2 : Nat) (w2 : Int32) (w3 : Int32) : (Nat → Int32) × (Nat → Int32) × Nat × Nat :=
  if (a11 0) = 0 then (
    if (a20 0) = (-1) then (
      s_M_agreed_cut49_1 wt a11 a20 a30 a8 us2 w2 w3
    ) else (
      s_M_agreed_cut49_1 wt a11 a20 a30 (upd a8 (Int32.toNatClampNeg (((8 : Int32) * (0 : Int32)) + (a20 0))) w3) us2 w2 w3
    )
  ) else (
    s_M_agreed_cut49_1 wt a11 a20 a30 a8 us2 w2 w3
  )
def s_M_agreed (cm : Nat) (us : Nat) (wt : Nat) (a8 : Nat → Int32) (a11 : Nat → Int32) (a18 : Nat → Int32) (a20 : Nat → Int32) (a28 : Nat → Int32) (a30 : Nat → Int32) (mi : Int32) : (Nat → Int32) × (Nat → Int32) × Nat × Nat :=
  if (a18 (Int32.toNatClampNeg mi)) = (-2) then (
    if (nI cm) ≤ (nI us) then (
      s_M_agreed_cut49_0 wt a11 a20 a30 a8 us (a18 (Int32.toNatClampNeg mi)) 0
    ) else (
      s_M_agreed_cut49_0 wt a11 a20 a30 a8 (us + 1) (a18 (Int32.toNatClampNeg mi)) (a28 (Int32.toNatClampNeg (nI us)))
    )
  ) else (
    s_M_agreed_cut49_0 wt a11 a20 a30 a8 us (a18 (Int32.toNatClampNeg mi)) 0
  )

def s_M_lowest (a11 : Nat → Int32) (a23 : Nat → Int32) (zb : Int32) : Int32 :=
  if (a11 0) = 0 then (
    if zb = 0 then (
      0
    ) else (
      if (a23 0) = 0 then (
        0
      ) else (
        if (a11 1) = 0 then (
          if (a23 1) = 0 then (
            1
          ) else (
            if (a11 2) = 0 then (
              if (a23 2) = 0 then (
                2
              ) else (
                (-1)
              )
            ) else (
              (-1)
            )
          )
        ) else (
          if (a11 2) = 0 then (
            if (a23 2) = 0 then (
              2
            ) else (
              (-1)
            )
          ) else (
            (-1)
          )
        )
      )
    )
  ) else (
    if (a11 1) = 0 then (
      if zb = 0 then (
        1
      ) else (
        if (a23 1) = 0 then (
          1
        ) else (
          if (a11 2) = 0 then (
            if (a23 2) = 0 then (
              2
            ) else (
              (-1)
            )
          ) else (
            (-1)
          )
        )
      )
    ) else (
      if (a11 2) = 0 then (
        if zb = 0 then (
          2
        ) else (
          if (a23 2) = 0 then (
            2
          ) else (
            (-1)
          )
        )
      ) else (
        (-1)
      )
    )
  )

def s_M_copyStore_cut0_24_3  (a9 : Nat → Int32) : (Nat → Int32) :=
  a9
def s_M_copyStore_cut0_24_2 (a11 : Nat → Int32) (a12 : Nat → Int32) (a21 : Nat → Int32) (a22 : Nat → Int32) (a9 : Nat → Int32) : (Nat → Int32) :=
  if (a11 2) = 1 then (
    if (a12 2) ≤ (a21 0) then (
      s_M_copyStore_cut0_24_3 a9
    ) else (
      bnd (s_M_encode (a22 0)) (fun r5 =>
        s_M_copyStore_cut0_24_3 (upd a9 (Int32.toNatClampNeg (((32 : Int32) * (2 : Int32)) + (a21 0))) r5)
      )
    )
  ) else (
    s_M_copyStore_cut0_24_3 a9
  )
def s_M_copyStore_cut0_24_1 (a11 : Nat → Int32) (a12 : Nat → Int32) (a21 : Nat → Int32) (a22 : Nat → Int32) (a9 : Nat → Int32) : (Nat → Int32) :=
  if (a11 1) = 1 then (
    if (a12 1) ≤ (a21 0) then (
      s_M_copyStore_cut0_24_2 a11 a12 a21 a22 a9
    ) else (
      bnd (s_M_encode (a22 0)) (fun r10 =>
        s_M_copyStore_cut0_24_2 a11 a12 a21 a22 (upd a9 (Int32.toNatClampNeg (((32 : Int32) * (1 : Int32)) + (a21 0))) r10)
      )
    )
  ) else (
    s_M_copyStore_cut0_24_2 a11 a12 a21 a22 a9
  )
def s_M_copyStore_cut0_24_0 (a11 : Nat → Int32) (a12 : Nat → Int32) (a21 : Nat → Int32) (a22 : Nat → Int32) (a9 : Nat → Int32) : (Nat → Int32) :=
  if (a11 0) = 1 then (
    if (a12 0) ≤ (a21 0) then (
      s_M_copyStore_cut0_24_1 a11 a12 a21 a22 a9
    ) else (
      bnd (s_M_encode (a22 0)) (fun r15 =>
        s_M_copyStore_cut0_24_1 a11 a12 a21 a22 (upd a9 (Int32.toNatClampNeg (((32 : Int32) * (0 : Int32)) + (a21 0))) r15)
      )
    )
  ) else (
    s_M_copyStore_cut0_24_1 a11 a12 a21 a22 a9
  )
def s_M_copyStore_cut1_24_3  (a9 : Nat → Int32) : (Nat → Int32) :=
  a9
def s_M_copyStore_cut1_24_2 (a11 : Nat → Int32) (a12 : Nat → Int32) (a21 : Nat → Int32) (a22 : Nat → Int32) (a9 : Nat → Int32) : (Nat → Int32) :=
  if (a11 2) = 1 then (
    if (a12 2) ≤ (a21 1) then (
      s_M_copyStore_cut1_24_3 a9
    ) else (
      bnd (s_M_encode (a22 1)) (fun r21 =>
        s_M_copyStore_cut1_24_3 (upd a9 (Int32.toNatClampNeg (((32 : Int32) * (2 : Int32)) + (a21 1))) r21)
      )
    )
  ) else (
    s_M_copyStore_cut1_24_3 a9
  )
def s_M_copyStore_cut1_24_1 (a11 : Nat → Int32) (a12 : Nat → Int32) (a21 : Nat → Int32) (a22 : Nat → Int32) (a9 : Nat → Int32) : (Nat → Int32) :=
  if (a11 1) = 1 then (
    if (a12 1) ≤ (a21 1) then (
      s_M_copyStore_cut1_24_2 a11 a12 a21 a22 a9
    ) else (
      bnd (s_M_encode (a22 1)) (fun r26 =>
        s_M_copyStore_cut1_24_2 a11 a12 a21 a22 (upd a9 (Int32.toNatClampNeg (((32 : Int32) * (1 : Int32)) + (a21 1))) r26)
      )
    )
  ) else (
    s_M_copyStore_cut1_24_2 a11 a12 a21 a22 a9
  )
def s_M_copyStore_cut1_24_0 (a11 : Nat → Int32) (a12 : Nat → Int32) (a21 : Nat → Int32) (a22 : Nat → Int32) (a9 : Nat → Int32) : (Nat → Int32) :=
  if (a11 0) = 1 then (
    if (a12 0) ≤ (a21 1) then (
      s_M_copyStore_cut1_24_1 a11 a12 a21 a22 a9
    ) else (
      bnd (s_M_encode (a22 1)) (fun r31 =>
        s_M_copyStore_cut1_24_1 a11 a12 a21 a22 (upd a9 (Int32.toNatClampNeg (((32 : Int32) * (0 : Int32)) + (a21 1))) r31)
      )
    )
  ) else (
    s_M_copyStore_cut1_24_1 a11 a12 a21 a22 a9
  )
def s_M_copyStore_cut2_24_3  (a9 : Nat → Int32) : (Nat → Int32) :=
  a9
def s_M_copyStore_cut2_24_2 (a11 : Nat → Int32) (a12 : Nat → Int32) (a21 : Nat → Int32) (a22 : Nat → Int32) (a9 : Nat → Int32) : (Nat → Int32) :=
  if (a11 2) = 1 then (
    if (a12 2) ≤ (a21 2) then (
      s_M_copyStore_cut2_24_3 a9
    ) else (
      bnd (s_M_encode (a22 2)) (fun r37 =>
        s_M_copyStore_cut2_24_3 (upd a9 (Int32.toNatClampNeg (((32 : Int32) * (2 : Int32)) + (a21 2))) r37)
      )
    )
  ) else (
    s_M_copyStore_cut2_24_3 a9
  )
def s_M_copyStore_cut2_24_1 (a11 : Nat → Int32) (a12 : Nat → Int32) (a21 : Nat → Int32) (a22 : Nat → Int32) (a9 : Nat → Int32) : (Nat → Int32) :=
  if (a11 1) = 1 then (
    if (a12 1) ≤ (a21 2) then (
      s_M_copyStore_cut2_24_2 a11 a12 a21 a22 a9
    ) else (
      bnd (s_M_encode (a22 2)) (fun r42 =>
        s_M_copyStore_cut2_24_2 a11 a12 a21 a22 (upd a9 (Int32.toNatClampNeg (((32 : Int32) * (1 : Int32)) + (a21 2))) r42)
      )
    )
  ) else (
    s_M_copyStore_cut2_24_2 a11 a12 a21 a22 a9
  )
def s_M_copyStore_cut2_24_0 (a11 : Nat → Int32) (a12 : Nat → Int32) (a21 : Nat → Int32) (a22 : Nat → Int32) (a9 : Nat → Int32) : (Nat → Int32) :=
  if (a11 0) = 1 then (
    if (a12 0) ≤ (a21 2) then (
      s_M_copyStore_cut2_24_1 a11 a12 a21 a22 a9
    ) else (
      bnd (s_M_encode (a22 2)) (fun r47 =>
        s_M_copyStore_cut2_24_1 a11 a12 a21 a22 (upd a9 (Int32.toNatClampNeg (((32 : Int32) * (0 : Int32)) + (a21 2))) r47)
      )
    )
  ) else (
    s_M_copyStore_cut2_24_1 a11 a12 a21 a22 a9
  )
def s_M_copyStore (a9 : Nat → Int32) (a11 : Nat → Int32) (a12 : Nat → Int32) (a21 : Nat → Int32) (a22 : Nat → Int32) (a23 : Nat → Int32) : (Nat → Int32) :=
  bnd (s_M_lowest a11 a23 1) (fun r49 =>
    if r49 = (-1) then (
      a9
    ) else (
      if r49 = 0 then (
        if (a21 0) = (-1) then (
          a9
        ) else (
          s_M_copyStore_cut0_24_0 a11 a12 a21 a22 a9
        )
      ) else (
        if r49 = 1 then (
          if (a21 1) = (-1) then (
            a9
          ) else (
            s_M_copyStore_cut1_24_0 a11 a12 a21 a22 a9
          )
        ) else (
          if (a21 2) = (-1) then (
            a9
          ) else (
            s_M_copyStore_cut2_24_0 a11 a12 a21 a22 a9
          )
        )
      )
    )
  )

def s_M_scrub_cut91_3 (uM : Nat → Int32) (y24 : Int32) (a9 : Nat → Int32) (a16 : Nat → Int32) (a19 : Nat → Int32) (a23 : Nat → Int32) : Int32 × (Nat → Int32) × (Nat → Int32) × (Nat → Int32) × (Nat → Int32) × Int32 :=
  (1, a9, a16, a19, a23, upc uM 24 y24 24)
def s_M_scrub_cut91_2 (uM : Nat → Int32) (y24 : Int32) (a9 : Nat → Int32) (a16 : Nat → Int32) (a19 : Nat → Int32) (a23 : Nat → Int32) : Int32 × (Nat → Int32) × (Nat → Int32) × (Nat → Int32) × (Nat → Int32) × Int32 :=
  if (a23 2) = 0 then (
    if (a19 2) = 0 then (
      s_M_scrub_cut91_3 uM (upc uM 24 y24 24) a9 a16 a19 (upd a23 2 (0 : Int32))
    ) else (
      s_M_scrub_cut91_3 uM (upc uM 24 y24 24) a9 a16 a19 (upd a23 2 (1 : Int32))
    )
  ) else (
    s_M_scrub_cut91_3 uM (upc uM 24 y24 24) a9 a16 a19 (upd a23 2 (1 : Int32))
  )
def s_M_scrub_cut91_1 (uM : Nat → Int32) (y24 : Int32) (a9 : Nat → Int32) (a16 : Nat → Int32) (a19 : Nat → Int32) (a23 : Nat → Int32) : Int32 × (Nat → Int32) × (Nat → Int32) × (Nat → Int32) × (Nat → Int32) × Int32 :=
  if (a23 1) = 0 then (
    if (a19 1) = 0 then (
      s_M_scrub_cut91_2 uM (upc uM 24 y24 24) a9 a16 a19 (upd a23 1 (0 : Int32))
    ) else (
      s_M_scrub_cut91_2 uM (upc uM 24 y24 24) a9 a16 a19 (upd a23 1 (1 : Int32))
    )
  ) else (
    s_M_scrub_cut91_2 uM (upc uM 24 y24 24) a9 a16 a19 (upd a23 1 (1 : Int32))
  )
def s_M_scrub_cut91_0 (uM : Nat → Int32) (y24 : Int32) (a9 : Nat → Int32) (a16 : Nat → Int32) (a19 : Nat → Int32) (a23 : Nat → Int32) : Int32 × (Nat → Int32) × (Nat → Int32) × (Nat → Int32) × (Nat → Int32) × Int32 :=
  if (a23 0) = 0 then (
    if (a19 0) = 0 then (
      s_M_scrub_cut91_1 uM (upc uM 24 y24 24) a9 a16 a19 (upd a23 0 (0 : Int32))
    ) else (
      s_M_scrub_cut91_1 uM (upc uM 24 y24 24) a9 a16 a19 (upd a23 0 (1 : Int32))
    )
  ) else (
    s_M_scrub_cut91_1 uM (upc uM 24 y24 24) a9 a16 a19 (upd a23 0 (1 : Int32))
  )
def s_M_scrub_cut4_3 (uM : Nat → Int32) (y24 : Int32) (a9 : Nat → Int32) (a16 : Nat → Int32) (a19 : Nat → Int32) (a23 : Nat → Int32) (w1 : Int32) : Int32 × (Nat → Int32) × (Nat → Int32) × (Nat → Int32) × (Nat → Int32) × Int32 :=
  if w1 = 0 then (
    s_M_scrub_cut91_0 uM (upc uM 24 y24 24) a9 a16 a19 a23
  ) else (
    (0, a9, a16, a19, a23, upc uM 24 y24 24)
  )
def s_M_scrub_cut4_2 (uM : Nat → Int32) (sn : Nat) (a11 : Nat → Int32) (y24 : Int32) (a9 : Nat → Int32) (a16 : Nat → Int32) (a19 : Nat → Int32) (a23 : Nat → Int32) (w1 : Int32) : Int32 × (Nat → Int32) × (Nat → Int32) × (Nat → Int32) × (Nat → Int32) × Int32 :=
  if (a11 2) = 0 then (
    if (a23 2) = 0 then (
      bnd (s_M_read a9 a16 2 ((nI sn) - (nI sn) / (32 : Int32) * (32 : Int32))) (fun (r16, a9n18, a16n19, y2420) =>
        if w1 = 0 then (
          s_M_scrub_cut4_3 uM (upc (upc uM 24 y24) 24 y2420 24) a9n18 a16n19 (upd (upd a19 2 (0 : Int32)) 2 (vp_nar .boolean (upc (upc uM 24 y24) 24 y2420 24))) a23 0
        ) else (
          if (upc (upc uM 24 y24) 24 y2420 24) = 0 then (
            s_M_scrub_cut4_3 uM (upc (upc uM 24 y24) 24 y2420 24) a9n18 a16n19 (upd (upd a19 2 (0 : Int32)) 2 (vp_nar .boolean (upc (upc uM 24 y24) 24 y2420 24))) a23 0
          ) else (
            s_M_scrub_cut4_3 uM (upc (upc uM 24 y24) 24 y2420 24) a9n18 a16n19 (upd (upd a19 2 (0 : Int32)) 2 (vp_nar .boolean (upc (upc uM 24 y24) 24 y2420 24))) a23 1
          )
        )
      )
    ) else (
      s_M_scrub_cut4_3 uM (upc uM 24 y24 24) a9 a16 (upd a19 2 (0 : Int32)) a23 w1
    )
  ) else (
    s_M_scrub_cut4_3 uM (upc uM 24 y24 24) a9 a16 (upd a19 2 (0 : Int32)) a23 w1
  )
def s_M_scrub_cut4_1 (uM : Nat → Int32) (sn : Nat) (a11 : Nat → Int32) (y24 : Int32) (a9 : Nat → Int32) (a16 : Nat → Int32) (a19 : Nat → Int32) (a23 : Nat → Int32) (w1 : Int32) : Int32 × (Nat → Int32) × (Nat → Int32) × (Nat → Int32) × (Nat → Int32) × Int32 :=
  if (a11 1) = 0 then (
    if (a23 1) = 0 then (
      bnd (s_M_read a9 a16 1 ((nI sn) - (nI sn) / (32 : Int32) * (32 : Int32))) (fun (r27, a9n29, a16n30, y2431) =>
        if w1 = 0 then (
          s_M_scrub_cut4_2 uM sn a11 (upc (upc uM 24 y24) 24 y2431 24) a9n29 a16n30 (upd (upd a19 1 (0 : Int32)) 1 (vp_nar .boolean (upc (upc uM 24 y24) 24 y2431 24))) a23 0
        ) else (
          if (upc (upc uM 24 y24) 24 y2431 24) = 0 then (
            s_M_scrub_cut4_2 uM sn a11 (upc (upc uM 24 y24) 24 y2431 24) a9n29 a16n30 (upd (upd a19 1 (0 : Int32)) 1 (vp_nar .boolean (upc (upc uM 24 y24) 24 y2431 24))) a23 0
          ) else (
            s_M_scrub_cut4_2 uM sn a11 (upc (upc uM 24 y24) 24 y2431 24) a9n29 a16n30 (upd (upd a19 1 (0 : Int32)) 1 (vp_nar .boolean (upc (upc uM 24 y24) 24 y2431 24))) a23 1
          )
        )
      )
    ) else (
      s_M_scrub_cut4_2 uM sn a11 (upc uM 24 y24 24) a9 a16 (upd a19 1 (0 : Int32)) a23 w1
    )
  ) else (
    s_M_scrub_cut4_2 uM sn a11 (upc uM 24 y24 24) a9 a16 (upd a19 1 (0 : Int32)) a23 w1
  )
def s_M_scrub (uM : Nat → Int32) (sn : Nat) (a9 : Nat → Int32) (a11 : Nat → Int32) (a16 : Nat → Int32) (a19 : Nat → Int32) (a23 : Nat → Int32) : Int32 × (Nat → Int32) × (Nat → Int32) × (Nat → Int32) × (Nat → Int32) × Int32 :=
  if (a11 0) = 0 then (
    if (a23 0) = 0 then (
      bnd (s_M_read a9 a16 0 ((nI sn) - (nI sn) / (32 : Int32) * (32 : Int32))) (fun (r38, a9n40, a16n41, y2442) =>
        if (upc uM 24 y2442 24) = 0 then (
          s_M_scrub_cut4_1 uM sn a11 (upc uM 24 y2442 24) a9n40 a16n41 (upd (upd a19 0 (0 : Int32)) 0 (vp_nar .boolean (upc uM 24 y2442 24))) a23 0
        ) else (
          s_M_scrub_cut4_1 uM sn a11 (upc uM 24 y2442 24) a9n40 a16n41 (upd (upd a19 0 (0 : Int32)) 0 (vp_nar .boolean (upc uM 24 y2442 24))) a23 1
        )
      )
    ) else (
      s_M_scrub_cut4_1 uM sn a11 (uM 24) a9 a16 (upd a19 0 (0 : Int32)) a23 1
    )
  ) else (
    s_M_scrub_cut4_1 uM sn a11 (uM 24) a9 a16 (upd a19 0 (0 : Int32)) a23 1
  )

def s_M_digest_loop9 (a8 : Nat → Int32) (mi : Int32) : Nat → (Nat) → (Int32) → Int32
  | 0, i, w2 =>
    w2
  | n9 + 1, i, w2 =>
    s_M_digest_loop9 a8 mi n9 (i + 1) (w2 ^^^ ((((a8 (Int32.toNatClampNeg (((8 : Int32) * mi) + (nI i)))) <<< ((nI i) &&& 31)) ||| (ush (a8 (Int32.toNatClampNeg (((8 : Int32) * mi) + (nI i)))) ((16 : Int32) - (nI i)))) &&& (65535 : Int32)))
def s_M_digest (a8 : Nat → Int32) (a10 : Nat → Int32) (mi : Int32) : Int32 :=
  s_M_digest_loop9 a8 mi 8 0 (a10 (Int32.toNatClampNeg mi))

def s_M_compareDigests_cb55_3 (a23 : Nat → Int32) (w1 : Int32) (w2 : Int32) (w3 : Int32) : Int32 × (Nat → Int32) :=
  if w3 = w1 then (
    (1, a23)
  ) else (
    if w1 = 2 then (
      (0, a23)
    ) else (
      if w3 = 0 then (
        (0, a23)
      ) else (
        if w2 = (-1) then (
          (0, fun _ => 0)
        ) else (
          if w2 = 0 then (
            (1, upd a23 0 (1 : Int32))
          ) else (
            if w2 = 1 then (
              (1, upd a23 1 (1 : Int32))
            ) else (
              (1, upd a23 2 (1 : Int32))
            )
          )
        )
      )
    )
  )
def s_M_compareDigests_cc2_90_3 (a23 : Nat → Int32) (w1 : Int32) (w2 : Int32) (w3 : Int32) (w5 : Int32) : Int32 × (Nat → Int32) :=
  if w5 = 0 then (
    s_M_compareDigests_cb55_3 a23 w1 2 w3
  ) else (
    s_M_compareDigests_cb55_3 a23 w1 w2 (w3 + 1)
  )
def s_M_compareDigests_cc2_90_2 (a23 : Nat → Int32) (w1 : Int32) (w2 : Int32) (w3 : Int32) (w5 : Int32) : Int32 × (Nat → Int32) :=
  s_M_compareDigests_cc2_90_3 a23 w1 w2 w3 (w5 + (0 : Int32))
def s_M_compareDigests_cc2_90_1 (a8 : Nat → Int32) (a10 : Nat → Int32) (a11 : Nat → Int32) (a23 : Nat → Int32) (w1 : Int32) (w2 : Int32) (w3 : Int32) (w5 : Int32) : Int32 × (Nat → Int32) :=
  if (a11 1) = 0 then (
    if (a23 1) = 0 then (
      bnd (s_M_digest a8 a10 1) (fun r13 =>
        bnd (s_M_digest a8 a10 2) (fun r15 =>
          if r13 = r15 then (
            s_M_compareDigests_cc2_90_2 a23 w1 w2 w3 (w5 + (1 : Int32))
          ) else (
            s_M_compareDigests_cc2_90_2 a23 w1 w2 w3 (w5 + (0 : Int32))
          )
        )
      )
    ) else (
      s_M_compareDigests_cc2_90_2 a23 w1 w2 w3 (w5 + (0 : Int32))
    )
  ) else (
    s_M_compareDigests_cc2_90_2 a23 w1 w2 w3 (w5 + (0 : Int32))
  )
def s_M_compareDigests_cc2_90_0 (a8 : Nat → Int32) (a10 : Nat → Int32) (a11 : Nat → Int32) (a23 : Nat → Int32) (w1 : Int32) (w2 : Int32) (w3 : Int32) (w5 : Int32) : Int32 × (Nat → Int32) :=
  if (a11 0) = 0 then (
    if (a23 0) = 0 then (
      bnd (s_M_digest a8 a10 0) (fun r22 =>
        bnd (s_M_digest a8 a10 2) (fun r24 =>
          if r22 = r24 then (
            s_M_compareDigests_cc2_90_1 a8 a10 a11 a23 w1 w2 w3 (w5 + (1 : Int32))
          ) else (
            s_M_compareDigests_cc2_90_1 a8 a10 a11 a23 w1 w2 w3 (w5 + (0 : Int32))
          )
        )
      )
    ) else (
      s_M_compareDigests_cc2_90_1 a8 a10 a11 a23 w1 w2 w3 (w5 + (0 : Int32))
    )
  ) else (
    s_M_compareDigests_cc2_90_1 a8 a10 a11 a23 w1 w2 w3 (w5 + (0 : Int32))
  )
def s_M_compareDigests_cb55_2 (a8 : Nat → Int32) (a10 : Nat → Int32) (a11 : Nat → Int32) (a23 : Nat → Int32) (w1 : Int32) (w2 : Int32) (w3 : Int32) : Int32 × (Nat → Int32) :=
  if (a11 2) = 0 then (
    if (a23 2) = 0 then (
      s_M_compareDigests_cc2_90_0 a8 a10 a11 a23 w1 w2 w3 0
    ) else (
      s_M_compareDigests_cb55_3 a23 w1 w2 w3
    )
  ) else (
    s_M_compareDigests_cb55_3 a23 w1 w2 w3
  )
def s_M_compareDigests_cc1_90_3 (a8 : Nat → Int32) (a10 : Nat → Int32) (a11 : Nat → Int32) (a23 : Nat → Int32) (w1 : Int32) (w2 : Int32) (w3 : Int32) (w5 : Int32) : Int32 × (Nat → Int32) :=
  if w5 = 0 then (
    s_M_compareDigests_cb55_2 a8 a10 a11 a23 w1 1 w3
  ) else (
    s_M_compareDigests_cb55_2 a8 a10 a11 a23 w1 w2 (w3 + 1)
  )
def s_M_compareDigests_cc1_90_2 (a8 : Nat → Int32) (a10 : Nat → Int32) (a11 : Nat → Int32) (a23 : Nat → Int32) (w1 : Int32) (w2 : Int32) (w3 : Int32) (w5 : Int32) : Int32 × (Nat → Int32) :=
  if (a11 2) = 0 then (
    if (a23 2) = 0 then (
      bnd (s_M_digest a8 a10 2) (fun r36 =>
        bnd (s_M_digest a8 a10 1) (fun r38 =>
          if r36 = r38 then (
            s_M_compareDigests_cc1_90_3 a8 a10 a11 a23 w1 w2 w3 (w5 + (1 : Int32))
          ) else (
            s_M_compareDigests_cc1_90_3 a8 a10 a11 a23 w1 w2 w3 (w5 + (0 : Int32))
          )
        )
      )
    ) else (
      s_M_compareDigests_cc1_90_3 a8 a10 a11 a23 w1 w2 w3 (w5 + (0 : Int32))
    )
  ) else (
    s_M_compareDigests_cc1_90_3 a8 a10 a11 a23 w1 w2 w3 (w5 + (0 : Int32))
  )
def s_M_compareDigests_cc1_90_1 (a8 : Nat → Int32) (a10 : Nat → Int32) (a11 : Nat → Int32) (a23 : Nat → Int32) (w1 : Int32) (w2 : Int32) (w3 : Int32) (w5 : Int32) : Int32 × (Nat → Int32) :=
  s_M_compareDigests_cc1_90_2 a8 a10 a11 a23 w1 w2 w3 (w5 + (0 : Int32))
def s_M_compareDigests_cc1_90_0 (a8 : Nat → Int32) (a10 : Nat → Int32) (a11 : Nat → Int32) (a23 : Nat → Int32) (w1 : Int32) (w2 : Int32) (w3 : Int32) (w5 : Int32) : Int32 × (Nat → Int32) :=
  if (a11 0) = 0 then (
    if (a23 0) = 0 then (
      bnd (s_M_digest a8 a10 0) (fun r47 =>
        bnd (s_M_digest a8 a10 1) (fun r49 =>
          if r47 = r49 then (
            s_M_compareDigests_cc1_90_1 a8 a10 a11 a23 w1 w2 w3 (w5 + (1 : Int32))
          ) else (
            s_M_compareDigests_cc1_90_1 a8 a10 a11 a23 w1 w2 w3 (w5 + (0 : Int32))
          )
        )
      )
    ) else (
      s_M_compareDigests_cc1_90_1 a8 a10 a11 a23 w1 w2 w3 (w5 + (0 : Int32))
    )
  ) else (
    s_M_compareDigests_cc1_90_1 a8 a10 a11 a23 w1 w2 w3 (w5 + (0 : Int32))
  )
def s_M_compareDigests_cb55_1 (a8 : Nat → Int32) (a10 : Nat → Int32) (a11 : Nat → Int32) (a23 : Nat → Int32) (w1 : Int32) (w2 : Int32) (w3 : Int32) : Int32 × (Nat → Int32) :=
  if (a11 1) = 0 then (
    if (a23 1) = 0 then (
      s_M_compareDigests_cc1_90_0 a8 a10 a11 a23 w1 w2 w3 0
    ) else (
      s_M_compareDigests_cb55_2 a8 a10 a11 a23 w1 w2 w3
    )
  ) else (
    s_M_compareDigests_cb55_2 a8 a10 a11 a23 w1 w2 w3
  )
def s_M_compareDigests_cc0_90_3 (a8 : Nat → Int32) (a10 : Nat → Int32) (a11 : Nat → Int32) (a23 : Nat → Int32) (w1 : Int32) (w2 : Int32) (w3 : Int32) (w5 : Int32) : Int32 × (Nat → Int32) :=
  if w5 = 0 then (
    s_M_compareDigests_cb55_1 a8 a10 a11 a23 w1 0 w3
  ) else (
    s_M_compareDigests_cb55_1 a8 a10 a11 a23 w1 w2 (w3 + 1)
  )
def s_M_compareDigests_cc0_90_2 (a8 : Nat → Int32) (a10 : Nat → Int32) (a11 : Nat → Int32) (a23 : Nat → Int32) (w1 : Int32) (w2 : Int32) (w3 : Int32) (w5 : Int32) : Int32 × (Nat → Int32) :=
  if (a11 2) = 0 then (
    if (a23 2) = 0 then (
      bnd (s_M_digest a8 a10 2) (fun r61 =>
        bnd (s_M_digest a8 a10 0) (fun r63 =>
          if r61 = r63 then (
            s_M_compareDigests_cc0_90_3 a8 a10 a11 a23 w1 w2 w3 (w5 + (1 : Int32))
          ) else (
            s_M_compareDigests_cc0_90_3 a8 a10 a11 a23 w1 w2 w3 (w5 + (0 : Int32))
          )
        )
      )
    ) else (
      s_M_compareDigests_cc0_90_3 a8 a10 a11 a23 w1 w2 w3 (w5 + (0 : Int32))
    )
  ) else (
    s_M_compareDigests_cc0_90_3 a8 a10 a11 a23 w1 w2 w3 (w5 + (0 : Int32))
  )
def s_M_compareDigests_cc0_90_1 (a8 : Nat → Int32) (a10 : Nat → Int32) (a11 : Nat → Int32) (a23 : Nat → Int32) (w1 : Int32) (w2 : Int32) (w3 : Int32) (w5 : Int32) : Int32 × (Nat → Int32) :=
  if (a11 1) = 0 then (
    if (a23 1) = 0 then (
      bnd (s_M_digest a8 a10 1) (fun r70 =>
        bnd (s_M_digest a8 a10 0) (fun r72 =>
          if r70 = r72 then (
            s_M_compareDigests_cc0_90_2 a8 a10 a11 a23 w1 w2 w3 (w5 + (1 : Int32))
          ) else (
            s_M_compareDigests_cc0_90_2 a8 a10 a11 a23 w1 w2 w3 (w5 + (0 : Int32))
          )
        )
      )
    ) else (
      s_M_compareDigests_cc0_90_2 a8 a10 a11 a23 w1 w2 w3 (w5 + (0 : Int32))
    )
  ) else (
    s_M_compareDigests_cc0_90_2 a8 a10 a11 a23 w1 w2 w3 (w5 + (0 : Int32))
  )
def s_M_compareDigests_cc0_90_0 (a8 : Nat → Int32) (a10 : Nat → Int32) (a11 : Nat → Int32) (a23 : Nat → Int32) (w1 : Int32) (w2 : Int32) (w3 : Int32) (w5 : Int32) : Int32 × (Nat → Int32) :=
  s_M_compareDigests_cc0_90_1 a8 a10 a11 a23 w1 w2 w3 (w5 + (0 : Int32))
def s_M_compareDigests_cb55_0 (a8 : Nat → Int32) (a10 : Nat → Int32) (a11 : Nat → Int32) (a23 : Nat → Int32) (w1 : Int32) (w2 : Int32) (w3 : Int32) : Int32 × (Nat → Int32) :=
  if (a11 0) = 0 then (
    if (a23 0) = 0 then (
      s_M_compareDigests_cc0_90_0 a8 a10 a11 a23 w1 w2 w3 0
    ) else (
      s_M_compareDigests_cb55_1 a8 a10 a11 a23 w1 w2 w3
    )
  ) else (
    s_M_compareDigests_cb55_1 a8 a10 a11 a23 w1 w2 w3
  )
def s_M_compareDigests_ca4_3 (a8 : Nat → Int32) (a10 : Nat → Int32) (a11 : Nat → Int32) (a23 : Nat → Int32) (w1 : Int32) : Int32 × (Nat → Int32) :=
  if 2 ≤ w1 then (
    s_M_compareDigests_cb55_0 a8 a10 a11 a23 w1 (-1) 0
  ) else (
    (1, a23)
  )
def s_M_compareDigests_ca4_2 (a8 : Nat → Int32) (a10 : Nat → Int32) (a11 : Nat → Int32) (a23 : Nat → Int32) (w1 : Int32) : Int32 × (Nat → Int32) :=
  if (a11 2) = 0 then (
    if (a23 2) = 0 then (
      s_M_compareDigests_ca4_3 a8 a10 a11 a23 (w1 + (1 : Int32))
    ) else (
      s_M_compareDigests_ca4_3 a8 a10 a11 a23 (w1 + (0 : Int32))
    )
  ) else (
    s_M_compareDigests_ca4_3 a8 a10 a11 a23 (w1 + (0 : Int32))
  )
def s_M_compareDigests_ca4_1 (a8 : Nat → Int32) (a10 : Nat → Int32) (a11 : Nat → Int32) (a23 : Nat → Int32) (w1 : Int32) : Int32 × (Nat → Int32) :=
  if (a11 1) = 0 then (
    if (a23 1) = 0 then (
      s_M_compareDigests_ca4_2 a8 a10 a11 a23 (w1 + (1 : Int32))
    ) else (
      s_M_compareDigests_ca4_2 a8 a10 a11 a23 (w1 + (0 : Int32))
    )
  ) else (
    s_M_compareDigests_ca4_2 a8 a10 a11 a23 (w1 + (0 : Int32))
  )
def s_M_compareDigests_ca4_0 (a8 : Nat → Int32) (a10 : Nat → Int32) (a11 : Nat → Int32) (a23 : Nat → Int32) (w1 : Int32) : Int32 × (Nat → Int32) :=
  if (a11 0) = 0 then (
    if (a23 0) = 0 then (
      s_M_compareDigests_ca4_1 a8 a10 a11 a23 (w1 + (1 : Int32))
    ) else (
      s_M_compareDigests_ca4_1 a8 a10 a11 a23 (w1 + (0 : Int32))
    )
  ) else (
    s_M_compareDigests_ca4_1 a8 a10 a11 a23 (w1 + (0 : Int32))
  )
def s_M_compareDigests (a8 : Nat → Int32) (a10 : Nat → Int32) (a11 : Nat → Int32) (a23 : Nat → Int32) : Int32 × (Nat → Int32) :=
  s_M_compareDigests_ca4_0 a8 a10 a11 a23 0

def s_M_blameAll_cut2_3 (uM : Nat → Int32) (a11 : Nat → Int32) (a12 : Nat → Int32) (a13 : Nat → Int32) (a17 : Nat → Int32) : Int32 × (Nat → Int32) × (Nat → Int32) × (Nat → Int32) × (Nat → Int32) :=
  if 1 < (cn3 a11) then (
    (1, a11, a12, a13, a17)
  ) else (
    if (cn3 a11) = 1 then (
      if (uM 5) = 0 then (
        (0, a11, a12, a13, a17)
      ) else (
        (1, a11, a12, a13, a17)
      )
    ) else (
      (0, a11, a12, a13, a17)
    )
  )
def s_M_blameAll_cut2_2 (uM : Nat → Int32) (a23 : Nat → Int32) (a11 : Nat → Int32) (a12 : Nat → Int32) (a13 : Nat → Int32) (a17 : Nat → Int32) : Int32 × (Nat → Int32) × (Nat → Int32) × (Nat → Int32) × (Nat → Int32) :=
  if (a23 2) = 0 then (
    s_M_blameAll_cut2_3 uM a11 a12 a13 a17
  ) else (
    if ((upd a13 2 ((a13 2) + (20 : Int32))) 2) < 50 then (
      s_M_blameAll_cut2_3 uM (upd a11 2 (1 : Int32)) (upd a12 2 (0 : Int32)) (upd a13 2 ((a13 2) + (20 : Int32))) (upd a17 2 ((a17 2) + (1 : Int32)))
    ) else (
      s_M_blameAll_cut2_3 uM (upd a11 2 (2 : Int32)) (upd a12 2 (0 : Int32)) (upd a13 2 ((a13 2) + (20 : Int32))) (upd a17 2 ((a17 2) + (1 : Int32)))
    )
  )
def s_M_blameAll_cut2_1 (uM : Nat → Int32) (a23 : Nat → Int32) (a11 : Nat → Int32) (a12 : Nat → Int32) (a13 : Nat → Int32) (a17 : Nat → Int32) : Int32 × (Nat → Int32) × (Nat → Int32) × (Nat → Int32) × (Nat → Int32) :=
  if (a23 1) = 0 then (
    s_M_blameAll_cut2_2 uM a23 a11 a12 a13 a17
  ) else (
    if ((upd a13 1 ((a13 1) + (20 : Int32))) 1) < 50 then (
      s_M_blameAll_cut2_2 uM a23 (upd a11 1 (1 : Int32)) (upd a12 1 (0 : Int32)) (upd a13 1 ((a13 1) + (20 : Int32))) (upd a17 1 ((a17 1) + (1 : Int32)))
    ) else (
      s_M_blameAll_cut2_2 uM a23 (upd a11 1 (2 : Int32)) (upd a12 1 (0 : Int32)) (upd a13 1 ((a13 1) + (20 : Int32))) (upd a17 1 ((a17 1) + (1 : Int32)))
    )
  )
def s_M_blameAll (uM : Nat → Int32) (a11 : Nat → Int32) (a12 : Nat → Int32) (a13 : Nat → Int32) (a17 : Nat → Int32) (a23 : Nat → Int32) : Int32 × (Nat → Int32) × (Nat → Int32) × (Nat → Int32) × (Nat → Int32) :=
  if (a23 0) = 0 then (
    s_M_blameAll_cut2_1 uM a23 a11 a12 a13 a17
  ) else (
    if ((upd a13 0 ((a13 0) + (20 : Int32))) 0) < 50 then (
      s_M_blameAll_cut2_1 uM a23 (upd a11 0 (1 : Int32)) (upd a12 0 (0 : Int32)) (upd a13 0 ((a13 0) + (20 : Int32))) (upd a17 0 ((a17 0) + (1 : Int32)))
    ) else (
      s_M_blameAll_cut2_1 uM a23 (upd a11 0 (2 : Int32)) (upd a12 0 (0 : Int32)) (upd a13 0 ((a13 0) + (20 : Int32))) (upd a17 0 ((a17 0) + (1 : Int32)))
    )
  )

def s_M_copyAll_cut8_3  (a8 : Nat → Int32) (a9 : Nat → Int32) (a10 : Nat → Int32) (a11 : Nat → Int32) (a12 : Nat → Int32) (w1 : Int32) : (Nat → Int32) × (Nat → Int32) × (Nat → Int32) × (Nat → Int32) × (Nat → Int32) :=
  (a8, a9, a10, a11, a12)
def s_M_copyAll_ci2_93  : Nat → (Nat) → (Nat → Int32) → (Nat → Int32) → (Nat → Int32) → (Nat → Int32) → (Nat → Int32) → (Int32) → (Nat → Int32) × (Nat → Int32) × (Nat → Int32) × (Nat → Int32) × (Nat → Int32)
  | 0, i, a8, a9, a10, a11, a12, w1 =>
    s_M_copyAll_cut8_3 a8 a9 (upd a10 2 (a10 (Int32.toNatClampNeg w1))) (upd a11 2 (0 : Int32)) a12 w1
  | n9 + 1, i, a8, a9, a10, a11, a12, w1 =>
    s_M_copyAll_ci2_93 n9 (i + 1) (upd a8 (Int32.toNatClampNeg (((8 : Int32) * (2 : Int32)) + (nI i))) (a8 (Int32.toNatClampNeg (((8 : Int32) * w1) + (nI i))))) a9 a10 a11 a12 w1
def s_M_copyAll_cut8_2 (a23 : Nat → Int32) (a8 : Nat → Int32) (a9 : Nat → Int32) (a10 : Nat → Int32) (a11 : Nat → Int32) (a12 : Nat → Int32) (w1 : Int32) : (Nat → Int32) × (Nat → Int32) × (Nat → Int32) × (Nat → Int32) × (Nat → Int32) :=
  if (a11 2) = 1 then (
    if (a23 2) = 0 then (
      if 32 ≤ ((upd a12 2 ((a12 2) + (1 : Int32))) 2) then (
        s_M_copyAll_ci2_93 8 0 a8 (upd a9 (Int32.toNatClampNeg (((32 : Int32) * (2 : Int32)) + (a12 2))) (a9 (Int32.toNatClampNeg (((32 : Int32) * w1) + (a12 2))))) a10 a11 (upd a12 2 ((a12 2) + (1 : Int32))) w1
      ) else (
        s_M_copyAll_cut8_3 a8 (upd a9 (Int32.toNatClampNeg (((32 : Int32) * (2 : Int32)) + (a12 2))) (a9 (Int32.toNatClampNeg (((32 : Int32) * w1) + (a12 2))))) a10 a11 (upd a12 2 ((a12 2) + (1 : Int32))) w1
      )
    ) else (
      s_M_copyAll_cut8_3 a8 a9 a10 a11 a12 w1
    )
  ) else (
    s_M_copyAll_cut8_3 a8 a9 a10 a11 a12 w1
  )
def s_M_copyAll_ci1_93 (a23 : Nat → Int32) : Nat → (Nat) → (Nat → Int32) → (Nat → Int32) → (Nat → Int32) → (Nat → Int32) → (Nat → Int32) → (Int32) → (Nat → Int32) × (Nat → Int32) × (Nat → Int32) × (Nat → Int32) × (Nat → Int32)
  | 0, i, a8, a9, a10, a11, a12, w1 =>
    s_M_copyAll_cut8_2 a23 a8 a9 (upd a10 1 (a10 (Int32.toNatClampNeg w1))) (upd a11 1 (0 : Int32)) a12 w1
  | n9 + 1, i, a8, a9, a10, a11, a12, w1 =>
    s_M_copyAll_ci1_93 a23 n9 (i + 1) (upd a8 (Int32.toNatClampNeg (((8 : Int32) * (1 : Int32)) + (nI i))) (a8 (Int32.toNatClampNeg (((8 : Int32) * w1) + (nI i))))) a9 a10 a11 a12 w1
def s_M_copyAll_cut8_1 (a23 : Nat → Int32) (a8 : Nat → Int32) (a9 : Nat → Int32) (a10 : Nat → Int32) (a11 : Nat → Int32) (a12 : Nat → Int32) (w1 : Int32) : (Nat → Int32) × (Nat → Int32) × (Nat → Int32) × (Nat → Int32) × (Nat → Int32) :=
  if (a11 1) = 1 then (
    if (a23 1) = 0 then (
      if 32 ≤ ((upd a12 1 ((a12 1) + (1 : Int32))) 1) then (
        s_M_copyAll_ci1_93 a23 8 0 a8 (upd a9 (Int32.toNatClampNeg (((32 : Int32) * (1 : Int32)) + (a12 1))) (a9 (Int32.toNatClampNeg (((32 : Int32) * w1) + (a12 1))))) a10 a11 (upd a12 1 ((a12 1) + (1 : Int32))) w1
      ) else (
        s_M_copyAll_cut8_2 a23 a8 (upd a9 (Int32.toNatClampNeg (((32 : Int32) * (1 : Int32)) + (a12 1))) (a9 (Int32.toNatClampNeg (((32 : Int32) * w1) + (a12 1))))) a10 a11 (upd a12 1 ((a12 1) + (1 : Int32))) w1
      )
    ) else (
      s_M_copyAll_cut8_2 a23 a8 a9 a10 a11 a12 w1
    )
  ) else (
    s_M_copyAll_cut8_2 a23 a8 a9 a10 a11 a12 w1
  )
def s_M_copyAll_ci0_93 (a23 : Nat → Int32) : Nat → (Nat) → (Nat → Int32) → (Nat → Int32) → (Nat → Int32) → (Nat → Int32) → (Nat → Int32) → (Int32) → (Nat → Int32) × (Nat → Int32) × (Nat → Int32) × (Nat → Int32) × (Nat → Int32)
  | 0, i, a8, a9, a10, a11, a12, w1 =>
    s_M_copyAll_cut8_1 a23 a8 a9 (upd a10 0 (a10 (Int32.toNatClampNeg w1))) (upd a11 0 (0 : Int32)) a12 w1
  | n9 + 1, i, a8, a9, a10, a11, a12, w1 =>
    s_M_copyAll_ci0_93 a23 n9 (i + 1) (upd a8 (Int32.toNatClampNeg (((8 : Int32) * (0 : Int32)) + (nI i))) (a8 (Int32.toNatClampNeg (((8 : Int32) * w1) + (nI i))))) a9 a10 a11 a12 w1
def s_M_copyAll_cut8_0 (a23 : Nat → Int32) (a8 : Nat → Int32) (a9 : Nat → Int32) (a10 : Nat → Int32) (a11 : Nat → Int32) (a12 : Nat → Int32) (w1 : Int32) : (Nat → Int32) × (Nat → Int32) × (Nat → Int32) × (Nat → Int32) × (Nat → Int32) :=
  if (a11 0) = 1 then (
    if (a23 0) = 0 then (
      if 32 ≤ ((upd a12 0 ((a12 0) + (1 : Int32))) 0) then (
        s_M_copyAll_ci0_93 a23 8 0 a8 (upd a9 (Int32.toNatClampNeg (((32 : Int32) * (0 : Int32)) + (a12 0))) (a9 (Int32.toNatClampNeg (((32 : Int32) * w1) + (a12 0))))) a10 a11 (upd a12 0 ((a12 0) + (1 : Int32))) w1
      ) else (
        s_M_copyAll_cut8_1 a23 a8 (upd a9 (Int32.toNatClampNeg (((32 : Int32) * (0 : Int32)) + (a12 0))) (a9 (Int32.toNatClampNeg (((32 : Int32) * w1) + (a12 0))))) a10 a11 (upd a12 0 ((a12 0) + (1 : Int32))) w1
      )
    ) else (
      s_M_copyAll_cut8_1 a23 a8 a9 a10 a11 a12 w1
    )
  ) else (
    s_M_copyAll_cut8_1 a23 a8 a9 a10 a11 a12 w1
  )
def s_M_copyAll (a8 : Nat → Int32) (a9 : Nat → Int32) (a10 : Nat → Int32) (a11 : Nat → Int32) (a12 : Nat → Int32) (a23 : Nat → Int32) : (Nat → Int32) × (Nat → Int32) × (Nat → Int32) × (Nat → Int32) × (Nat → Int32) :=
  bnd (s_M_lowest a11 a23 0) (fun r23 =>
    if r23 = (-1) then (
      (fun _ => 0, fun _ => 0, fun _ => 0, fun _ => 0, fun _ => 0)
    ) else (
      if r23 = 0 then (
        s_M_copyAll_cut8_0 a23 a8 a9 a10 a11 a12 0
      ) else (
        if r23 = 1 then (
          s_M_copyAll_cut8_0 a23 a8 a9 a10 a11 a12 1
        ) else (
          s_M_copyAll_cut8_0 a23 a8 a9 a10 a11 a12 2
        )
      )
    )
  )

def s_M_stepOnce_cf126_3 (sn : Nat) (uMx : Nat → Int32) (a8 : Nat → Int32) (a9 : Nat → Int32) (a10 : Nat → Int32) (a11 : Nat → Int32) (a12 : Nat → Int32) (a13 : Nat → Int32) (a15 : Nat → Int32) (a16 : Nat → Int32) (a17 : Nat → Int32) (a18 : Nat → Int32) (a19 : Nat → Int32) (a20 : Nat → Int32) (a21 : Nat → Int32) (a22 : Nat → Int32) (a23 : Nat → Int32) (a30 : Nat → Int32) (a31 : Nat → Int32) (a32 : Nat → Int32) (a36 : Nat → Int32) (usx : Nat) (wtx : Nat) (ocx : Nat) (oux : Nat) (owx : Nat) : Int32 × (Nat → Int32) × (Nat → Int32) × (Nat → Int32) × (Nat → Int32) × (Nat → Int32) × (Nat → Int32) × (Nat → Int32) × (Nat → Int32) × (Nat → Int32) × (Nat → Int32) × (Nat → Int32) × (Nat → Int32) × (Nat → Int32) × (Nat → Int32) × (Nat → Int32) × (Nat → Int32) × (Nat → Int32) × (Nat → Int32) × (Nat → Int32) × Nat × Nat × Nat × Nat × Nat × Nat × (Nat → Int32) :=
  (1, a8, a9, a10, a11, a12, a13, a15, a16, a17, a18, a19, a20, a21, a22, a23, a30, a31, a32, a36, usx, wtx, ocx, oux, owx, sn + 1, uMx)
def s_M_stepOnce_cf126_2 (sn : Nat) (uMx : Nat → Int32) (a8 : Nat → Int32) (a9 : Nat → Int32) (a10 : Nat → Int32) (a11 : Nat → Int32) (a12 : Nat → Int32) (a13 : Nat → Int32) (a15 : Nat → Int32) (a16 : Nat → Int32) (a17 : Nat → Int32) (a18 : Nat → Int32) (a19 : Nat → Int32) (a20 : Nat → Int32) (a21 : Nat → Int32) (a22 : Nat → Int32) (a23 : Nat → Int32) (a30 : Nat → Int32) (a31 : Nat → Int32) (a32 : Nat → Int32) (a36 : Nat → Int32) (usx : Nat) (wtx : Nat) (ocx : Nat) (oux : Nat) (owx : Nat) : Int32 × (Nat → Int32) × (Nat → Int32) × (Nat → Int32) × (Nat → Int32) × (Nat → Int32) × (Nat → Int32) × (Nat → Int32) × (Nat → Int32) × (Nat → Int32) × (Nat → Int32) × (Nat → Int32) × (Nat → Int32) × (Nat → Int32) × (Nat → Int32) × (Nat → Int32) × (Nat → Int32) × (Nat → Int32) × (Nat → Int32) × (Nat → Int32) × Nat × Nat × Nat × Nat × Nat × Nat × (Nat → Int32) :=
  if ((nI (sn + 1)) - (nI (sn + 1)) / (4 : Int32) * (4 : Int32)) = 0 then (
    if (a13 2) ≤ 0 then (
      s_M_stepOnce_cf126_3 sn uMx a8 a9 a10 a11 a12 (upd a13 2 ((a13 2) - (0 : Int32))) a15 a16 a17 a18 a19 a20 a21 a22 a23 a30 a31 a32 a36 usx wtx ocx oux owx
    ) else (
      s_M_stepOnce_cf126_3 sn uMx a8 a9 a10 a11 a12 (upd a13 2 ((a13 2) - (1 : Int32))) a15 a16 a17 a18 a19 a20 a21 a22 a23 a30 a31 a32 a36 usx wtx ocx oux owx
    )
  ) else (
    (1, a8, a9, a10, a11, a12, a13, a15, a16, a17, a18, a19, a20, a21, a22, a23, a30, a31, a32, a36, usx, wtx, ocx, oux, owx, sn + 1, uMx)
  )
def s_M_stepOnce_cf126_1 (sn : Nat) (uMx : Nat → Int32) (a8 : Nat → Int32) (a9 : Nat → Int32) (a10 : Nat → Int32) (a11 : Nat → Int32) (a12 : Nat → Int32) (a13 : Nat → Int32) (a15 : Nat → Int32) (a16 : Nat → Int32) (a17 : Nat → Int32) (a18 : Nat → Int32) (a19 : Nat → Int32) (a20 : Nat → Int32) (a21 : Nat → Int32) (a22 : Nat → Int32) (a23 : Nat → Int32) (a30 : Nat → Int32) (a31 : Nat → Int32) (a32 : Nat → Int32) (a36 : Nat → Int32) (usx : Nat) (wtx : Nat) (ocx : Nat) (oux : Nat) (owx : Nat) : Int32 × (Nat → Int32) × (Nat → Int32) × (Nat → Int32) × (Nat → Int32) × (Nat → Int32) × (Nat → Int32) × (Nat → Int32) × (Nat → Int32) × (Nat → Int32) × (Nat → Int32) × (Nat → Int32) × (Nat → Int32) × (Nat → Int32) × (Nat → Int32) × (Nat → Int32) × (Nat → Int32) × (Nat → Int32) × (Nat → Int32) × (Nat → Int32) × Nat × Nat × Nat × Nat × Nat × Nat × (Nat → Int32) :=
  if ((nI (sn + 1)) - (nI (sn + 1)) / (4 : Int32) * (4 : Int32)) = 0 then (
    if (a13 1) ≤ 0 then (
      s_M_stepOnce_cf126_2 sn uMx a8 a9 a10 a11 a12 (upd a13 1 ((a13 1) - (0 : Int32))) a15 a16 a17 a18 a19 a20 a21 a22 a23 a30 a31 a32 a36 usx wtx ocx oux owx
    ) else (
      s_M_stepOnce_cf126_2 sn uMx a8 a9 a10 a11 a12 (upd a13 1 ((a13 1) - (1 : Int32))) a15 a16 a17 a18 a19 a20 a21 a22 a23 a30 a31 a32 a36 usx wtx ocx oux owx
    )
  ) else (
    (1, a8, a9, a10, a11, a12, a13, a15, a16, a17, a18, a19, a20, a21, a22, a23, a30, a31, a32, a36, usx, wtx, ocx, oux, owx, sn + 1, uMx)
  )
def s_M_stepOnce_cf126_0 (sn : Nat) (uMx : Nat → Int32) (a8 : Nat → Int32) (a9 : Nat → Int32) (a10 : Nat → Int32) (a11 : Nat → Int32) (a12 : Nat → Int32) (a13 : Nat → Int32) (a15 : Nat → Int32) (a16 : Nat → Int32) (a17 : Nat → Int32) (a18 : Nat → Int32) (a19 : Nat → Int32) (a20 : Nat → Int32) (a21 : Nat → Int32) (a22 : Nat → Int32) (a23 : Nat → Int32) (a30 : Nat → Int32) (a31 : Nat → Int32) (a32 : Nat → Int32) (a36 : Nat → Int32) (usx : Nat) (wtx : Nat) (ocx : Nat) (oux : Nat) (owx : Nat) : Int32 × (Nat → Int32) × (Nat → Int32) × (Nat → Int32) × (Nat → Int32) × (Nat → Int32) × (Nat → Int32) × (Nat → Int32) × (Nat → Int32) × (Nat → Int32) × (Nat → Int32) × (Nat → Int32) × (Nat → Int32) × (Nat → Int32) × (Nat → Int32) × (Nat → Int32) × (Nat → Int32) × (Nat → Int32) × (Nat → Int32) × (Nat → Int32) × Nat × Nat × Nat × Nat × Nat × Nat × (Nat → Int32) :=
  if ((nI (sn + 1)) - (nI (sn + 1)) / (4 : Int32) * (4 : Int32)) = 0 then (
    if (a13 0) ≤ 0 then (
      s_M_stepOnce_cf126_1 sn uMx a8 a9 a10 a11 a12 (upd a13 0 ((a13 0) - (0 : Int32))) a15 a16 a17 a18 a19 a20 a21 a22 a23 a30 a31 a32 a36 usx wtx ocx oux owx
    ) else (
      s_M_stepOnce_cf126_1 sn uMx a8 a9 a10 a11 a12 (upd a13 0 ((a13 0) - (1 : Int32))) a15 a16 a17 a18 a19 a20 a21 a22 a23 a30 a31 a32 a36 usx wtx ocx oux owx
    )
  ) else (
    (1, a8, a9, a10, a11, a12, a13, a15, a16, a17, a18, a19, a20, a21, a22, a23, a30, a31, a32, a36, usx, wtx, ocx, oux, owx, sn + 1, uMx)
  )
def s_M_stepOnce_ch111 (sn : Nat) (a11 : Nat → Int32) (a12 : Nat → Int32) (a13 : Nat → Int32) (a17 : Nat → Int32) (uMx : Nat → Int32) (a8 : Nat → Int32) (a9 : Nat → Int32) (a10 : Nat → Int32) (a15 : Nat → Int32) (a16 : Nat → Int32) (a18 : Nat → Int32) (a19 : Nat → Int32) (a20 : Nat → Int32) (a21 : Nat → Int32) (a22 : Nat → Int32) (a23 : Nat → Int32) (a30 : Nat → Int32) (a31 : Nat → Int32) (a32 : Nat → Int32) (a36 : Nat → Int32) (usx : Nat) (wtx : Nat) (ocx : Nat) (oux : Nat) (owx : Nat) : Int32 × (Nat → Int32) × (Nat → Int32) × (Nat → Int32) × (Nat → Int32) × (Nat → Int32) × (Nat → Int32) × (Nat → Int32) × (Nat → Int32) × (Nat → Int32) × (Nat → Int32) × (Nat → Int32) × (Nat → Int32) × (Nat → Int32) × (Nat → Int32) × (Nat → Int32) × (Nat → Int32) × (Nat → Int32) × (Nat → Int32) × (Nat → Int32) × Nat × Nat × Nat × Nat × Nat × Nat × (Nat → Int32) :=
  bnd (s_M_blameAll uMx a11 a12 a13 a17 a23) (fun (r11, a11n13, a12n14, a13n15, a17n16) =>
    if r11 = 0 then (
      (0, a8, a9, a10, a11n13, a12n14, a13n15, a15, a16, a17n16, a18, a19, a20, a21, a22, a23, a30, a31, a32, a36, usx, wtx, ocx, oux, owx, sn + 1, uMx)
    ) else (
      bnd (s_M_copyAll a8 a9 a10 a11n13 a12n14 a23) (fun (a8n21, a9n22, a10n23, a11n24, a12n25) =>
        s_M_stepOnce_cf126_0 sn uMx a8n21 a9n22 a10n23 a11n24 a12n25 a13n15 a15 a16 a17n16 a18 a19 a20 a21 a22 a23 a30 a31 a32 a36 usx wtx ocx oux owx
      )
    )
  )
def s_M_stepOnce_cg79 (sn : Nat) (a11 : Nat → Int32) (a12 : Nat → Int32) (a13 : Nat → Int32) (a17 : Nat → Int32) (uMx : Nat → Int32) (a8 : Nat → Int32) (a9 : Nat → Int32) (a10 : Nat → Int32) (a15 : Nat → Int32) (a16 : Nat → Int32) (a18 : Nat → Int32) (a19 : Nat → Int32) (a20 : Nat → Int32) (a21 : Nat → Int32) (a22 : Nat → Int32) (a23 : Nat → Int32) (a30 : Nat → Int32) (a31 : Nat → Int32) (a32 : Nat → Int32) (a36 : Nat → Int32) (usx : Nat) (wtx : Nat) (ocx : Nat) (oux : Nat) (owx : Nat) : Int32 × (Nat → Int32) × (Nat → Int32) × (Nat → Int32) × (Nat → Int32) × (Nat → Int32) × (Nat → Int32) × (Nat → Int32) × (Nat → Int32) × (Nat → Int32) × (Nat → Int32) × (Nat → Int32) × (Nat → Int32) × (Nat → Int32) × (Nat → Int32) × (Nat → Int32) × (Nat → Int32) × (Nat → Int32) × (Nat → Int32) × (Nat → Int32) × Nat × Nat × Nat × Nat × Nat × Nat × (Nat → Int32) :=
  bnd (s_M_copyStore a9 a11 a12 a21 a22 a23) (fun a9n32 =>
    bnd (s_M_scrub uMx (sn + 1) a9n32 a11 a16 a19 a23) (fun (r33, a9n35, a16n36, a19n37, a23n38, y2439) =>
      if r33 = 0 then (
        (0, a8, a9n35, a10, a11, a12, a13, a15, a16n36, a17, a18, a19n37, a20, a21, a22, a23n38, a30, a31, a32, a36, usx, wtx, ocx, oux, owx, sn + 1, upc uMx 24 y2439)
      ) else (
        if ((nI (sn + 1)) - (nI (sn + 1)) / (16 : Int32) * (16 : Int32)) = 0 then (
          bnd (s_M_compareDigests a8 a10 a11 a23n38) (fun (r42, a23n44) =>
            if r42 = 0 then (
              (0, a8, a9n35, a10, a11, a12, a13, a15, a16n36, a17, a18, a19n37, a20, a21, a22, a23n44, a30, a31, a32, a36, usx, wtx, ocx, oux, owx, sn + 1, upc uMx 24 y2439)
            ) else (
              s_M_stepOnce_ch111 sn a11 a12 a13 a17 (upc uMx 24 y2439) a8 a9n35 a10 a15 a16n36 a18 a19n37 a20 a21 a22 a23n44 a30 a31 a32 a36 usx wtx ocx oux owx
            )
          )
        ) else (
          s_M_stepOnce_ch111 sn a11 a12 a13 a17 (upc uMx 24 y2439) a8 a9n35 a10 a15 a16n36 a18 a19n37 a20 a21 a22 a23n38 a30 a31 a32 a36 usx wtx ocx oux owx
        )
      )
    )
  )
def s_M_stepOnce_cut16_3 (uM : Nat → Int32) (sn : Nat) (cm : Nat) (us : Nat) (wt : Nat) (a11 : Nat → Int32) (a12 : Nat → Int32) (a13 : Nat → Int32) (a17 : Nat → Int32) (a28 : Nat → Int32) (a30 : Nat → Int32) (y24 : Int32) (a8 : Nat → Int32) (a9 : Nat → Int32) (a10 : Nat → Int32) (a15 : Nat → Int32) (a16 : Nat → Int32) (a18 : Nat → Int32) (a19 : Nat → Int32) (a20 : Nat → Int32) (a21 : Nat → Int32) (a22 : Nat → Int32) (a23 : Nat → Int32) (a31 : Nat → Int32) (a32 : Nat → Int32) (a36 : Nat → Int32) (ocx : Nat) (oux : Nat) (owx : Nat) : Int32 × (Nat → Int32) × (Nat → Int32) × (Nat → Int32) × (Nat → Int32) × (Nat → Int32) × (Nat → Int32) × (Nat → Int32) × (Nat → Int32) × (Nat → Int32) × (Nat → Int32) × (Nat → Int32) × (Nat → Int32) × (Nat → Int32) × (Nat → Int32) × (Nat → Int32) × (Nat → Int32) × (Nat → Int32) × (Nat → Int32) × (Nat → Int32) × Nat × Nat × Nat × Nat × Nat × Nat × (Nat → Int32) :=
  bnd (s_M_vote (upc uM 24 y24) a11 a18 a19 a23) (fun (r47, a23n49, y750) =>
    if r47 = (-1) then (
      (0, a8, a9, a10, a11, a12, a13, a15, a16, a17, a18, a19, a20, a21, a22, a23n49, a30, a31, a32, a36, us, wt, ocx, oux, owx, sn + 1, upc (upc uM 24 y24) 7 y750)
    ) else (
      if r47 = 0 then (
        bnd (s_M_agreed cm us wt a8 a11 a18 a20 a28 a30 0) (fun (a8n55, a30n56, usn57, wtn58) =>
          s_M_stepOnce_cg79 sn a11 a12 a13 a17 (upc (upc uM 24 y24) 7 y750) a8n55 a9 a10 a15 a16 a18 a19 a20 a21 a22 a23n49 a30n56 a31 a32 a36 usn57 wtn58 ocx oux owx
        )
      ) else (
        if r47 = 1 then (
          bnd (s_M_agreed cm us wt a8 a11 a18 a20 a28 a30 1) (fun (a8n64, a30n65, usn66, wtn67) =>
            s_M_stepOnce_cg79 sn a11 a12 a13 a17 (upc (upc uM 24 y24) 7 y750) a8n64 a9 a10 a15 a16 a18 a19 a20 a21 a22 a23n49 a30n65 a31 a32 a36 usn66 wtn67 ocx oux owx
          )
        ) else (
          bnd (s_M_agreed cm us wt a8 a11 a18 a20 a28 a30 2) (fun (a8n73, a30n74, usn75, wtn76) =>
            s_M_stepOnce_cg79 sn a11 a12 a13 a17 (upc (upc uM 24 y24) 7 y750) a8n73 a9 a10 a15 a16 a18 a19 a20 a21 a22 a23n49 a30n74 a31 a32 a36 usn75 wtn76 ocx oux owx
          )
        )
      )
    )
  )
def s_M_stepOnce_cut16_2 (uM : Nat → Int32) (cn : Nat) (sn : Nat) (cm : Nat) (us : Nat) (wt : Nat) (a2 : Nat → Int32) (a11 : Nat → Int32) (a12 : Nat → Int32) (a13 : Nat → Int32) (a14 : Nat → Int32) (a17 : Nat → Int32) (a28 : Nat → Int32) (a30 : Nat → Int32) (y24 : Int32) (a8 : Nat → Int32) (a9 : Nat → Int32) (a10 : Nat → Int32) (a15 : Nat → Int32) (a16 : Nat → Int32) (a18 : Nat → Int32) (a19 : Nat → Int32) (a20 : Nat → Int32) (a21 : Nat → Int32) (a22 : Nat → Int32) (a23 : Nat → Int32) (a31 : Nat → Int32) (a32 : Nat → Int32) (a36 : Nat → Int32) (ocx : Nat) (oux : Nat) (owx : Nat) : Int32 × (Nat → Int32) × (Nat → Int32) × (Nat → Int32) × (Nat → Int32) × (Nat → Int32) × (Nat → Int32) × (Nat → Int32) × (Nat → Int32) × (Nat → Int32) × (Nat → Int32) × (Nat → Int32) × (Nat → Int32) × (Nat → Int32) × (Nat → Int32) × (Nat → Int32) × (Nat → Int32) × (Nat → Int32) × (Nat → Int32) × (Nat → Int32) × Nat × Nat × Nat × Nat × Nat × Nat × (Nat → Int32) :=
  if (a11 2) = 0 then (
    bnd (s_M_instruction (upc uM 24 y24) cn a2 a8 a9 a10 a14 a15 a16 a18 a19 (upd a20 2 (-1 : Int32)) (upd a21 2 (-1 : Int32)) a22 2) (fun (a8n83, a9n84, a10n85, a15n86, a16n87, a18n88, a19n89, a20n90, a21n91, a22n92, y2493) =>
      s_M_stepOnce_cut16_3 uM sn cm us wt a11 a12 a13 a17 a28 a30 (upc (upc uM 24 y24) 24 y2493 24) a8n83 a9n84 a10n85 a15n86 a16n87 a18n88 a19n89 a20n90 a21n91 a22n92 (upd a23 2 (0 : Int32)) a31 a32 a36 ocx oux owx
    )
  ) else (
    s_M_stepOnce_cut16_3 uM sn cm us wt a11 a12 a13 a17 a28 a30 (upc uM 24 y24 24) a8 a9 a10 a15 a16 a18 a19 (upd a20 2 (-1 : Int32)) (upd a21 2 (-1 : Int32)) a22 (upd a23 2 (0 : Int32)) a31 a32 a36 ocx oux owx
  )
def s_M_stepOnce_cut16_1 (uM : Nat → Int32) (cn : Nat) (sn : Nat) (cm : Nat) (us : Nat) (wt : Nat) (a2 : Nat → Int32) (a11 : Nat → Int32) (a12 : Nat → Int32) (a13 : Nat → Int32) (a14 : Nat → Int32) (a17 : Nat → Int32) (a28 : Nat → Int32) (a30 : Nat → Int32) (y24 : Int32) (a8 : Nat → Int32) (a9 : Nat → Int32) (a10 : Nat → Int32) (a15 : Nat → Int32) (a16 : Nat → Int32) (a18 : Nat → Int32) (a19 : Nat → Int32) (a20 : Nat → Int32) (a21 : Nat → Int32) (a22 : Nat → Int32) (a23 : Nat → Int32) (a31 : Nat → Int32) (a32 : Nat → Int32) (a36 : Nat → Int32) (ocx : Nat) (oux : Nat) (owx : Nat) : Int32 × (Nat → Int32) × (Nat → Int32) × (Nat → Int32) × (Nat → Int32) × (Nat → Int32) × (Nat → Int32) × (Nat → Int32) × (Nat → Int32) × (Nat → Int32) × (Nat → Int32) × (Nat → Int32) × (Nat → Int32) × (Nat → Int32) × (Nat → Int32) × (Nat → Int32) × (Nat → Int32) × (Nat → Int32) × (Nat → Int32) × (Nat → Int32) × Nat × Nat × Nat × Nat × Nat × Nat × (Nat → Int32) :=
  if (a11 1) = 0 then (
    bnd (s_M_instruction (upc uM 24 y24) cn a2 a8 a9 a10 a14 a15 a16 a18 a19 (upd a20 1 (-1 : Int32)) (upd a21 1 (-1 : Int32)) a22 1) (fun (a8n102, a9n103, a10n104, a15n105, a16n106, a18n107, a19n108, a20n109, a21n110, a22n111, y24112) =>
      s_M_stepOnce_cut16_2 uM cn sn cm us wt a2 a11 a12 a13 a14 a17 a28 a30 (upc (upc uM 24 y24) 24 y24112 24) a8n102 a9n103 a10n104 a15n105 a16n106 a18n107 a19n108 a20n109 a21n110 a22n111 (upd a23 1 (0 : Int32)) a31 a32 a36 ocx oux owx
    )
  ) else (
    s_M_stepOnce_cut16_2 uM cn sn cm us wt a2 a11 a12 a13 a14 a17 a28 a30 (upc uM 24 y24 24) a8 a9 a10 a15 a16 a18 a19 (upd a20 1 (-1 : Int32)) (upd a21 1 (-1 : Int32)) a22 (upd a23 1 (0 : Int32)) a31 a32 a36 ocx oux owx
  )
def s_M_stepOnce_cut16_0 (uM : Nat → Int32) (cn : Nat) (sn : Nat) (cm : Nat) (us : Nat) (wt : Nat) (a2 : Nat → Int32) (a11 : Nat → Int32) (a12 : Nat → Int32) (a13 : Nat → Int32) (a14 : Nat → Int32) (a17 : Nat → Int32) (a28 : Nat → Int32) (a30 : Nat → Int32) (y24 : Int32) (a8 : Nat → Int32) (a9 : Nat → Int32) (a10 : Nat → Int32) (a15 : Nat → Int32) (a16 : Nat → Int32) (a18 : Nat → Int32) (a19 : Nat → Int32) (a20 : Nat → Int32) (a21 : Nat → Int32) (a22 : Nat → Int32) (a23 : Nat → Int32) (a31 : Nat → Int32) (a32 : Nat → Int32) (a36 : Nat → Int32) (ocx : Nat) (oux : Nat) (owx : Nat) : Int32 × (Nat → Int32) × (Nat → Int32) × (Nat → Int32) × (Nat → Int32) × (Nat → Int32) × (Nat → Int32) × (Nat → Int32) × (Nat → Int32) × (Nat → Int32) × (Nat → Int32) × (Nat → Int32) × (Nat → Int32) × (Nat → Int32) × (Nat → Int32) × (Nat → Int32) × (Nat → Int32) × (Nat → Int32) × (Nat → Int32) × (Nat → Int32) × Nat × Nat × Nat × Nat × Nat × Nat × (Nat → Int32) :=
  if (a11 0) = 0 then (
    bnd (s_M_instruction (upc uM 24 y24) cn a2 a8 a9 a10 a14 a15 a16 a18 a19 (upd a20 0 (-1 : Int32)) (upd a21 0 (-1 : Int32)) a22 0) (fun (a8n121, a9n122, a10n123, a15n124, a16n125, a18n126, a19n127, a20n128, a21n129, a22n130, y24131) =>
      s_M_stepOnce_cut16_1 uM cn sn cm us wt a2 a11 a12 a13 a14 a17 a28 a30 (upc (upc uM 24 y24) 24 y24131 24) a8n121 a9n122 a10n123 a15n124 a16n125 a18n126 a19n127 a20n128 a21n129 a22n130 (upd a23 0 (0 : Int32)) a31 a32 a36 ocx oux owx
    )
  ) else (
    s_M_stepOnce_cut16_1 uM cn sn cm us wt a2 a11 a12 a13 a14 a17 a28 a30 (upc uM 24 y24 24) a8 a9 a10 a15 a16 a18 a19 (upd a20 0 (-1 : Int32)) (upd a21 0 (-1 : Int32)) a22 (upd a23 0 (0 : Int32)) a31 a32 a36 ocx oux owx
  )
def s_M_stepOnce (uM : Nat → Int32) (cn : Nat) (sn : Nat) (cm : Nat) (us : Nat) (wt : Nat) (oc : Nat) (ou : Nat) (ow : Nat) (a2 : Nat → Int32) (a8 : Nat → Int32) (a9 : Nat → Int32) (a10 : Nat → Int32) (a11 : Nat → Int32) (a12 : Nat → Int32) (a13 : Nat → Int32) (a14 : Nat → Int32) (a15 : Nat → Int32) (a16 : Nat → Int32) (a17 : Nat → Int32) (a18 : Nat → Int32) (a19 : Nat → Int32) (a20 : Nat → Int32) (a21 : Nat → Int32) (a22 : Nat → Int32) (a23 : Nat → Int32) (a28 : Nat → Int32) (a30 : Nat → Int32) (a31 : Nat → Int32) (a32 : Nat → Int32) (a36 : Nat → Int32) : Int32 × (Nat → Int32) × (Nat → Int32) × (Nat → Int32) × (Nat → Int32) × (Nat → Int32) × (Nat → Int32) × (Nat → Int32) × (Nat → Int32) × (Nat → Int32) × (Nat → Int32) × (Nat → Int32) × (Nat → Int32) × (Nat → Int32) × (Nat → Int32) × (Nat → Int32) × (Nat → Int32) × (Nat → Int32) × (Nat → Int32) × (Nat → Int32) × Nat × Nat × Nat × Nat × Nat × Nat × (Nat → Int32) :=
  bnd (s_M_perfectStep cn cm oc ou ow a2 a28 a31 a32 a36) (fun (a31n138, a32n139, a36n140, ocn141, oun142, own143) =>
    s_M_stepOnce_cut16_0 uM cn sn cm us wt a2 a11 a12 a13 a14 a17 a28 a30 (uM 24) a8 a9 a10 a15 a16 a18 a19 a20 a21 a22 a23 a31n138 a32n139 a36n140 ocn141 oun142 own143
  )

def s_M_step_loop (cn : Nat) (cm : Nat) (a2 : Nat → Int32) (a14 : Nat → Int32) (a28 : Nat → Int32) : Nat → (Nat) → (Nat → Int32) → (Nat → Int32) → (Nat → Int32) → (Nat → Int32) → (Nat → Int32) → (Nat → Int32) → (Nat → Int32) → (Nat → Int32) → (Nat → Int32) → (Nat → Int32) → (Nat → Int32) → (Nat → Int32) → (Nat → Int32) → (Nat → Int32) → (Nat → Int32) → (Nat → Int32) → (Nat → Int32) → (Nat → Int32) → (Nat → Int32) → (Nat) → (Nat) → (Nat) → (Nat) → (Nat) → (Nat) → (Nat → Int32) → Int32 × (Nat → Int32) × (Nat → Int32) × (Nat → Int32) × (Nat → Int32) × (Nat → Int32) × (Nat → Int32) × (Nat → Int32) × (Nat → Int32) × (Nat → Int32) × (Nat → Int32) × (Nat → Int32) × (Nat → Int32) × (Nat → Int32) × (Nat → Int32) × (Nat → Int32) × (Nat → Int32) × (Nat → Int32) × (Nat → Int32) × (Nat → Int32) × Nat × Nat × Nat × Nat × Nat × Nat × (Nat → Int32)
  | 0, i, a8, a9, a10, a11, a12, a13, a15, a16, a17, a18, a19, a20, a21, a22, a23, a30, a31, a32, a36, us, wt, oc, ou, ow, snx, uMx =>
    (nI i, a8, a9, a10, a11, a12, a13, a15, a16, a17, a18, a19, a20, a21, a22, a23, a30, a31, a32, a36, us, wt, oc, ou, ow, snx, uMx)
  | n9 + 1, i, a8, a9, a10, a11, a12, a13, a15, a16, a17, a18, a19, a20, a21, a22, a23, a30, a31, a32, a36, us, wt, oc, ou, ow, snx, uMx =>
    if (uMx 4) = 0 then (
      bnd (s_M_stepOnce uMx cn snx cm us wt oc ou ow a2 a8 a9 a10 a11 a12 a13 a14 a15 a16 a17 a18 a19 a20 a21 a22 a23 a28 a30 a31 a32 a36) (fun (r4, a8n6, a9n7, a10n8, a11n9, a12n10, a13n11, a15n12, a16n13, a17n14, a18n15, a19n16, a20n17, a21n18, a22n19, a23n20, a30n21, a31n22, a32n23, a36n24, usn25, wtn26, ocn27, oun28, own29, snn30, uMn31) =>
        if r4 = 0 then (
          s_M_step_loop cn cm a2 a14 a28 n9 (i + 1) a8n6 a9n7 a10n8 a11n9 a12n10 a13n11 a15n12 a16n13 a17n14 a18n15 a19n16 a20n17 a21n18 a22n19 a23n20 a30n21 a31n22 a32n23 a36n24 usn25 wtn26 ocn27 oun28 own29 snn30 (upc uMn31 4 (1 : Int32))
        ) else (
          s_M_step_loop cn cm a2 a14 a28 n9 (i + 1) a8n6 a9n7 a10n8 a11n9 a12n10 a13n11 a15n12 a16n13 a17n14 a18n15 a19n16 a20n17 a21n18 a22n19 a23n20 a30n21 a31n22 a32n23 a36n24 usn25 wtn26 ocn27 oun28 own29 snn30 (upc uMn31 4 (0 : Int32))
        )
      )
    ) else (
      (nI i, a8, a9, a10, a11, a12, a13, a15, a16, a17, a18, a19, a20, a21, a22, a23, a30, a31, a32, a36, us, wt, oc, ou, ow, snx, uMx)
    )
def s_M_step (uM : Nat → Int32) (cn : Nat) (sn : Nat) (cm : Nat) (us : Nat) (wt : Nat) (oc : Nat) (ou : Nat) (ow : Nat) (a2 : Nat → Int32) (a8 : Nat → Int32) (a9 : Nat → Int32) (a10 : Nat → Int32) (a11 : Nat → Int32) (a12 : Nat → Int32) (a13 : Nat → Int32) (a14 : Nat → Int32) (a15 : Nat → Int32) (a16 : Nat → Int32) (a17 : Nat → Int32) (a18 : Nat → Int32) (a19 : Nat → Int32) (a20 : Nat → Int32) (a21 : Nat → Int32) (a22 : Nat → Int32) (a23 : Nat → Int32) (a28 : Nat → Int32) (a30 : Nat → Int32) (a31 : Nat → Int32) (a32 : Nat → Int32) (a36 : Nat → Int32) (xN : Nat) : Int32 × (Nat → Int32) × (Nat → Int32) × (Nat → Int32) × (Nat → Int32) × (Nat → Int32) × (Nat → Int32) × (Nat → Int32) × (Nat → Int32) × (Nat → Int32) × (Nat → Int32) × (Nat → Int32) × (Nat → Int32) × (Nat → Int32) × (Nat → Int32) × (Nat → Int32) × (Nat → Int32) × (Nat → Int32) × (Nat → Int32) × (Nat → Int32) × Nat × Nat × Nat × Nat × Nat × Nat × (Nat → Int32) :=
  s_M_step_loop cn cm a2 a14 a28 xN 0 a8 a9 a10 a11 a12 a13 a15 a16 a17 a18 a19 a20 a21 a22 a23 a30 a31 a32 a36 us wt oc ou ow sn (upc uM 0 (0 : Int32))

def s_M_step0  : Int32 × Int32 :=
  (0, 1)

def s_M_stepb (x : Int32) : Int32 × Int32 :=
  if x < 1 then (
    (0, 2)
  ) else (
    if x ≤ 2000 then (
      (0, 0)
    ) else (
      (0, 2)
    )
  )

def s_M_startf (uM : Nat → Int32) : Int32 × Int32 :=
  (0, upc uM 0 (0 : Int32) 0)

def s_M_startt_loop125 (uM : Nat → Int32) : Nat → (Nat) → (Nat → Int32) → (Nat → Int32) → (Nat → Int32) → (Nat → Int32) → (Nat → Int32) → (Nat → Int32) → (Nat → Int32) → (Nat → Int32) → (Nat → Int32) → (Nat → Int32) → (Nat → Int32) → (Nat → Int32) → Int32 × (Nat → Int32) × (Nat → Int32) × (Nat → Int32) × (Nat → Int32) × (Nat → Int32) × (Nat → Int32) × (Nat → Int32) × (Nat → Int32) × (Nat → Int32) × (Nat → Int32) × (Nat → Int32) × (Nat → Int32) × (Nat → Int32) × Nat × Nat × Nat × Nat × Nat × Nat × Nat
  | 0, i, a8, a9, a10, a11, a12, a13, a14, a15, a16, a17, a31, a32 =>
    (1, a8, a9, a10, a11, a12, a13, a14, a15, a16, a17, a31, a32, upc (upc (upc (upc (upc uM 0 (0 : Int32)) 3 (1 : Int32)) 4 (0 : Int32)) 5 (0 : Int32)) 7 (0 : Int32), 0, 0, 0, 0, 0, 0, 0)
  | n9 + 1, i, a8, a9, a10, a11, a12, a13, a14, a15, a16, a17, a31, a32 =>
    s_M_startt_loop125 uM n9 (i + 1) a8 a9 a10 a11 a12 a13 a14 a15 a16 a17 a31 (upd a32 (Int32.toNatClampNeg (nI i)) (0 : Int32))
def s_M_startt_loop104 (uM : Nat → Int32) : Nat → (Nat) → (Nat → Int32) → (Nat → Int32) → (Nat → Int32) → (Nat → Int32) → (Nat → Int32) → (Nat → Int32) → (Nat → Int32) → (Nat → Int32) → (Nat → Int32) → (Nat → Int32) → (Nat → Int32) → (Nat → Int32) → Int32 × (Nat → Int32) × (Nat → Int32) × (Nat → Int32) × (Nat → Int32) × (Nat → Int32) × (Nat → Int32) × (Nat → Int32) × (Nat → Int32) × (Nat → Int32) × (Nat → Int32) × (Nat → Int32) × (Nat → Int32) × (Nat → Int32) × Nat × Nat × Nat × Nat × Nat × Nat × Nat
  | 0, i, a8, a9, a10, a11, a12, a13, a14, a15, a16, a17, a31, a32 =>
    s_M_startt_loop125 uM 32 0 a8 a9 a10 a11 a12 a13 a14 a15 a16 a17 a31 a32
  | n9 + 1, i, a8, a9, a10, a11, a12, a13, a14, a15, a16, a17, a31, a32 =>
    s_M_startt_loop104 uM n9 (i + 1) a8 a9 a10 a11 a12 a13 a14 a15 a16 a17 (upd a31 (Int32.toNatClampNeg (nI i)) (0 : Int32)) a32
def s_M_startt_cut71_3 (uM : Nat → Int32) (a8 : Nat → Int32) (a9 : Nat → Int32) (a10 : Nat → Int32) (a11 : Nat → Int32) (a12 : Nat → Int32) (a13 : Nat → Int32) (a14 : Nat → Int32) (a15 : Nat → Int32) (a16 : Nat → Int32) (a17 : Nat → Int32) (a31 : Nat → Int32) (a32 : Nat → Int32) : Int32 × (Nat → Int32) × (Nat → Int32) × (Nat → Int32) × (Nat → Int32) × (Nat → Int32) × (Nat → Int32) × (Nat → Int32) × (Nat → Int32) × (Nat → Int32) × (Nat → Int32) × (Nat → Int32) × (Nat → Int32) × (Nat → Int32) × Nat × Nat × Nat × Nat × Nat × Nat × Nat :=
  s_M_startt_loop104 uM 8 0 a8 a9 a10 a11 a12 a13 a14 a15 a16 a17 a31 a32
def s_M_startt_cut71_2 (uM : Nat → Int32) (a8 : Nat → Int32) (a9 : Nat → Int32) (a10 : Nat → Int32) (a11 : Nat → Int32) (a12 : Nat → Int32) (a13 : Nat → Int32) (a14 : Nat → Int32) (a15 : Nat → Int32) (a16 : Nat → Int32) (a17 : Nat → Int32) (a31 : Nat → Int32) (a32 : Nat → Int32) : Int32 × (Nat → Int32) × (Nat → Int32) × (Nat → Int32) × (Nat → Int32) × (Nat → Int32) × (Nat → Int32) × (Nat → Int32) × (Nat → Int32) × (Nat → Int32) × (Nat → Int32) × (Nat → Int32) × (Nat → Int32) × (Nat → Int32) × Nat × Nat × Nat × Nat × Nat × Nat × Nat :=
  bnd (s_M_blank a8 a9 a10 a13 a14 a15 a16 a17 2) (fun (a8n9, a9n10, a10n11, a13n12, a14n13, a15n14, a16n15, a17n16) =>
    s_M_startt_cut71_3 uM a8n9 a9n10 a10n11 (upd a11 2 (0 : Int32)) (upd a12 2 (32 : Int32)) a13n12 a14n13 a15n14 a16n15 a17n16 a31 a32
  )
def s_M_startt_cut71_1 (uM : Nat → Int32) (a8 : Nat → Int32) (a9 : Nat → Int32) (a10 : Nat → Int32) (a11 : Nat → Int32) (a12 : Nat → Int32) (a13 : Nat → Int32) (a14 : Nat → Int32) (a15 : Nat → Int32) (a16 : Nat → Int32) (a17 : Nat → Int32) (a31 : Nat → Int32) (a32 : Nat → Int32) : Int32 × (Nat → Int32) × (Nat → Int32) × (Nat → Int32) × (Nat → Int32) × (Nat → Int32) × (Nat → Int32) × (Nat → Int32) × (Nat → Int32) × (Nat → Int32) × (Nat → Int32) × (Nat → Int32) × (Nat → Int32) × (Nat → Int32) × Nat × Nat × Nat × Nat × Nat × Nat × Nat :=
  bnd (s_M_blank a8 a9 a10 a13 a14 a15 a16 a17 1) (fun (a8n21, a9n22, a10n23, a13n24, a14n25, a15n26, a16n27, a17n28) =>
    s_M_startt_cut71_2 uM a8n21 a9n22 a10n23 (upd a11 1 (0 : Int32)) (upd a12 1 (32 : Int32)) a13n24 a14n25 a15n26 a16n27 a17n28 a31 a32
  )
def s_M_startt_cut71_0 (uM : Nat → Int32) (a8 : Nat → Int32) (a9 : Nat → Int32) (a10 : Nat → Int32) (a11 : Nat → Int32) (a12 : Nat → Int32) (a13 : Nat → Int32) (a14 : Nat → Int32) (a15 : Nat → Int32) (a16 : Nat → Int32) (a17 : Nat → Int32) (a31 : Nat → Int32) (a32 : Nat → Int32) : Int32 × (Nat → Int32) × (Nat → Int32) × (Nat → Int32) × (Nat → Int32) × (Nat → Int32) × (Nat → Int32) × (Nat → Int32) × (Nat → Int32) × (Nat → Int32) × (Nat → Int32) × (Nat → Int32) × (Nat → Int32) × (Nat → Int32) × Nat × Nat × Nat × Nat × Nat × Nat × Nat :=
  bnd (s_M_blank a8 a9 a10 a13 a14 a15 a16 a17 0) (fun (a8n33, a9n34, a10n35, a13n36, a14n37, a15n38, a16n39, a17n40) =>
    s_M_startt_cut71_1 uM a8n33 a9n34 a10n35 (upd a11 0 (0 : Int32)) (upd a12 0 (32 : Int32)) a13n36 a14n37 a15n38 a16n39 a17n40 a31 a32
  )
def s_M_startt (uM : Nat → Int32) (a8 : Nat → Int32) (a9 : Nat → Int32) (a10 : Nat → Int32) (a11 : Nat → Int32) (a12 : Nat → Int32) (a13 : Nat → Int32) (a14 : Nat → Int32) (a15 : Nat → Int32) (a16 : Nat → Int32) (a17 : Nat → Int32) (a31 : Nat → Int32) (a32 : Nat → Int32) : Int32 × (Nat → Int32) × (Nat → Int32) × (Nat → Int32) × (Nat → Int32) × (Nat → Int32) × (Nat → Int32) × (Nat → Int32) × (Nat → Int32) × (Nat → Int32) × (Nat → Int32) × (Nat → Int32) × (Nat → Int32) × (Nat → Int32) × Nat × Nat × Nat × Nat × Nat × Nat × Nat :=
  s_M_startt_cut71_0 uM a8 a9 a10 a11 a12 a13 a14 a15 a16 a17 a31 a32

def s_M_input (uM : Nat → Int32) (cm : Nat) (a28 : Nat → Int32) (x : Int32) : Int32 × Nat × (Nat → Int32) × Int32 :=
  if (uM 3) = 0 then (
    (0, cm, a28, 0)
  ) else (
    if (nI cm) = 64 then (
      (0, cm, a28, 0)
    ) else (
      (1, cm + 1, upd a28 (Int32.toNatClampNeg (nI cm)) (x &&& (65535 : Int32)), 0)
    )
  )

def s_M_output (uM : Nat → Int32) (wt : Nat) (a30 : Nat → Int32) (x : Int32) : Int32 × Int32 :=
  if (uM 3) = 0 then (
    (0, 1)
  ) else (
    if x < 0 then (
      (0, 1)
    ) else (
      if (nI wt) ≤ x then (
        (0, 1)
      ) else (
        if 300 ≤ x then (
          (0, 1)
        ) else (
          (a30 (Int32.toNatClampNeg x), 0)
        )
      )
    )
  )

def s_M_perfect (uM : Nat → Int32) (ow : Nat) (a36 : Nat → Int32) (x : Int32) : Int32 × Int32 :=
  if (uM 3) = 0 then (
    (0, 1)
  ) else (
    if x < 0 then (
      (0, 1)
    ) else (
      if (nI ow) ≤ x then (
        (0, 1)
      ) else (
        if 300 ≤ x then (
          (0, 1)
        ) else (
          (a36 (Int32.toNatClampNeg x), 0)
        )
      )
    )
  )

def s_M_freeze (uM : Nat → Int32) (a14 : Nat → Int32) (x : Int32) (zb : Int32) : Int32 × (Nat → Int32) × Int32 :=
  if (uM 3) = 0 then (
    (0, a14, 0)
  ) else (
    if (bI (in3 x)) = 0 then (
      (0, a14, 0)
    ) else (
      (1, upd a14 (Int32.toNatClampNeg x) (vp_nar .boolean zb), 0)
    )
  )

def s_M_skip (uM : Nat → Int32) (a15 : Nat → Int32) (x : Int32) : Int32 × (Nat → Int32) × Int32 :=
  if (uM 3) = 0 then (
    (0, a15, 0)
  ) else (
    if (bI (in3 x)) = 0 then (
      (0, a15, 0)
    ) else (
      (1, upd a15 (Int32.toNatClampNeg x) (1 : Int32), 0)
    )
  )

def s_M_allow (uM : Nat → Int32) (zb : Int32) : (Nat → Int32) :=
  upc (upc uM 0 (0 : Int32)) 5 zb

def s_M_module (uM : Nat → Int32) (a10 : Nat → Int32) (a11 : Nat → Int32) (a12 : Nat → Int32) (a13 : Nat → Int32) (a16 : Nat → Int32) (a17 : Nat → Int32) (x : Int32) (y : Int32) : Int32 × Int32 :=
  if (uM 3) = 0 then (
    ((-1), 0)
  ) else (
    if (bI (in3 x)) = 0 then (
      ((-1), 0)
    ) else (
      if y < 0 then (
        ((-1), 0)
      ) else (
        if y ≤ 5 then (
          if y = 0 then (
            (a11 (Int32.toNatClampNeg x), 0)
          ) else (
            if y = 1 then (
              (a12 (Int32.toNatClampNeg x), 0)
            ) else (
              if y = 2 then (
                (a13 (Int32.toNatClampNeg x), 0)
              ) else (
                if y = 3 then (
                  (a10 (Int32.toNatClampNeg x), 0)
                ) else (
                  if y = 4 then (
                    (a16 (Int32.toNatClampNeg x), 0)
                  ) else (
                    (a17 (Int32.toNatClampNeg x), 0)
                  )
                )
              )
            )
          )
        ) else (
          ((-1), 0)
        )
      )
    )
  )

def s_M_register (uM : Nat → Int32) (a8 : Nat → Int32) (x : Int32) (y : Int32) : Int32 × Int32 :=
  if (uM 3) = 0 then (
    ((-1), 0)
  ) else (
    if (bI (in3 x)) = 0 then (
      ((-1), 0)
    ) else (
      if y < 0 then (
        ((-1), 0)
      ) else (
        if y ≤ 7 then (
          (a8 (Int32.toNatClampNeg (((8 : Int32) * x) + y)), 0)
        ) else (
          ((-1), 0)
        )
      )
    )
  )

def s_M_code (uM : Nat → Int32) (a9 : Nat → Int32) (x : Int32) (y : Int32) : Int32 × Int32 :=
  if (uM 3) = 0 then (
    ((-1), 0)
  ) else (
    if (bI (in3 x)) = 0 then (
      ((-1), 0)
    ) else (
      if y < 0 then (
        ((-1), 0)
      ) else (
        if y < 32 then (
          (a9 (Int32.toNatClampNeg (((32 : Int32) * x) + y)), 0)
        ) else (
          ((-1), 0)
        )
      )
    )
  )

def s_M_state (uM : Nat → Int32) (sn : Nat) (cm : Nat) (us : Nat) (wt : Nat) (ow : Nat) (a11 : Nat → Int32) (x : Int32) : Int32 × Int32 :=
  if x = 0 then (
    if (uM 3) = 0 then (
      ((-1), 0)
    ) else (
      if (uM 4) = 0 then (
        (cn3 a11, upc uM 0 (0 : Int32) 0)
      ) else (
        (0, 0)
      )
    )
  ) else (
    if x = 1 then (
      (nI sn, 0)
    ) else (
      if x = 2 then (
        (uM 7, 0)
      ) else (
        if x = 3 then (
          (nI wt, 0)
        ) else (
          if x = 4 then (
            (nI ow, 0)
          ) else (
            if x = 5 then (
              ((nI cm) - (nI us), 0)
            ) else (
              if x = 6 then (
                if (uM 5) = 0 then (
                  (0, 0)
                ) else (
                  (1, 0)
                )
              ) else (
                ((-1), 0)
              )
            )
          )
        )
      )
    )
  )

def s_M_swap (uM : Nat → Int32) (a8 : Nat → Int32) (a9 : Nat → Int32) (a10 : Nat → Int32) (a11 : Nat → Int32) (a12 : Nat → Int32) (a13 : Nat → Int32) (a14 : Nat → Int32) (a15 : Nat → Int32) (a16 : Nat → Int32) (a17 : Nat → Int32) (x : Int32) : Int32 × (Nat → Int32) × (Nat → Int32) × (Nat → Int32) × (Nat → Int32) × (Nat → Int32) × (Nat → Int32) × (Nat → Int32) × (Nat → Int32) × (Nat → Int32) × (Nat → Int32) × Int32 :=
  if (uM 3) = 0 then (
    (0, a8, a9, a10, a11, a12, a13, a14, a15, a16, a17, 0)
  ) else (
    if (bI (in3 x)) = 0 then (
      (0, a8, a9, a10, a11, a12, a13, a14, a15, a16, a17, 0)
    ) else (
      if x = 0 then (
        if (uM 4) = 0 then (
          if (a11 0) = 0 then (
            if ((cn3 a11) - (1 : Int32)) = 0 then (
              (0, a8, a9, a10, a11, a12, a13, a14, a15, a16, a17, upc uM 0 (0 : Int32) 0)
            ) else (
              if ((cn3 a11) - (1 : Int32)) = 1 then (
                if (upc uM 0 (0 : Int32) 5) = 0 then (
                  (0, a8, a9, a10, a11, a12, a13, a14, a15, a16, a17, upc uM 0 (0 : Int32) 0)
                ) else (
                  bnd (s_M_blank a8 a9 a10 a13 a14 a15 a16 a17 0) (fun (a8n50, a9n51, a10n52, a13n53, a14n54, a15n55, a16n56, a17n57) =>
                    (1, a8n50, a9n51, a10n52, upd a11 0 (1 : Int32), upd a12 0 (0 : Int32), a13n53, a14n54, a15n55, a16n56, a17n57, upc uM 0 (0 : Int32) 0)
                  )
                )
              ) else (
                bnd (s_M_blank a8 a9 a10 a13 a14 a15 a16 a17 0) (fun (a8n38, a9n39, a10n40, a13n41, a14n42, a15n43, a16n44, a17n45) =>
                  (1, a8n38, a9n39, a10n40, upd a11 0 (1 : Int32), upd a12 0 (0 : Int32), a13n41, a14n42, a15n43, a16n44, a17n45, upc uM 0 (0 : Int32) 0)
                )
              )
            )
          ) else (
            if ((cn3 a11) - (0 : Int32)) = 0 then (
              (0, a8, a9, a10, a11, a12, a13, a14, a15, a16, a17, upc uM 0 (0 : Int32) 0)
            ) else (
              if ((cn3 a11) - (0 : Int32)) = 1 then (
                if (upc uM 0 (0 : Int32) 5) = 0 then (
                  (0, a8, a9, a10, a11, a12, a13, a14, a15, a16, a17, upc uM 0 (0 : Int32) 0)
                ) else (
                  bnd (s_M_blank a8 a9 a10 a13 a14 a15 a16 a17 0) (fun (a8n25, a9n26, a10n27, a13n28, a14n29, a15n30, a16n31, a17n32) =>
                    (1, a8n25, a9n26, a10n27, upd a11 0 (1 : Int32), upd a12 0 (0 : Int32), a13n28, a14n29, a15n30, a16n31, a17n32, upc uM 0 (0 : Int32) 0)
                  )
                )
              ) else (
                bnd (s_M_blank a8 a9 a10 a13 a14 a15 a16 a17 0) (fun (a8n13, a9n14, a10n15, a13n16, a14n17, a15n18, a16n19, a17n20) =>
                  (1, a8n13, a9n14, a10n15, upd a11 0 (1 : Int32), upd a12 0 (0 : Int32), a13n16, a14n17, a15n18, a16n19, a17n20, upc uM 0 (0 : Int32) 0)
                )
              )
            )
          )
        ) else (
          (0, a8, a9, a10, a11, a12, a13, a14, a15, a16, a17, 0)
        )
      ) else (
        if x = 1 then (
          if (uM 4) = 0 then (
            if (a11 1) = 0 then (
              if ((cn3 a11) - (1 : Int32)) = 0 then (
                (0, a8, a9, a10, a11, a12, a13, a14, a15, a16, a17, upc uM 0 (0 : Int32) 0)
              ) else (
                if ((cn3 a11) - (1 : Int32)) = 1 then (
                  if (upc uM 0 (0 : Int32) 5) = 0 then (
                    (0, a8, a9, a10, a11, a12, a13, a14, a15, a16, a17, upc uM 0 (0 : Int32) 0)
                  ) else (
                    bnd (s_M_blank a8 a9 a10 a13 a14 a15 a16 a17 1) (fun (a8n104, a9n105, a10n106, a13n107, a14n108, a15n109, a16n110, a17n111) =>
                      (1, a8n104, a9n105, a10n106, upd a11 1 (1 : Int32), upd a12 1 (0 : Int32), a13n107, a14n108, a15n109, a16n110, a17n111, upc uM 0 (0 : Int32) 0)
                    )
                  )
                ) else (
                  bnd (s_M_blank a8 a9 a10 a13 a14 a15 a16 a17 1) (fun (a8n92, a9n93, a10n94, a13n95, a14n96, a15n97, a16n98, a17n99) =>
                    (1, a8n92, a9n93, a10n94, upd a11 1 (1 : Int32), upd a12 1 (0 : Int32), a13n95, a14n96, a15n97, a16n98, a17n99, upc uM 0 (0 : Int32) 0)
                  )
                )
              )
            ) else (
              if ((cn3 a11) - (0 : Int32)) = 0 then (
                (0, a8, a9, a10, a11, a12, a13, a14, a15, a16, a17, upc uM 0 (0 : Int32) 0)
              ) else (
                if ((cn3 a11) - (0 : Int32)) = 1 then (
                  if (upc uM 0 (0 : Int32) 5) = 0 then (
                    (0, a8, a9, a10, a11, a12, a13, a14, a15, a16, a17, upc uM 0 (0 : Int32) 0)
                  ) else (
                    bnd (s_M_blank a8 a9 a10 a13 a14 a15 a16 a17 1) (fun (a8n79, a9n80, a10n81, a13n82, a14n83, a15n84, a16n85, a17n86) =>
                      (1, a8n79, a9n80, a10n81, upd a11 1 (1 : Int32), upd a12 1 (0 : Int32), a13n82, a14n83, a15n84, a16n85, a17n86, upc uM 0 (0 : Int32) 0)
                    )
                  )
                ) else (
                  bnd (s_M_blank a8 a9 a10 a13 a14 a15 a16 a17 1) (fun (a8n67, a9n68, a10n69, a13n70, a14n71, a15n72, a16n73, a17n74) =>
                    (1, a8n67, a9n68, a10n69, upd a11 1 (1 : Int32), upd a12 1 (0 : Int32), a13n70, a14n71, a15n72, a16n73, a17n74, upc uM 0 (0 : Int32) 0)
                  )
                )
              )
            )
          ) else (
            (0, a8, a9, a10, a11, a12, a13, a14, a15, a16, a17, 0)
          )
        ) else (
          if (uM 4) = 0 then (
            if (a11 2) = 0 then (
              if ((cn3 a11) - (1 : Int32)) = 0 then (
                (0, a8, a9, a10, a11, a12, a13, a14, a15, a16, a17, upc uM 0 (0 : Int32) 0)
              ) else (
                if ((cn3 a11) - (1 : Int32)) = 1 then (
                  if (upc uM 0 (0 : Int32) 5) = 0 then (
                    (0, a8, a9, a10, a11, a12, a13, a14, a15, a16, a17, upc uM 0 (0 : Int32) 0)
                  ) else (
                    bnd (s_M_blank a8 a9 a10 a13 a14 a15 a16 a17 2) (fun (a8n158, a9n159, a10n160, a13n161, a14n162, a15n163, a16n164, a17n165) =>
                      (1, a8n158, a9n159, a10n160, upd a11 2 (1 : Int32), upd a12 2 (0 : Int32), a13n161, a14n162, a15n163, a16n164, a17n165, upc uM 0 (0 : Int32) 0)
                    )
                  )
                ) else (
                  bnd (s_M_blank a8 a9 a10 a13 a14 a15 a16 a17 2) (fun (a8n146, a9n147, a10n148, a13n149, a14n150, a15n151, a16n152, a17n153) =>
                    (1, a8n146, a9n147, a10n148, upd a11 2 (1 : Int32), upd a12 2 (0 : Int32), a13n149, a14n150, a15n151, a16n152, a17n153, upc uM 0 (0 : Int32) 0)
                  )
                )
              )
            ) else (
              if ((cn3 a11) - (0 : Int32)) = 0 then (
                (0, a8, a9, a10, a11, a12, a13, a14, a15, a16, a17, upc uM 0 (0 : Int32) 0)
              ) else (
                if ((cn3 a11) - (0 : Int32)) = 1 then (
                  if (upc uM 0 (0 : Int32) 5) = 0 then (
                    (0, a8, a9, a10, a11, a12, a13, a14, a15, a16, a17, upc uM 0 (0 : Int32) 0)
                  ) else (
                    bnd (s_M_blank a8 a9 a10 a13 a14 a15 a16 a17 2) (fun (a8n133, a9n134, a10n135, a13n136, a14n137, a15n138, a16n139, a17n140) =>
                      (1, a8n133, a9n134, a10n135, upd a11 2 (1 : Int32), upd a12 2 (0 : Int32), a13n136, a14n137, a15n138, a16n139, a17n140, upc uM 0 (0 : Int32) 0)
                    )
                  )
                ) else (
                  bnd (s_M_blank a8 a9 a10 a13 a14 a15 a16 a17 2) (fun (a8n121, a9n122, a10n123, a13n124, a14n125, a15n126, a16n127, a17n128) =>
                    (1, a8n121, a9n122, a10n123, upd a11 2 (1 : Int32), upd a12 2 (0 : Int32), a13n124, a14n125, a15n126, a16n127, a17n128, upc uM 0 (0 : Int32) 0)
                  )
                )
              )
            )
          ) else (
            (0, a8, a9, a10, a11, a12, a13, a14, a15, a16, a17, 0)
          )
        )
      )
    )
  )

def s_M_flip (uM : Nat → Int32) (cn : Nat) (a8 : Nat → Int32) (a9 : Nat → Int32) (a10 : Nat → Int32) (x : Int32) (y : Int32) (z : Int32) (u : Int32) : (Nat → Int32) × (Nat → Int32) × (Nat → Int32) × Int32 :=
  if (uM 3) = 0 then (
    (a8, a9, a10, 1)
  ) else (
    if (bI (in3 x)) = 0 then (
      (a8, a9, a10, 1)
    ) else (
      if u < 0 then (
        (a8, a9, a10, 1)
      ) else (
        if z < 0 then (
          (a8, a9, a10, 1)
        ) else (
          if y = 0 then (
            if 8 ≤ z then (
              if y = 1 then (
                (fun _ => 0, fun _ => 0, fun _ => 0, 0)
              ) else (
                if y = 2 then (
                  (fun _ => 0, fun _ => 0, fun _ => 0, 0)
                ) else (
                  (a8, a9, a10, 1)
                )
              )
            ) else (
              if u < 16 then (
                if y = 1 then (
                  (fun _ => 0, fun _ => 0, fun _ => 0, 0)
                ) else (
                  if y = 2 then (
                    (fun _ => 0, fun _ => 0, fun _ => 0, 0)
                  ) else (
                    (upd a8 (Int32.toNatClampNeg (((8 : Int32) * x) + z)) ((a8 (Int32.toNatClampNeg (((8 : Int32) * x) + z))) ^^^ ((1 : Int32) <<< (u &&& 31))), a9, a10, 0)
                  )
                )
              ) else (
                if y = 1 then (
                  (fun _ => 0, fun _ => 0, fun _ => 0, 0)
                ) else (
                  if y = 2 then (
                    (fun _ => 0, fun _ => 0, fun _ => 0, 0)
                  ) else (
                    (a8, a9, a10, 1)
                  )
                )
              )
            )
          ) else (
            if y = 1 then (
              if 32 ≤ z then (
                if y = 2 then (
                  (fun _ => 0, fun _ => 0, fun _ => 0, 0)
                ) else (
                  (a8, a9, a10, 1)
                )
              ) else (
                if u < 22 then (
                  if y = 2 then (
                    (fun _ => 0, fun _ => 0, fun _ => 0, 0)
                  ) else (
                    (a8, upd a9 (Int32.toNatClampNeg (((32 : Int32) * x) + z)) ((a9 (Int32.toNatClampNeg (((32 : Int32) * x) + z))) ^^^ ((1 : Int32) <<< (u &&& 31))), a10, 0)
                  )
                ) else (
                  if y = 2 then (
                    (fun _ => 0, fun _ => 0, fun _ => 0, 0)
                  ) else (
                    (a8, a9, a10, 1)
                  )
                )
              )
            ) else (
              if y = 2 then (
                if z = 0 then (
                  if 6 ≤ u then (
                    (a8, a9, a10, 1)
                  ) else (
                    (a8, a9, upd a10 (Int32.toNatClampNeg x) (((a10 (Int32.toNatClampNeg x)) ^^^ ((1 : Int32) <<< (u &&& 31))) - ((a10 (Int32.toNatClampNeg x)) ^^^ ((1 : Int32) <<< (u &&& 31))) / (nI cn) * (nI cn)), 0)
                  )
                ) else (
                  (a8, a9, a10, 1)
                )
              ) else (
                (a8, a9, a10, 1)
              )
            )
          )
        )
      )
    )
  )

def s_L_step_r (uT : Nat → Int32) (F : Nat → Nat → Int32) (g : Nat → Nat → Int32) (v : Nat → Nat → Int32) (cn : Nat) (f : Nat → Int32) (kN : Nat) (wN : Nat → Int32) (ko : Nat) (kp : Nat → Int32) (Z : Nat → Int32) (eg : Nat → Int32) (ew : Nat → Int32) (ke : Nat) (pe : Nat → Int32) (sn : Nat) (xN : Nat) (lo : Nat → Int64) : (Nat → Int32) × (Nat → Nat → Int32) × (Nat → Nat → Int32) × (Nat → Nat → Int32) × Nat × (Nat → Int32) × (Nat → Int32) × (Nat → Int32) × (Nat → Int32) × Nat × (Nat → Int32) × Nat × (Nat → Int64) :=
  bnd (s_T_step uT F g v cn f kN wN ko kp Z eg ew ke pe sn xN) (fun (r1, uT23, F24, g25, v26, ko27, kp28, Z29, eg210, ew211, ke212, pe213, sn214) =>
    (uT23, F24, g25, v26, ko27, kp28, Z29, eg210, ew211, ke212, pe213, sn214, vp_updL lo (Int32.toNatClampNeg (0 : Int32)) r1.toInt64)
  )

def s_L_output_r (kp : Nat → Int32) (x : Int32) (lo : Nat → Int64) : (Nat → Int64) :=
  bnd (s_T_output kp x) (fun r1 =>
    vp_updL lo (Int32.toNatClampNeg (0 : Int32)) r1.toInt64
  )

def s_L_perfect_r (pe : Nat → Int32) (x : Int32) (lo : Nat → Int64) : (Nat → Int64) :=
  bnd (s_T_perfect pe x) (fun r1 =>
    vp_updL lo (Int32.toNatClampNeg (0 : Int32)) r1.toInt64
  )

def s_L_flip_r (F : Nat → Nat → Int32) (g : Nat → Nat → Int32) (v : Nat → Nat → Int32) (cn : Nat) (x : Int32) (y : Int32) (z : Int32) (u : Int32) : (Nat → Nat → Int32) × (Nat → Nat → Int32) × (Nat → Nat → Int32) :=
  bnd (s_T_flip F g v cn x y z u) (fun (F23, g24, v25) =>
    (F23, g24, v25)
  )
