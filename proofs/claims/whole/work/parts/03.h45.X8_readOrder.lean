theorem hd_X8_readOrder : yX8_readOrder.cls = RX8 ∧ yX8_readOrder.cls ≠ "java/lang/invoke/MethodHandle" ∧ yX8_readOrder.cls ≠ "java/lang/invoke/VarHandle" ∧ (parseMethodDescriptor yX8_readOrder.desc).map (fun d => d.parameters.length) = some 0 := by decide +kernel
def fX8_readOrder (N : Nat) (v : SX8) : Option (SX8) :=
  (fX8_letter N v).bind fun r1 =>
    chk ((4 : Int32) * v.2.2.2.2.2.2.2.1) 68 (
      nmd (upd v.2.2.2.2.2.2.1 ((4 : Int32) * v.2.2.2.2.2.2.2.1).toNatClampNeg r1) fun f4 =>
      if r1 = 112 then
        (fX8_wants N (v.1, v.2.1, v.2.2.1, v.2.2.2.1, v.2.2.2.2.1, v.2.2.2.2.2.1, f4, v.2.2.2.2.2.2.2) 1).bind fun r7 =>
          if r1 = 112 then
            (fX8_directions N r7).bind fun r24 =>
              chk (((4 : Int32) * v.2.2.2.2.2.2.2.1) + 1) 68 (
                nmd (upd r24.2.2.2.2.2.2.2.1 (((4 : Int32) * v.2.2.2.2.2.2.2.1) + 1).toNatClampNeg r24.1) fun f27 =>
                (fX8_letter N (r24.2.1, r24.2.2.1, r24.2.2.2.1, r24.2.2.2.2.1, r24.2.2.2.2.2.1, r24.2.2.2.2.2.2.1, f27, r24.2.2.2.2.2.2.2.2.1, r24.2.2.2.2.2.2.2.2.2.1, r24.2.2.2.2.2.2.2.2.2.2.1, r24.2.2.2.2.2.2.2.2.2.2.2.1, r24.2.2.2.2.2.2.2.2.2.2.2.2.1, r24.2.2.2.2.2.2.2.2.2.2.2.2.2)).bind fun r29 =>
                  if r29 = 42 then
                    (fX8_wants N (r24.2.1, r24.2.2.1, r24.2.2.2.1, r24.2.2.2.2.1, r24.2.2.2.2.2.1, r24.2.2.2.2.2.2.1, f27, r24.2.2.2.2.2.2.2.2.1, r24.2.2.2.2.2.2.2.2.2.1, r24.2.2.2.2.2.2.2.2.2.2.1, r24.2.2.2.2.2.2.2.2.2.2.2.1, r24.2.2.2.2.2.2.2.2.2.2.2.2.1, r24.2.2.2.2.2.2.2.2.2.2.2.2.2) 1).bind fun r39 =>
                      (fX8_digit N r39 1 9).bind fun r41 =>
                        chk (((4 : Int32) * v.2.2.2.2.2.2.2.1) + 2) 68 (
                          nmd (upd r41.2.2.2.2.2.2.2.1 (((4 : Int32) * v.2.2.2.2.2.2.2.1) + 2).toNatClampNeg r41.1) fun f44 =>
                          some (r41.2.1, r41.2.2.1, r41.2.2.2.1, r41.2.2.2.2.1, r41.2.2.2.2.2.1, r41.2.2.2.2.2.2.1, f44, (r41.2.2.2.2.2.2.2.2.1 + 1), r41.2.2.2.2.2.2.2.2.2.1, r41.2.2.2.2.2.2.2.2.2.2.1, r41.2.2.2.2.2.2.2.2.2.2.2.1, r41.2.2.2.2.2.2.2.2.2.2.2.2.1, r41.2.2.2.2.2.2.2.2.2.2.2.2.2)
                        )
                  else
                    (fX8_wants N (r24.2.1, r24.2.2.1, r24.2.2.2.1, r24.2.2.2.2.1, r24.2.2.2.2.2.1, r24.2.2.2.2.2.2.1, f27, r24.2.2.2.2.2.2.2.2.1, r24.2.2.2.2.2.2.2.2.2.1, r24.2.2.2.2.2.2.2.2.2.2.1, r24.2.2.2.2.2.2.2.2.2.2.2.1, r24.2.2.2.2.2.2.2.2.2.2.2.2.1, r24.2.2.2.2.2.2.2.2.2.2.2.2.2) 0).bind fun r32 =>
                      (fX8_digit N r32 1 9).bind fun r34 =>
                        chk (((4 : Int32) * v.2.2.2.2.2.2.2.1) + 2) 68 (
                          nmd (upd r34.2.2.2.2.2.2.2.1 (((4 : Int32) * v.2.2.2.2.2.2.2.1) + 2).toNatClampNeg r34.1) fun f37 =>
                          some (r34.2.1, r34.2.2.1, r34.2.2.2.1, r34.2.2.2.2.1, r34.2.2.2.2.2.1, r34.2.2.2.2.2.2.1, f37, (r34.2.2.2.2.2.2.2.2.1 + 1), r34.2.2.2.2.2.2.2.2.2.1, r34.2.2.2.2.2.2.2.2.2.2.1, r34.2.2.2.2.2.2.2.2.2.2.2.1, r34.2.2.2.2.2.2.2.2.2.2.2.2.1, r34.2.2.2.2.2.2.2.2.2.2.2.2.2)
                        )
              )
          else
            if r1 = 114 then
              (fX8_readRule N r7 ((4 : Int32) * v.2.2.2.2.2.2.2.1)).bind fun r22 =>
                some (r22.1, r22.2.1, r22.2.2.1, r22.2.2.2.1, r22.2.2.2.2.1, r22.2.2.2.2.2.1, r22.2.2.2.2.2.2.1, (r22.2.2.2.2.2.2.2.1 + 1), r22.2.2.2.2.2.2.2.2)
            else
              (fX8_digit N r7 0 4).bind fun r11 =>
                chk (((4 : Int32) * v.2.2.2.2.2.2.2.1) + 1) 68 (
                  nmd (upd r11.2.2.2.2.2.2.2.1 (((4 : Int32) * v.2.2.2.2.2.2.2.1) + 1).toNatClampNeg r11.1) fun f14 =>
                  chk (((4 : Int32) * v.2.2.2.2.2.2.2.1) + 1) 68 (
                    (fX8_digit N (r11.2.1, r11.2.2.1, r11.2.2.2.1, r11.2.2.2.2.1, r11.2.2.2.2.2.1, r11.2.2.2.2.2.2.1, f14, r11.2.2.2.2.2.2.2.2.1, r11.2.2.2.2.2.2.2.2.2.1, r11.2.2.2.2.2.2.2.2.2.2.1, r11.2.2.2.2.2.2.2.2.2.2.2.1, r11.2.2.2.2.2.2.2.2.2.2.2.2.1, r11.2.2.2.2.2.2.2.2.2.2.2.2.2) ((f14 (((4 : Int32) * v.2.2.2.2.2.2.2.1) + 1).toNatClampNeg) + 1) 5).bind fun r17 =>
                      chk (((4 : Int32) * v.2.2.2.2.2.2.2.1) + 2) 68 (
                        nmd (upd r17.2.2.2.2.2.2.2.1 (((4 : Int32) * v.2.2.2.2.2.2.2.1) + 2).toNatClampNeg r17.1) fun f20 =>
                        some (r17.2.1, r17.2.2.1, r17.2.2.2.1, r17.2.2.2.2.1, r17.2.2.2.2.2.1, r17.2.2.2.2.2.2.1, f20, (r17.2.2.2.2.2.2.2.2.1 + 1), r17.2.2.2.2.2.2.2.2.2.1, r17.2.2.2.2.2.2.2.2.2.2.1, r17.2.2.2.2.2.2.2.2.2.2.2.1, r17.2.2.2.2.2.2.2.2.2.2.2.2.1, r17.2.2.2.2.2.2.2.2.2.2.2.2.2)
                      )
                  )
                )
      else
        if r1 = 114 then
          (fX8_wants N (v.1, v.2.1, v.2.2.1, v.2.2.2.1, v.2.2.2.2.1, v.2.2.2.2.2.1, f4, v.2.2.2.2.2.2.2) 1).bind fun r47 =>
            if r1 = 112 then
              (fX8_directions N r47).bind fun r64 =>
                chk (((4 : Int32) * v.2.2.2.2.2.2.2.1) + 1) 68 (
                  nmd (upd r64.2.2.2.2.2.2.2.1 (((4 : Int32) * v.2.2.2.2.2.2.2.1) + 1).toNatClampNeg r64.1) fun f67 =>
                  (fX8_letter N (r64.2.1, r64.2.2.1, r64.2.2.2.1, r64.2.2.2.2.1, r64.2.2.2.2.2.1, r64.2.2.2.2.2.2.1, f67, r64.2.2.2.2.2.2.2.2.1, r64.2.2.2.2.2.2.2.2.2.1, r64.2.2.2.2.2.2.2.2.2.2.1, r64.2.2.2.2.2.2.2.2.2.2.2.1, r64.2.2.2.2.2.2.2.2.2.2.2.2.1, r64.2.2.2.2.2.2.2.2.2.2.2.2.2)).bind fun r69 =>
                    if r69 = 42 then
                      (fX8_wants N (r64.2.1, r64.2.2.1, r64.2.2.2.1, r64.2.2.2.2.1, r64.2.2.2.2.2.1, r64.2.2.2.2.2.2.1, f67, r64.2.2.2.2.2.2.2.2.1, r64.2.2.2.2.2.2.2.2.2.1, r64.2.2.2.2.2.2.2.2.2.2.1, r64.2.2.2.2.2.2.2.2.2.2.2.1, r64.2.2.2.2.2.2.2.2.2.2.2.2.1, r64.2.2.2.2.2.2.2.2.2.2.2.2.2) 1).bind fun r79 =>
                        (fX8_digit N r79 1 9).bind fun r81 =>
                          chk (((4 : Int32) * v.2.2.2.2.2.2.2.1) + 2) 68 (
                            nmd (upd r81.2.2.2.2.2.2.2.1 (((4 : Int32) * v.2.2.2.2.2.2.2.1) + 2).toNatClampNeg r81.1) fun f84 =>
                            some (r81.2.1, r81.2.2.1, r81.2.2.2.1, r81.2.2.2.2.1, r81.2.2.2.2.2.1, r81.2.2.2.2.2.2.1, f84, (r81.2.2.2.2.2.2.2.2.1 + 1), r81.2.2.2.2.2.2.2.2.2.1, r81.2.2.2.2.2.2.2.2.2.2.1, r81.2.2.2.2.2.2.2.2.2.2.2.1, r81.2.2.2.2.2.2.2.2.2.2.2.2.1, r81.2.2.2.2.2.2.2.2.2.2.2.2.2)
                          )
                    else
                      (fX8_wants N (r64.2.1, r64.2.2.1, r64.2.2.2.1, r64.2.2.2.2.1, r64.2.2.2.2.2.1, r64.2.2.2.2.2.2.1, f67, r64.2.2.2.2.2.2.2.2.1, r64.2.2.2.2.2.2.2.2.2.1, r64.2.2.2.2.2.2.2.2.2.2.1, r64.2.2.2.2.2.2.2.2.2.2.2.1, r64.2.2.2.2.2.2.2.2.2.2.2.2.1, r64.2.2.2.2.2.2.2.2.2.2.2.2.2) 0).bind fun r72 =>
                        (fX8_digit N r72 1 9).bind fun r74 =>
                          chk (((4 : Int32) * v.2.2.2.2.2.2.2.1) + 2) 68 (
                            nmd (upd r74.2.2.2.2.2.2.2.1 (((4 : Int32) * v.2.2.2.2.2.2.2.1) + 2).toNatClampNeg r74.1) fun f77 =>
                            some (r74.2.1, r74.2.2.1, r74.2.2.2.1, r74.2.2.2.2.1, r74.2.2.2.2.2.1, r74.2.2.2.2.2.2.1, f77, (r74.2.2.2.2.2.2.2.2.1 + 1), r74.2.2.2.2.2.2.2.2.2.1, r74.2.2.2.2.2.2.2.2.2.2.1, r74.2.2.2.2.2.2.2.2.2.2.2.1, r74.2.2.2.2.2.2.2.2.2.2.2.2.1, r74.2.2.2.2.2.2.2.2.2.2.2.2.2)
                          )
                )
            else
              if r1 = 114 then
                (fX8_readRule N r47 ((4 : Int32) * v.2.2.2.2.2.2.2.1)).bind fun r62 =>
                  some (r62.1, r62.2.1, r62.2.2.1, r62.2.2.2.1, r62.2.2.2.2.1, r62.2.2.2.2.2.1, r62.2.2.2.2.2.2.1, (r62.2.2.2.2.2.2.2.1 + 1), r62.2.2.2.2.2.2.2.2)
              else
                (fX8_digit N r47 0 4).bind fun r51 =>
                  chk (((4 : Int32) * v.2.2.2.2.2.2.2.1) + 1) 68 (
                    nmd (upd r51.2.2.2.2.2.2.2.1 (((4 : Int32) * v.2.2.2.2.2.2.2.1) + 1).toNatClampNeg r51.1) fun f54 =>
                    chk (((4 : Int32) * v.2.2.2.2.2.2.2.1) + 1) 68 (
                      (fX8_digit N (r51.2.1, r51.2.2.1, r51.2.2.2.1, r51.2.2.2.2.1, r51.2.2.2.2.2.1, r51.2.2.2.2.2.2.1, f54, r51.2.2.2.2.2.2.2.2.1, r51.2.2.2.2.2.2.2.2.2.1, r51.2.2.2.2.2.2.2.2.2.2.1, r51.2.2.2.2.2.2.2.2.2.2.2.1, r51.2.2.2.2.2.2.2.2.2.2.2.2.1, r51.2.2.2.2.2.2.2.2.2.2.2.2.2) ((f54 (((4 : Int32) * v.2.2.2.2.2.2.2.1) + 1).toNatClampNeg) + 1) 5).bind fun r57 =>
                        chk (((4 : Int32) * v.2.2.2.2.2.2.2.1) + 2) 68 (
                          nmd (upd r57.2.2.2.2.2.2.2.1 (((4 : Int32) * v.2.2.2.2.2.2.2.1) + 2).toNatClampNeg r57.1) fun f60 =>
                          some (r57.2.1, r57.2.2.1, r57.2.2.2.1, r57.2.2.2.2.1, r57.2.2.2.2.2.1, r57.2.2.2.2.2.2.1, f60, (r57.2.2.2.2.2.2.2.2.1 + 1), r57.2.2.2.2.2.2.2.2.2.1, r57.2.2.2.2.2.2.2.2.2.2.1, r57.2.2.2.2.2.2.2.2.2.2.2.1, r57.2.2.2.2.2.2.2.2.2.2.2.2.1, r57.2.2.2.2.2.2.2.2.2.2.2.2.2)
                        )
                    )
                  )
        else
          if r1 = 120 then
            (fX8_wants N (v.1, v.2.1, v.2.2.1, v.2.2.2.1, v.2.2.2.2.1, v.2.2.2.2.2.1, f4, v.2.2.2.2.2.2.2) 1).bind fun r126 =>
              if r1 = 112 then
                (fX8_directions N r126).bind fun r143 =>
                  chk (((4 : Int32) * v.2.2.2.2.2.2.2.1) + 1) 68 (
                    nmd (upd r143.2.2.2.2.2.2.2.1 (((4 : Int32) * v.2.2.2.2.2.2.2.1) + 1).toNatClampNeg r143.1) fun f146 =>
                    (fX8_letter N (r143.2.1, r143.2.2.1, r143.2.2.2.1, r143.2.2.2.2.1, r143.2.2.2.2.2.1, r143.2.2.2.2.2.2.1, f146, r143.2.2.2.2.2.2.2.2.1, r143.2.2.2.2.2.2.2.2.2.1, r143.2.2.2.2.2.2.2.2.2.2.1, r143.2.2.2.2.2.2.2.2.2.2.2.1, r143.2.2.2.2.2.2.2.2.2.2.2.2.1, r143.2.2.2.2.2.2.2.2.2.2.2.2.2)).bind fun r148 =>
                      if r148 = 42 then
                        (fX8_wants N (r143.2.1, r143.2.2.1, r143.2.2.2.1, r143.2.2.2.2.1, r143.2.2.2.2.2.1, r143.2.2.2.2.2.2.1, f146, r143.2.2.2.2.2.2.2.2.1, r143.2.2.2.2.2.2.2.2.2.1, r143.2.2.2.2.2.2.2.2.2.2.1, r143.2.2.2.2.2.2.2.2.2.2.2.1, r143.2.2.2.2.2.2.2.2.2.2.2.2.1, r143.2.2.2.2.2.2.2.2.2.2.2.2.2) 1).bind fun r158 =>
                          (fX8_digit N r158 1 9).bind fun r160 =>
                            chk (((4 : Int32) * v.2.2.2.2.2.2.2.1) + 2) 68 (
                              nmd (upd r160.2.2.2.2.2.2.2.1 (((4 : Int32) * v.2.2.2.2.2.2.2.1) + 2).toNatClampNeg r160.1) fun f163 =>
                              some (r160.2.1, r160.2.2.1, r160.2.2.2.1, r160.2.2.2.2.1, r160.2.2.2.2.2.1, r160.2.2.2.2.2.2.1, f163, (r160.2.2.2.2.2.2.2.2.1 + 1), r160.2.2.2.2.2.2.2.2.2.1, r160.2.2.2.2.2.2.2.2.2.2.1, r160.2.2.2.2.2.2.2.2.2.2.2.1, r160.2.2.2.2.2.2.2.2.2.2.2.2.1, r160.2.2.2.2.2.2.2.2.2.2.2.2.2)
                            )
                      else
                        (fX8_wants N (r143.2.1, r143.2.2.1, r143.2.2.2.1, r143.2.2.2.2.1, r143.2.2.2.2.2.1, r143.2.2.2.2.2.2.1, f146, r143.2.2.2.2.2.2.2.2.1, r143.2.2.2.2.2.2.2.2.2.1, r143.2.2.2.2.2.2.2.2.2.2.1, r143.2.2.2.2.2.2.2.2.2.2.2.1, r143.2.2.2.2.2.2.2.2.2.2.2.2.1, r143.2.2.2.2.2.2.2.2.2.2.2.2.2) 0).bind fun r151 =>
                          (fX8_digit N r151 1 9).bind fun r153 =>
                            chk (((4 : Int32) * v.2.2.2.2.2.2.2.1) + 2) 68 (
                              nmd (upd r153.2.2.2.2.2.2.2.1 (((4 : Int32) * v.2.2.2.2.2.2.2.1) + 2).toNatClampNeg r153.1) fun f156 =>
                              some (r153.2.1, r153.2.2.1, r153.2.2.2.1, r153.2.2.2.2.1, r153.2.2.2.2.2.1, r153.2.2.2.2.2.2.1, f156, (r153.2.2.2.2.2.2.2.2.1 + 1), r153.2.2.2.2.2.2.2.2.2.1, r153.2.2.2.2.2.2.2.2.2.2.1, r153.2.2.2.2.2.2.2.2.2.2.2.1, r153.2.2.2.2.2.2.2.2.2.2.2.2.1, r153.2.2.2.2.2.2.2.2.2.2.2.2.2)
                            )
                  )
              else
                if r1 = 114 then
                  (fX8_readRule N r126 ((4 : Int32) * v.2.2.2.2.2.2.2.1)).bind fun r141 =>
                    some (r141.1, r141.2.1, r141.2.2.1, r141.2.2.2.1, r141.2.2.2.2.1, r141.2.2.2.2.2.1, r141.2.2.2.2.2.2.1, (r141.2.2.2.2.2.2.2.1 + 1), r141.2.2.2.2.2.2.2.2)
                else
                  (fX8_digit N r126 0 4).bind fun r130 =>
                    chk (((4 : Int32) * v.2.2.2.2.2.2.2.1) + 1) 68 (
                      nmd (upd r130.2.2.2.2.2.2.2.1 (((4 : Int32) * v.2.2.2.2.2.2.2.1) + 1).toNatClampNeg r130.1) fun f133 =>
                      chk (((4 : Int32) * v.2.2.2.2.2.2.2.1) + 1) 68 (
                        (fX8_digit N (r130.2.1, r130.2.2.1, r130.2.2.2.1, r130.2.2.2.2.1, r130.2.2.2.2.2.1, r130.2.2.2.2.2.2.1, f133, r130.2.2.2.2.2.2.2.2.1, r130.2.2.2.2.2.2.2.2.2.1, r130.2.2.2.2.2.2.2.2.2.2.1, r130.2.2.2.2.2.2.2.2.2.2.2.1, r130.2.2.2.2.2.2.2.2.2.2.2.2.1, r130.2.2.2.2.2.2.2.2.2.2.2.2.2) ((f133 (((4 : Int32) * v.2.2.2.2.2.2.2.1) + 1).toNatClampNeg) + 1) 5).bind fun r136 =>
                          chk (((4 : Int32) * v.2.2.2.2.2.2.2.1) + 2) 68 (
                            nmd (upd r136.2.2.2.2.2.2.2.1 (((4 : Int32) * v.2.2.2.2.2.2.2.1) + 2).toNatClampNeg r136.1) fun f139 =>
                            some (r136.2.1, r136.2.2.1, r136.2.2.2.1, r136.2.2.2.2.1, r136.2.2.2.2.2.1, r136.2.2.2.2.2.2.1, f139, (r136.2.2.2.2.2.2.2.2.1 + 1), r136.2.2.2.2.2.2.2.2.2.1, r136.2.2.2.2.2.2.2.2.2.2.1, r136.2.2.2.2.2.2.2.2.2.2.2.1, r136.2.2.2.2.2.2.2.2.2.2.2.2.1, r136.2.2.2.2.2.2.2.2.2.2.2.2.2)
                          )
                      )
                    )
          else
            (fX8_wants N (v.1, v.2.1, v.2.2.1, v.2.2.2.1, v.2.2.2.2.1, v.2.2.2.2.2.1, f4, v.2.2.2.2.2.2.2) 0).bind fun r87 =>
              if r1 = 112 then
                (fX8_directions N r87).bind fun r104 =>
                  chk (((4 : Int32) * v.2.2.2.2.2.2.2.1) + 1) 68 (
                    nmd (upd r104.2.2.2.2.2.2.2.1 (((4 : Int32) * v.2.2.2.2.2.2.2.1) + 1).toNatClampNeg r104.1) fun f107 =>
                    (fX8_letter N (r104.2.1, r104.2.2.1, r104.2.2.2.1, r104.2.2.2.2.1, r104.2.2.2.2.2.1, r104.2.2.2.2.2.2.1, f107, r104.2.2.2.2.2.2.2.2.1, r104.2.2.2.2.2.2.2.2.2.1, r104.2.2.2.2.2.2.2.2.2.2.1, r104.2.2.2.2.2.2.2.2.2.2.2.1, r104.2.2.2.2.2.2.2.2.2.2.2.2.1, r104.2.2.2.2.2.2.2.2.2.2.2.2.2)).bind fun r109 =>
                      if r109 = 42 then
                        (fX8_wants N (r104.2.1, r104.2.2.1, r104.2.2.2.1, r104.2.2.2.2.1, r104.2.2.2.2.2.1, r104.2.2.2.2.2.2.1, f107, r104.2.2.2.2.2.2.2.2.1, r104.2.2.2.2.2.2.2.2.2.1, r104.2.2.2.2.2.2.2.2.2.2.1, r104.2.2.2.2.2.2.2.2.2.2.2.1, r104.2.2.2.2.2.2.2.2.2.2.2.2.1, r104.2.2.2.2.2.2.2.2.2.2.2.2.2) 1).bind fun r119 =>
                          (fX8_digit N r119 1 9).bind fun r121 =>
                            chk (((4 : Int32) * v.2.2.2.2.2.2.2.1) + 2) 68 (
                              nmd (upd r121.2.2.2.2.2.2.2.1 (((4 : Int32) * v.2.2.2.2.2.2.2.1) + 2).toNatClampNeg r121.1) fun f124 =>
                              some (r121.2.1, r121.2.2.1, r121.2.2.2.1, r121.2.2.2.2.1, r121.2.2.2.2.2.1, r121.2.2.2.2.2.2.1, f124, (r121.2.2.2.2.2.2.2.2.1 + 1), r121.2.2.2.2.2.2.2.2.2.1, r121.2.2.2.2.2.2.2.2.2.2.1, r121.2.2.2.2.2.2.2.2.2.2.2.1, r121.2.2.2.2.2.2.2.2.2.2.2.2.1, r121.2.2.2.2.2.2.2.2.2.2.2.2.2)
                            )
                      else
                        (fX8_wants N (r104.2.1, r104.2.2.1, r104.2.2.2.1, r104.2.2.2.2.1, r104.2.2.2.2.2.1, r104.2.2.2.2.2.2.1, f107, r104.2.2.2.2.2.2.2.2.1, r104.2.2.2.2.2.2.2.2.2.1, r104.2.2.2.2.2.2.2.2.2.2.1, r104.2.2.2.2.2.2.2.2.2.2.2.1, r104.2.2.2.2.2.2.2.2.2.2.2.2.1, r104.2.2.2.2.2.2.2.2.2.2.2.2.2) 0).bind fun r112 =>
                          (fX8_digit N r112 1 9).bind fun r114 =>
                            chk (((4 : Int32) * v.2.2.2.2.2.2.2.1) + 2) 68 (
                              nmd (upd r114.2.2.2.2.2.2.2.1 (((4 : Int32) * v.2.2.2.2.2.2.2.1) + 2).toNatClampNeg r114.1) fun f117 =>
                              some (r114.2.1, r114.2.2.1, r114.2.2.2.1, r114.2.2.2.2.1, r114.2.2.2.2.2.1, r114.2.2.2.2.2.2.1, f117, (r114.2.2.2.2.2.2.2.2.1 + 1), r114.2.2.2.2.2.2.2.2.2.1, r114.2.2.2.2.2.2.2.2.2.2.1, r114.2.2.2.2.2.2.2.2.2.2.2.1, r114.2.2.2.2.2.2.2.2.2.2.2.2.1, r114.2.2.2.2.2.2.2.2.2.2.2.2.2)
                            )
                  )
              else
                if r1 = 114 then
                  (fX8_readRule N r87 ((4 : Int32) * v.2.2.2.2.2.2.2.1)).bind fun r102 =>
                    some (r102.1, r102.2.1, r102.2.2.1, r102.2.2.2.1, r102.2.2.2.2.1, r102.2.2.2.2.2.1, r102.2.2.2.2.2.2.1, (r102.2.2.2.2.2.2.2.1 + 1), r102.2.2.2.2.2.2.2.2)
                else
                  (fX8_digit N r87 0 4).bind fun r91 =>
                    chk (((4 : Int32) * v.2.2.2.2.2.2.2.1) + 1) 68 (
                      nmd (upd r91.2.2.2.2.2.2.2.1 (((4 : Int32) * v.2.2.2.2.2.2.2.1) + 1).toNatClampNeg r91.1) fun f94 =>
                      chk (((4 : Int32) * v.2.2.2.2.2.2.2.1) + 1) 68 (
                        (fX8_digit N (r91.2.1, r91.2.2.1, r91.2.2.2.1, r91.2.2.2.2.1, r91.2.2.2.2.2.1, r91.2.2.2.2.2.2.1, f94, r91.2.2.2.2.2.2.2.2.1, r91.2.2.2.2.2.2.2.2.2.1, r91.2.2.2.2.2.2.2.2.2.2.1, r91.2.2.2.2.2.2.2.2.2.2.2.1, r91.2.2.2.2.2.2.2.2.2.2.2.2.1, r91.2.2.2.2.2.2.2.2.2.2.2.2.2) ((f94 (((4 : Int32) * v.2.2.2.2.2.2.2.1) + 1).toNatClampNeg) + 1) 5).bind fun r97 =>
                          chk (((4 : Int32) * v.2.2.2.2.2.2.2.1) + 2) 68 (
                            nmd (upd r97.2.2.2.2.2.2.2.1 (((4 : Int32) * v.2.2.2.2.2.2.2.1) + 2).toNatClampNeg r97.1) fun f100 =>
                            some (r97.2.1, r97.2.2.1, r97.2.2.2.1, r97.2.2.2.2.1, r97.2.2.2.2.2.1, r97.2.2.2.2.2.2.1, f100, (r97.2.2.2.2.2.2.2.2.1 + 1), r97.2.2.2.2.2.2.2.2.2.1, r97.2.2.2.2.2.2.2.2.2.2.1, r97.2.2.2.2.2.2.2.2.2.2.2.1, r97.2.2.2.2.2.2.2.2.2.2.2.2.1, r97.2.2.2.2.2.2.2.2.2.2.2.2.2)
                          )
                      )
                    )
    )
set_option maxHeartbeats 8000000 in
set_option maxRecDepth 100000 in
theorem M_X8_readOrder (l : Launch) (D : va_G) (cy : Nat → ClassId) (N : Nat) (a : Nat → Nat) (v : SX8) (o : SX8) (hf : fX8_readOrder N v = some o) : okM l yX8_readOrder wsX8_readOrder (rmz 3 66) D cy [.ref (a 0)] (wX8 cy a v) (wX8 cy a o) none := by
  refine okM_of (own := RX8) (nme := "readOrder") (cc := cX8_readOrder) (maxL := 3) (ret := none) (by decide) rfl rfl rfl (Nat.le_of_ble_eq_true rfl) ?_
  intro p e s m args below meth c A F
  have i_X8 : ∀ w ∈ u_ws RX8 TX8 13, w ∈ wsX8_readOrder := fun _ h => List.mem_cons_of_mem _ (List.mem_append_right _ h)
  unfold fX8_readOrder at hf
  refine V.eq rfl (show lv_args 0 [.ref (a 0)] = [(0, .ref (a 0))] from rfl) rfl ?_
  refine V_iconst (v := 4) (pc := 0) F dX8_readOrder_0 (by decide) ?_
  refine V_aload_n (pc := 1) F dX8_readOrder_1 rfl 0 rfl ?_
  refine V_get (pc := 2) F 0 8 7 i_X8 rfl (by decide) rfl (mm 1 rfl) dX8_readOrder_2 rfl rfl ?_
  refine V_imul (pc := 5) F dX8_readOrder_5 ?_
  refine V_istore_n (L2 := [(1, .int ((4 : Int32) * v.2.2.2.2.2.2.2.1)), (0, .ref (a 0))]) (pc := 6) F dX8_readOrder_6 rfl (by decide) rfl ?_
  refine V_aload_n (pc := 7) F dX8_readOrder_7 rfl 1 rfl ?_
  obtain ⟨r1, g2, hf⟩ := bind_of hf
  refine V_V (w2 := wX8 cy a v) (rest := []) (st2 := [.int r1]) (pc := 8) F 8 (M_X8_letter l D cy N a v r1 g2) (cwV 0 F.ts gX8_readOrder_X8_letter rfl rfl rfl hd_X8_letter ⟨Nat.le_of_ble_eq_true rfl, Nat.le_of_ble_eq_true rfl⟩) rfl dX8_readOrder_8 Fit.whole rfl rfl rfl (Nat.le_of_ble_eq_true rfl) (Nat.zero_le _) (Nat.zero_le _) rfl rfl rfl ?_
  refine V_istore_n (L2 := [(2, .int r1), (1, .int ((4 : Int32) * v.2.2.2.2.2.2.2.1)), (0, .ref (a 0))]) (pc := 11) F dX8_readOrder_11 rfl (by decide) rfl ?_
  refine V_aload_n (pc := 12) F dX8_readOrder_12 rfl 2 rfl ?_
  refine V_get (pc := 13) F 0 8 6 i_X8 rfl (by decide) rfl (mm 2 rfl) dX8_readOrder_13 rfl rfl ?_
  refine V_iload_n (pc := 16) F dX8_readOrder_16 rfl 1 rfl ?_
  refine V_iload_n (pc := 17) F dX8_readOrder_17 rfl 0 rfl ?_
  obtain ⟨c3, hf⟩ := chk_some hf
  obtain ⟨f4, e5, hf⟩ := nmd_of hf
  refine V_iast (w2 := wX8 cy a (v.1, v.2.1, v.2.2.1, v.2.2.2.1, v.2.2.2.2.1, v.2.2.2.2.2.1, f4, v.2.2.2.2.2.2.2)) (pc := 18) F 4 rfl c3 e5 dX8_readOrder_18 rfl ?_
  refine V_aload_n (pc := 19) F dX8_readOrder_19 rfl 2 rfl ?_
  refine V_iload_n (pc := 20) F dX8_readOrder_20 rfl 0 rfl ?_
  refine V_bipush (v := 112) (pc := 21) F dX8_readOrder_21 (by decide) ?_
  refine V_icmp_eq (pc := 23) (tgt := 38) F dX8_readOrder_23 (by decide) (fun h6 => ?_) (fun h6 => ?_)
  · replace hf := ite_pos hf h6
    refine V_iconst (v := 1) (pc := 38) F dX8_readOrder_38 (by decide) ?_
    refine V_goto (pc := 39) (tgt := 43) F dX8_readOrder_39 (by decide) ?_
    obtain ⟨r7, g8, hf⟩ := bind_of hf
    refine V_V (w2 := wX8 cy a r7) (rest := []) (st2 := []) (pc := 43) F 8 (M_X8_wants l D cy N a (v.1, v.2.1, v.2.2.1, v.2.2.2.1, v.2.2.2.2.1, v.2.2.2.2.2.1, f4, v.2.2.2.2.2.2.2) 1 r7 g8) (cwV 1 F.ts gX8_readOrder_X8_wants rfl rfl rfl hd_X8_wants ⟨Nat.le_of_ble_eq_true rfl, Nat.le_of_ble_eq_true rfl⟩) rfl dX8_readOrder_43 Fit.whole fstX8 rfl rfl (Nat.le_of_ble_eq_true rfl) (Nat.zero_le _) (Nat.zero_le _) rfl rfl rfl ?_
    refine V_iload_n (pc := 46) F dX8_readOrder_46 rfl 0 rfl ?_
    refine V_bipush (v := 112) (pc := 47) F dX8_readOrder_47 (by decide) ?_
    refine V_icmp_ne (pc := 49) (tgt := 100) F dX8_readOrder_49 (by decide) (fun h9 => ?_) (fun h9 => ?_)
    · replace hf := ite_neg hf h9
      refine V_iload_n (pc := 100) F dX8_readOrder_100 rfl 0 rfl ?_
      refine V_bipush (v := 114) (pc := 101) F dX8_readOrder_101 (by decide) ?_
      refine V_icmp_ne (pc := 103) (tgt := 114) F dX8_readOrder_103 (by decide) (fun h10 => ?_) (fun h10 => ?_)
      · replace hf := ite_neg hf h10
        refine V_aload_n (pc := 114) F dX8_readOrder_114 rfl 2 rfl ?_
        refine V_get (pc := 115) F 0 8 6 i_X8 rfl (by decide) rfl (mm 2 rfl) dX8_readOrder_115 rfl rfl ?_
        refine V_iload_n (pc := 118) F dX8_readOrder_118 rfl 1 rfl ?_
        refine V_iconst (v := 1) (pc := 119) F dX8_readOrder_119 (by decide) ?_
        refine V_iadd (pc := 120) F dX8_readOrder_120 ?_
        refine V_aload_n (pc := 121) F dX8_readOrder_121 rfl 2 rfl ?_
        refine V_iconst (v := 0) (pc := 122) F dX8_readOrder_122 (by decide) ?_
        refine V_iconst (v := 4) (pc := 123) F dX8_readOrder_123 (by decide) ?_
        obtain ⟨r11, g12, hf⟩ := bind_of hf
        refine V_V (w2 := wX8 cy a r11.2) (rest := [.int (((4 : Int32) * v.2.2.2.2.2.2.2.1) + 1), .ref (a 4)]) (st2 := [.int r11.1, .int (((4 : Int32) * v.2.2.2.2.2.2.2.1) + 1), .ref (a 4)]) (pc := 124) F 8 (M_X8_digit l D cy N a r7 0 4 r11 g12) (cwV 2 F.ts gX8_readOrder_X8_digit rfl rfl rfl hd_X8_digit ⟨Nat.le_of_ble_eq_true rfl, Nat.le_of_ble_eq_true rfl⟩) rfl dX8_readOrder_124 Fit.whole fstX8 rfl rfl (Nat.le_of_ble_eq_true rfl) (Nat.zero_le _) (Nat.zero_le _) rfl rfl rfl ?_
        obtain ⟨c13, hf⟩ := chk_some hf
        obtain ⟨f14, e15, hf⟩ := nmd_of hf
        refine V_iast (w2 := wX8 cy a (r11.2.1, r11.2.2.1, r11.2.2.2.1, r11.2.2.2.2.1, r11.2.2.2.2.2.1, r11.2.2.2.2.2.2.1, f14, r11.2.2.2.2.2.2.2.2.1, r11.2.2.2.2.2.2.2.2.2.1, r11.2.2.2.2.2.2.2.2.2.2.1, r11.2.2.2.2.2.2.2.2.2.2.2.1, r11.2.2.2.2.2.2.2.2.2.2.2.2.1, r11.2.2.2.2.2.2.2.2.2.2.2.2.2)) (pc := 127) F 4 rfl c13 e15 dX8_readOrder_127 rfl ?_
        refine V_aload_n (pc := 128) F dX8_readOrder_128 rfl 2 rfl ?_
        refine V_get (pc := 129) F 0 8 6 i_X8 rfl (by decide) rfl (mm 2 rfl) dX8_readOrder_129 rfl rfl ?_
        refine V_iload_n (pc := 132) F dX8_readOrder_132 rfl 1 rfl ?_
        refine V_iconst (v := 2) (pc := 133) F dX8_readOrder_133 (by decide) ?_
        refine V_iadd (pc := 134) F dX8_readOrder_134 ?_
        refine V_aload_n (pc := 135) F dX8_readOrder_135 rfl 2 rfl ?_
        refine V_aload_n (pc := 136) F dX8_readOrder_136 rfl 2 rfl ?_
        refine V_get (pc := 137) F 0 8 6 i_X8 rfl (by decide) rfl (mm 2 rfl) dX8_readOrder_137 rfl rfl ?_
        refine V_iload_n (pc := 140) F dX8_readOrder_140 rfl 1 rfl ?_
        refine V_iconst (v := 1) (pc := 141) F dX8_readOrder_141 (by decide) ?_
        refine V_iadd (pc := 142) F dX8_readOrder_142 ?_
        obtain ⟨c16, hf⟩ := chk_some hf
        refine V_iald (pc := 143) F 4 rfl c16 dX8_readOrder_143 ?_
        refine V_iconst (v := 1) (pc := 144) F dX8_readOrder_144 (by decide) ?_
        refine V_iadd (pc := 145) F dX8_readOrder_145 ?_
        refine V_iconst (v := 5) (pc := 146) F dX8_readOrder_146 (by decide) ?_
        obtain ⟨r17, g18, hf⟩ := bind_of hf
        refine V_V (w2 := wX8 cy a r17.2) (rest := [.int (((4 : Int32) * v.2.2.2.2.2.2.2.1) + 2), .ref (a 4)]) (st2 := [.int r17.1, .int (((4 : Int32) * v.2.2.2.2.2.2.2.1) + 2), .ref (a 4)]) (pc := 147) F 8 (M_X8_digit l D cy N a (r11.2.1, r11.2.2.1, r11.2.2.2.1, r11.2.2.2.2.1, r11.2.2.2.2.2.1, r11.2.2.2.2.2.2.1, f14, r11.2.2.2.2.2.2.2.2.1, r11.2.2.2.2.2.2.2.2.2.1, r11.2.2.2.2.2.2.2.2.2.2.1, r11.2.2.2.2.2.2.2.2.2.2.2.1, r11.2.2.2.2.2.2.2.2.2.2.2.2.1, r11.2.2.2.2.2.2.2.2.2.2.2.2.2) ((f14 (((4 : Int32) * v.2.2.2.2.2.2.2.1) + 1).toNatClampNeg) + 1) 5 r17 g18) (cwV 2 F.ts gX8_readOrder_X8_digit rfl rfl rfl hd_X8_digit ⟨Nat.le_of_ble_eq_true rfl, Nat.le_of_ble_eq_true rfl⟩) rfl dX8_readOrder_147 Fit.whole fstX8 rfl rfl (Nat.le_of_ble_eq_true rfl) (Nat.zero_le _) (Nat.zero_le _) rfl rfl rfl ?_
        obtain ⟨c19, hf⟩ := chk_some hf
        obtain ⟨f20, e21, hf⟩ := nmd_of hf
        refine V_iast (w2 := wX8 cy a (r17.2.1, r17.2.2.1, r17.2.2.2.1, r17.2.2.2.2.1, r17.2.2.2.2.2.1, r17.2.2.2.2.2.2.1, f20, r17.2.2.2.2.2.2.2.2.1, r17.2.2.2.2.2.2.2.2.2.1, r17.2.2.2.2.2.2.2.2.2.2.1, r17.2.2.2.2.2.2.2.2.2.2.2.1, r17.2.2.2.2.2.2.2.2.2.2.2.2.1, r17.2.2.2.2.2.2.2.2.2.2.2.2.2)) (pc := 150) F 4 rfl c19 e21 dX8_readOrder_150 rfl ?_
        refine V_aload_n (pc := 151) F dX8_readOrder_151 rfl 2 rfl ?_
        refine V_dup (pc := 152) F dX8_readOrder_152 rfl ?_
        refine V_get (pc := 153) F 0 8 7 i_X8 rfl (by decide) rfl (mm 1 rfl) dX8_readOrder_153 rfl rfl ?_
        refine V_iconst (v := 1) (pc := 156) F dX8_readOrder_156 (by decide) ?_
        refine V_iadd (pc := 157) F dX8_readOrder_157 ?_
        refine V_put (w2 := wX8 cy a (r17.2.1, r17.2.2.1, r17.2.2.2.1, r17.2.2.2.2.1, r17.2.2.2.2.2.1, r17.2.2.2.2.2.2.1, f20, (r17.2.2.2.2.2.2.2.2.1 + 1), r17.2.2.2.2.2.2.2.2.2.1, r17.2.2.2.2.2.2.2.2.2.2.1, r17.2.2.2.2.2.2.2.2.2.2.2.1, r17.2.2.2.2.2.2.2.2.2.2.2.2.1, r17.2.2.2.2.2.2.2.2.2.2.2.2.2)) (pc := 158) F 0 8 7 i_X8 tyX8 tyX8_ok nmX8 rfl (by decide) rfl (mm 1 rfl) rfl dX8_readOrder_158 rfl rfl rfl (Nat.le_of_ble_eq_true rfl) rfl ?_
        obtain rfl := some_of hf
        exact V_vret F rfl dX8_readOrder_161 rfl
      · replace hf := ite_pos hf h10
        refine V_aload_n (pc := 106) F dX8_readOrder_106 rfl 2 rfl ?_
        refine V_iload_n (pc := 107) F dX8_readOrder_107 rfl 1 rfl ?_
        obtain ⟨r22, g23, hf⟩ := bind_of hf
        refine V_V (w2 := wX8 cy a r22) (rest := []) (st2 := []) (pc := 108) F 8 (M_X8_readRule l D cy N a r7 ((4 : Int32) * v.2.2.2.2.2.2.2.1) r22 g23) (cwV 1 F.ts gX8_readOrder_X8_readRule rfl rfl rfl hd_X8_readRule ⟨Nat.le_of_ble_eq_true rfl, Nat.le_of_ble_eq_true rfl⟩) rfl dX8_readOrder_108 Fit.whole fstX8 rfl rfl (Nat.le_of_ble_eq_true rfl) (Nat.zero_le _) (Nat.zero_le _) rfl rfl rfl ?_
        refine V_goto (pc := 111) (tgt := 151) F dX8_readOrder_111 (by decide) ?_
        refine V_aload_n (pc := 151) F dX8_readOrder_151 rfl 2 rfl ?_
        refine V_dup (pc := 152) F dX8_readOrder_152 rfl ?_
        refine V_get (pc := 153) F 0 8 7 i_X8 rfl (by decide) rfl (mm 1 rfl) dX8_readOrder_153 rfl rfl ?_
        refine V_iconst (v := 1) (pc := 156) F dX8_readOrder_156 (by decide) ?_
        refine V_iadd (pc := 157) F dX8_readOrder_157 ?_
        refine V_put (w2 := wX8 cy a (r22.1, r22.2.1, r22.2.2.1, r22.2.2.2.1, r22.2.2.2.2.1, r22.2.2.2.2.2.1, r22.2.2.2.2.2.2.1, (r22.2.2.2.2.2.2.2.1 + 1), r22.2.2.2.2.2.2.2.2)) (pc := 158) F 0 8 7 i_X8 tyX8 tyX8_ok nmX8 rfl (by decide) rfl (mm 1 rfl) rfl dX8_readOrder_158 rfl rfl rfl (Nat.le_of_ble_eq_true rfl) rfl ?_
        obtain rfl := some_of hf
        exact V_vret F rfl dX8_readOrder_161 rfl
    · replace hf := ite_pos hf h9
      refine V_aload_n (pc := 52) F dX8_readOrder_52 rfl 2 rfl ?_
      refine V_get (pc := 53) F 0 8 6 i_X8 rfl (by decide) rfl (mm 2 rfl) dX8_readOrder_53 rfl rfl ?_
      refine V_iload_n (pc := 56) F dX8_readOrder_56 rfl 1 rfl ?_
      refine V_iconst (v := 1) (pc := 57) F dX8_readOrder_57 (by decide) ?_
      refine V_iadd (pc := 58) F dX8_readOrder_58 ?_
      refine V_aload_n (pc := 59) F dX8_readOrder_59 rfl 2 rfl ?_
      obtain ⟨r24, g25, hf⟩ := bind_of hf
      refine V_V (w2 := wX8 cy a r24.2) (rest := [.int (((4 : Int32) * v.2.2.2.2.2.2.2.1) + 1), .ref (a 4)]) (st2 := [.int r24.1, .int (((4 : Int32) * v.2.2.2.2.2.2.2.1) + 1), .ref (a 4)]) (pc := 60) F 8 (M_X8_directions l D cy N a r7 r24 g25) (cwV 0 F.ts gX8_readOrder_X8_directions rfl rfl rfl hd_X8_directions ⟨Nat.le_of_ble_eq_true rfl, Nat.le_of_ble_eq_true rfl⟩) rfl dX8_readOrder_60 Fit.whole fstX8 rfl rfl (Nat.le_of_ble_eq_true rfl) (Nat.zero_le _) (Nat.zero_le _) rfl rfl rfl ?_
      obtain ⟨c26, hf⟩ := chk_some hf
      obtain ⟨f27, e28, hf⟩ := nmd_of hf
      refine V_iast (w2 := wX8 cy a (r24.2.1, r24.2.2.1, r24.2.2.2.1, r24.2.2.2.2.1, r24.2.2.2.2.2.1, r24.2.2.2.2.2.2.1, f27, r24.2.2.2.2.2.2.2.2.1, r24.2.2.2.2.2.2.2.2.2.1, r24.2.2.2.2.2.2.2.2.2.2.1, r24.2.2.2.2.2.2.2.2.2.2.2.1, r24.2.2.2.2.2.2.2.2.2.2.2.2.1, r24.2.2.2.2.2.2.2.2.2.2.2.2.2)) (pc := 63) F 4 rfl c26 e28 dX8_readOrder_63 rfl ?_
      refine V_aload_n (pc := 64) F dX8_readOrder_64 rfl 2 rfl ?_
      refine V_aload_n (pc := 65) F dX8_readOrder_65 rfl 2 rfl ?_
      obtain ⟨r29, g30, hf⟩ := bind_of hf
      refine V_V (w2 := wX8 cy a (r24.2.1, r24.2.2.1, r24.2.2.2.1, r24.2.2.2.2.1, r24.2.2.2.2.2.1, r24.2.2.2.2.2.2.1, f27, r24.2.2.2.2.2.2.2.2.1, r24.2.2.2.2.2.2.2.2.2.1, r24.2.2.2.2.2.2.2.2.2.2.1, r24.2.2.2.2.2.2.2.2.2.2.2.1, r24.2.2.2.2.2.2.2.2.2.2.2.2.1, r24.2.2.2.2.2.2.2.2.2.2.2.2.2)) (rest := [.ref (a 0)]) (st2 := [.int r29, .ref (a 0)]) (pc := 66) F 8 (M_X8_letter l D cy N a (r24.2.1, r24.2.2.1, r24.2.2.2.1, r24.2.2.2.2.1, r24.2.2.2.2.2.1, r24.2.2.2.2.2.2.1, f27, r24.2.2.2.2.2.2.2.2.1, r24.2.2.2.2.2.2.2.2.2.1, r24.2.2.2.2.2.2.2.2.2.2.1, r24.2.2.2.2.2.2.2.2.2.2.2.1, r24.2.2.2.2.2.2.2.2.2.2.2.2.1, r24.2.2.2.2.2.2.2.2.2.2.2.2.2) r29 g30) (cwV 0 F.ts gX8_readOrder_X8_letter rfl rfl rfl hd_X8_letter ⟨Nat.le_of_ble_eq_true rfl, Nat.le_of_ble_eq_true rfl⟩) rfl dX8_readOrder_66 Fit.whole rfl rfl rfl (Nat.le_of_ble_eq_true rfl) (Nat.zero_le _) (Nat.zero_le _) rfl rfl rfl ?_
      refine V_bipush (v := 42) (pc := 69) F dX8_readOrder_69 (by decide) ?_
      refine V_icmp_ne (pc := 71) (tgt := 78) F dX8_readOrder_71 (by decide) (fun h31 => ?_) (fun h31 => ?_)
      · replace hf := ite_neg hf h31
        refine V_iconst (v := 0) (pc := 78) F dX8_readOrder_78 (by decide) ?_
        obtain ⟨r32, g33, hf⟩ := bind_of hf
        refine V_V (w2 := wX8 cy a r32) (rest := []) (st2 := []) (pc := 79) F 8 (M_X8_wants l D cy N a (r24.2.1, r24.2.2.1, r24.2.2.2.1, r24.2.2.2.2.1, r24.2.2.2.2.2.1, r24.2.2.2.2.2.2.1, f27, r24.2.2.2.2.2.2.2.2.1, r24.2.2.2.2.2.2.2.2.2.1, r24.2.2.2.2.2.2.2.2.2.2.1, r24.2.2.2.2.2.2.2.2.2.2.2.1, r24.2.2.2.2.2.2.2.2.2.2.2.2.1, r24.2.2.2.2.2.2.2.2.2.2.2.2.2) 0 r32 g33) (cwV 1 F.ts gX8_readOrder_X8_wants rfl rfl rfl hd_X8_wants ⟨Nat.le_of_ble_eq_true rfl, Nat.le_of_ble_eq_true rfl⟩) rfl dX8_readOrder_79 Fit.whole fstX8 rfl rfl (Nat.le_of_ble_eq_true rfl) (Nat.zero_le _) (Nat.zero_le _) rfl rfl rfl ?_
        refine V_aload_n (pc := 82) F dX8_readOrder_82 rfl 2 rfl ?_
        refine V_get (pc := 83) F 0 8 6 i_X8 rfl (by decide) rfl (mm 2 rfl) dX8_readOrder_83 rfl rfl ?_
        refine V_iload_n (pc := 86) F dX8_readOrder_86 rfl 1 rfl ?_
        refine V_iconst (v := 2) (pc := 87) F dX8_readOrder_87 (by decide) ?_
        refine V_iadd (pc := 88) F dX8_readOrder_88 ?_
        refine V_aload_n (pc := 89) F dX8_readOrder_89 rfl 2 rfl ?_
        refine V_iconst (v := 1) (pc := 90) F dX8_readOrder_90 (by decide) ?_
        refine V_bipush (v := 9) (pc := 91) F dX8_readOrder_91 (by decide) ?_
        obtain ⟨r34, g35, hf⟩ := bind_of hf
        refine V_V (w2 := wX8 cy a r34.2) (rest := [.int (((4 : Int32) * v.2.2.2.2.2.2.2.1) + 2), .ref (a 4)]) (st2 := [.int r34.1, .int (((4 : Int32) * v.2.2.2.2.2.2.2.1) + 2), .ref (a 4)]) (pc := 93) F 8 (M_X8_digit l D cy N a r32 1 9 r34 g35) (cwV 2 F.ts gX8_readOrder_X8_digit rfl rfl rfl hd_X8_digit ⟨Nat.le_of_ble_eq_true rfl, Nat.le_of_ble_eq_true rfl⟩) rfl dX8_readOrder_93 Fit.whole fstX8 rfl rfl (Nat.le_of_ble_eq_true rfl) (Nat.zero_le _) (Nat.zero_le _) rfl rfl rfl ?_
        obtain ⟨c36, hf⟩ := chk_some hf
        obtain ⟨f37, e38, hf⟩ := nmd_of hf
        refine V_iast (w2 := wX8 cy a (r34.2.1, r34.2.2.1, r34.2.2.2.1, r34.2.2.2.2.1, r34.2.2.2.2.2.1, r34.2.2.2.2.2.2.1, f37, r34.2.2.2.2.2.2.2.2.1, r34.2.2.2.2.2.2.2.2.2.1, r34.2.2.2.2.2.2.2.2.2.2.1, r34.2.2.2.2.2.2.2.2.2.2.2.1, r34.2.2.2.2.2.2.2.2.2.2.2.2.1, r34.2.2.2.2.2.2.2.2.2.2.2.2.2)) (pc := 96) F 4 rfl c36 e38 dX8_readOrder_96 rfl ?_
        refine V_goto (pc := 97) (tgt := 151) F dX8_readOrder_97 (by decide) ?_
        refine V_aload_n (pc := 151) F dX8_readOrder_151 rfl 2 rfl ?_
        refine V_dup (pc := 152) F dX8_readOrder_152 rfl ?_
        refine V_get (pc := 153) F 0 8 7 i_X8 rfl (by decide) rfl (mm 1 rfl) dX8_readOrder_153 rfl rfl ?_
        refine V_iconst (v := 1) (pc := 156) F dX8_readOrder_156 (by decide) ?_
        refine V_iadd (pc := 157) F dX8_readOrder_157 ?_
        refine V_put (w2 := wX8 cy a (r34.2.1, r34.2.2.1, r34.2.2.2.1, r34.2.2.2.2.1, r34.2.2.2.2.2.1, r34.2.2.2.2.2.2.1, f37, (r34.2.2.2.2.2.2.2.2.1 + 1), r34.2.2.2.2.2.2.2.2.2.1, r34.2.2.2.2.2.2.2.2.2.2.1, r34.2.2.2.2.2.2.2.2.2.2.2.1, r34.2.2.2.2.2.2.2.2.2.2.2.2.1, r34.2.2.2.2.2.2.2.2.2.2.2.2.2)) (pc := 158) F 0 8 7 i_X8 tyX8 tyX8_ok nmX8 rfl (by decide) rfl (mm 1 rfl) rfl dX8_readOrder_158 rfl rfl rfl (Nat.le_of_ble_eq_true rfl) rfl ?_
        obtain rfl := some_of hf
        exact V_vret F rfl dX8_readOrder_161 rfl
      · replace hf := ite_pos hf h31
        refine V_iconst (v := 1) (pc := 74) F dX8_readOrder_74 (by decide) ?_
        refine V_goto (pc := 75) (tgt := 79) F dX8_readOrder_75 (by decide) ?_
        obtain ⟨r39, g40, hf⟩ := bind_of hf
        refine V_V (w2 := wX8 cy a r39) (rest := []) (st2 := []) (pc := 79) F 8 (M_X8_wants l D cy N a (r24.2.1, r24.2.2.1, r24.2.2.2.1, r24.2.2.2.2.1, r24.2.2.2.2.2.1, r24.2.2.2.2.2.2.1, f27, r24.2.2.2.2.2.2.2.2.1, r24.2.2.2.2.2.2.2.2.2.1, r24.2.2.2.2.2.2.2.2.2.2.1, r24.2.2.2.2.2.2.2.2.2.2.2.1, r24.2.2.2.2.2.2.2.2.2.2.2.2.1, r24.2.2.2.2.2.2.2.2.2.2.2.2.2) 1 r39 g40) (cwV 1 F.ts gX8_readOrder_X8_wants rfl rfl rfl hd_X8_wants ⟨Nat.le_of_ble_eq_true rfl, Nat.le_of_ble_eq_true rfl⟩) rfl dX8_readOrder_79 Fit.whole fstX8 rfl rfl (Nat.le_of_ble_eq_true rfl) (Nat.zero_le _) (Nat.zero_le _) rfl rfl rfl ?_
        refine V_aload_n (pc := 82) F dX8_readOrder_82 rfl 2 rfl ?_
        refine V_get (pc := 83) F 0 8 6 i_X8 rfl (by decide) rfl (mm 2 rfl) dX8_readOrder_83 rfl rfl ?_
        refine V_iload_n (pc := 86) F dX8_readOrder_86 rfl 1 rfl ?_
        refine V_iconst (v := 2) (pc := 87) F dX8_readOrder_87 (by decide) ?_
        refine V_iadd (pc := 88) F dX8_readOrder_88 ?_
        refine V_aload_n (pc := 89) F dX8_readOrder_89 rfl 2 rfl ?_
        refine V_iconst (v := 1) (pc := 90) F dX8_readOrder_90 (by decide) ?_
        refine V_bipush (v := 9) (pc := 91) F dX8_readOrder_91 (by decide) ?_
        obtain ⟨r41, g42, hf⟩ := bind_of hf
        refine V_V (w2 := wX8 cy a r41.2) (rest := [.int (((4 : Int32) * v.2.2.2.2.2.2.2.1) + 2), .ref (a 4)]) (st2 := [.int r41.1, .int (((4 : Int32) * v.2.2.2.2.2.2.2.1) + 2), .ref (a 4)]) (pc := 93) F 8 (M_X8_digit l D cy N a r39 1 9 r41 g42) (cwV 2 F.ts gX8_readOrder_X8_digit rfl rfl rfl hd_X8_digit ⟨Nat.le_of_ble_eq_true rfl, Nat.le_of_ble_eq_true rfl⟩) rfl dX8_readOrder_93 Fit.whole fstX8 rfl rfl (Nat.le_of_ble_eq_true rfl) (Nat.zero_le _) (Nat.zero_le _) rfl rfl rfl ?_
        obtain ⟨c43, hf⟩ := chk_some hf
        obtain ⟨f44, e45, hf⟩ := nmd_of hf
        refine V_iast (w2 := wX8 cy a (r41.2.1, r41.2.2.1, r41.2.2.2.1, r41.2.2.2.2.1, r41.2.2.2.2.2.1, r41.2.2.2.2.2.2.1, f44, r41.2.2.2.2.2.2.2.2.1, r41.2.2.2.2.2.2.2.2.2.1, r41.2.2.2.2.2.2.2.2.2.2.1, r41.2.2.2.2.2.2.2.2.2.2.2.1, r41.2.2.2.2.2.2.2.2.2.2.2.2.1, r41.2.2.2.2.2.2.2.2.2.2.2.2.2)) (pc := 96) F 4 rfl c43 e45 dX8_readOrder_96 rfl ?_
        refine V_goto (pc := 97) (tgt := 151) F dX8_readOrder_97 (by decide) ?_
        refine V_aload_n (pc := 151) F dX8_readOrder_151 rfl 2 rfl ?_
        refine V_dup (pc := 152) F dX8_readOrder_152 rfl ?_
        refine V_get (pc := 153) F 0 8 7 i_X8 rfl (by decide) rfl (mm 1 rfl) dX8_readOrder_153 rfl rfl ?_
        refine V_iconst (v := 1) (pc := 156) F dX8_readOrder_156 (by decide) ?_
        refine V_iadd (pc := 157) F dX8_readOrder_157 ?_
        refine V_put (w2 := wX8 cy a (r41.2.1, r41.2.2.1, r41.2.2.2.1, r41.2.2.2.2.1, r41.2.2.2.2.2.1, r41.2.2.2.2.2.2.1, f44, (r41.2.2.2.2.2.2.2.2.1 + 1), r41.2.2.2.2.2.2.2.2.2.1, r41.2.2.2.2.2.2.2.2.2.2.1, r41.2.2.2.2.2.2.2.2.2.2.2.1, r41.2.2.2.2.2.2.2.2.2.2.2.2.1, r41.2.2.2.2.2.2.2.2.2.2.2.2.2)) (pc := 158) F 0 8 7 i_X8 tyX8 tyX8_ok nmX8 rfl (by decide) rfl (mm 1 rfl) rfl dX8_readOrder_158 rfl rfl rfl (Nat.le_of_ble_eq_true rfl) rfl ?_
        obtain rfl := some_of hf
        exact V_vret F rfl dX8_readOrder_161 rfl
  · replace hf := ite_neg hf h6
    refine V_iload_n (pc := 26) F dX8_readOrder_26 rfl 0 rfl ?_
    refine V_bipush (v := 114) (pc := 27) F dX8_readOrder_27 (by decide) ?_
    refine V_icmp_eq (pc := 29) (tgt := 38) F dX8_readOrder_29 (by decide) (fun h46 => ?_) (fun h46 => ?_)
    · replace hf := ite_pos hf h46
      refine V_iconst (v := 1) (pc := 38) F dX8_readOrder_38 (by decide) ?_
      refine V_goto (pc := 39) (tgt := 43) F dX8_readOrder_39 (by decide) ?_
      obtain ⟨r47, g48, hf⟩ := bind_of hf
      refine V_V (w2 := wX8 cy a r47) (rest := []) (st2 := []) (pc := 43) F 8 (M_X8_wants l D cy N a (v.1, v.2.1, v.2.2.1, v.2.2.2.1, v.2.2.2.2.1, v.2.2.2.2.2.1, f4, v.2.2.2.2.2.2.2) 1 r47 g48) (cwV 1 F.ts gX8_readOrder_X8_wants rfl rfl rfl hd_X8_wants ⟨Nat.le_of_ble_eq_true rfl, Nat.le_of_ble_eq_true rfl⟩) rfl dX8_readOrder_43 Fit.whole fstX8 rfl rfl (Nat.le_of_ble_eq_true rfl) (Nat.zero_le _) (Nat.zero_le _) rfl rfl rfl ?_
      refine V_iload_n (pc := 46) F dX8_readOrder_46 rfl 0 rfl ?_
      refine V_bipush (v := 112) (pc := 47) F dX8_readOrder_47 (by decide) ?_
      refine V_icmp_ne (pc := 49) (tgt := 100) F dX8_readOrder_49 (by decide) (fun h49 => ?_) (fun h49 => ?_)
      · replace hf := ite_neg hf h49
        refine V_iload_n (pc := 100) F dX8_readOrder_100 rfl 0 rfl ?_
        refine V_bipush (v := 114) (pc := 101) F dX8_readOrder_101 (by decide) ?_
        refine V_icmp_ne (pc := 103) (tgt := 114) F dX8_readOrder_103 (by decide) (fun h50 => ?_) (fun h50 => ?_)
        · replace hf := ite_neg hf h50
          refine V_aload_n (pc := 114) F dX8_readOrder_114 rfl 2 rfl ?_
          refine V_get (pc := 115) F 0 8 6 i_X8 rfl (by decide) rfl (mm 2 rfl) dX8_readOrder_115 rfl rfl ?_
          refine V_iload_n (pc := 118) F dX8_readOrder_118 rfl 1 rfl ?_
          refine V_iconst (v := 1) (pc := 119) F dX8_readOrder_119 (by decide) ?_
          refine V_iadd (pc := 120) F dX8_readOrder_120 ?_
          refine V_aload_n (pc := 121) F dX8_readOrder_121 rfl 2 rfl ?_
          refine V_iconst (v := 0) (pc := 122) F dX8_readOrder_122 (by decide) ?_
          refine V_iconst (v := 4) (pc := 123) F dX8_readOrder_123 (by decide) ?_
          obtain ⟨r51, g52, hf⟩ := bind_of hf
          refine V_V (w2 := wX8 cy a r51.2) (rest := [.int (((4 : Int32) * v.2.2.2.2.2.2.2.1) + 1), .ref (a 4)]) (st2 := [.int r51.1, .int (((4 : Int32) * v.2.2.2.2.2.2.2.1) + 1), .ref (a 4)]) (pc := 124) F 8 (M_X8_digit l D cy N a r47 0 4 r51 g52) (cwV 2 F.ts gX8_readOrder_X8_digit rfl rfl rfl hd_X8_digit ⟨Nat.le_of_ble_eq_true rfl, Nat.le_of_ble_eq_true rfl⟩) rfl dX8_readOrder_124 Fit.whole fstX8 rfl rfl (Nat.le_of_ble_eq_true rfl) (Nat.zero_le _) (Nat.zero_le _) rfl rfl rfl ?_
          obtain ⟨c53, hf⟩ := chk_some hf
          obtain ⟨f54, e55, hf⟩ := nmd_of hf
          refine V_iast (w2 := wX8 cy a (r51.2.1, r51.2.2.1, r51.2.2.2.1, r51.2.2.2.2.1, r51.2.2.2.2.2.1, r51.2.2.2.2.2.2.1, f54, r51.2.2.2.2.2.2.2.2.1, r51.2.2.2.2.2.2.2.2.2.1, r51.2.2.2.2.2.2.2.2.2.2.1, r51.2.2.2.2.2.2.2.2.2.2.2.1, r51.2.2.2.2.2.2.2.2.2.2.2.2.1, r51.2.2.2.2.2.2.2.2.2.2.2.2.2)) (pc := 127) F 4 rfl c53 e55 dX8_readOrder_127 rfl ?_
          refine V_aload_n (pc := 128) F dX8_readOrder_128 rfl 2 rfl ?_
          refine V_get (pc := 129) F 0 8 6 i_X8 rfl (by decide) rfl (mm 2 rfl) dX8_readOrder_129 rfl rfl ?_
          refine V_iload_n (pc := 132) F dX8_readOrder_132 rfl 1 rfl ?_
          refine V_iconst (v := 2) (pc := 133) F dX8_readOrder_133 (by decide) ?_
          refine V_iadd (pc := 134) F dX8_readOrder_134 ?_
          refine V_aload_n (pc := 135) F dX8_readOrder_135 rfl 2 rfl ?_
          refine V_aload_n (pc := 136) F dX8_readOrder_136 rfl 2 rfl ?_
          refine V_get (pc := 137) F 0 8 6 i_X8 rfl (by decide) rfl (mm 2 rfl) dX8_readOrder_137 rfl rfl ?_
          refine V_iload_n (pc := 140) F dX8_readOrder_140 rfl 1 rfl ?_
          refine V_iconst (v := 1) (pc := 141) F dX8_readOrder_141 (by decide) ?_
          refine V_iadd (pc := 142) F dX8_readOrder_142 ?_
          obtain ⟨c56, hf⟩ := chk_some hf
          refine V_iald (pc := 143) F 4 rfl c56 dX8_readOrder_143 ?_
          refine V_iconst (v := 1) (pc := 144) F dX8_readOrder_144 (by decide) ?_
          refine V_iadd (pc := 145) F dX8_readOrder_145 ?_
          refine V_iconst (v := 5) (pc := 146) F dX8_readOrder_146 (by decide) ?_
          obtain ⟨r57, g58, hf⟩ := bind_of hf
          refine V_V (w2 := wX8 cy a r57.2) (rest := [.int (((4 : Int32) * v.2.2.2.2.2.2.2.1) + 2), .ref (a 4)]) (st2 := [.int r57.1, .int (((4 : Int32) * v.2.2.2.2.2.2.2.1) + 2), .ref (a 4)]) (pc := 147) F 8 (M_X8_digit l D cy N a (r51.2.1, r51.2.2.1, r51.2.2.2.1, r51.2.2.2.2.1, r51.2.2.2.2.2.1, r51.2.2.2.2.2.2.1, f54, r51.2.2.2.2.2.2.2.2.1, r51.2.2.2.2.2.2.2.2.2.1, r51.2.2.2.2.2.2.2.2.2.2.1, r51.2.2.2.2.2.2.2.2.2.2.2.1, r51.2.2.2.2.2.2.2.2.2.2.2.2.1, r51.2.2.2.2.2.2.2.2.2.2.2.2.2) ((f54 (((4 : Int32) * v.2.2.2.2.2.2.2.1) + 1).toNatClampNeg) + 1) 5 r57 g58) (cwV 2 F.ts gX8_readOrder_X8_digit rfl rfl rfl hd_X8_digit ⟨Nat.le_of_ble_eq_true rfl, Nat.le_of_ble_eq_true rfl⟩) rfl dX8_readOrder_147 Fit.whole fstX8 rfl rfl (Nat.le_of_ble_eq_true rfl) (Nat.zero_le _) (Nat.zero_le _) rfl rfl rfl ?_
          obtain ⟨c59, hf⟩ := chk_some hf
          obtain ⟨f60, e61, hf⟩ := nmd_of hf
          refine V_iast (w2 := wX8 cy a (r57.2.1, r57.2.2.1, r57.2.2.2.1, r57.2.2.2.2.1, r57.2.2.2.2.2.1, r57.2.2.2.2.2.2.1, f60, r57.2.2.2.2.2.2.2.2.1, r57.2.2.2.2.2.2.2.2.2.1, r57.2.2.2.2.2.2.2.2.2.2.1, r57.2.2.2.2.2.2.2.2.2.2.2.1, r57.2.2.2.2.2.2.2.2.2.2.2.2.1, r57.2.2.2.2.2.2.2.2.2.2.2.2.2)) (pc := 150) F 4 rfl c59 e61 dX8_readOrder_150 rfl ?_
          refine V_aload_n (pc := 151) F dX8_readOrder_151 rfl 2 rfl ?_
          refine V_dup (pc := 152) F dX8_readOrder_152 rfl ?_
          refine V_get (pc := 153) F 0 8 7 i_X8 rfl (by decide) rfl (mm 1 rfl) dX8_readOrder_153 rfl rfl ?_
          refine V_iconst (v := 1) (pc := 156) F dX8_readOrder_156 (by decide) ?_
          refine V_iadd (pc := 157) F dX8_readOrder_157 ?_
          refine V_put (w2 := wX8 cy a (r57.2.1, r57.2.2.1, r57.2.2.2.1, r57.2.2.2.2.1, r57.2.2.2.2.2.1, r57.2.2.2.2.2.2.1, f60, (r57.2.2.2.2.2.2.2.2.1 + 1), r57.2.2.2.2.2.2.2.2.2.1, r57.2.2.2.2.2.2.2.2.2.2.1, r57.2.2.2.2.2.2.2.2.2.2.2.1, r57.2.2.2.2.2.2.2.2.2.2.2.2.1, r57.2.2.2.2.2.2.2.2.2.2.2.2.2)) (pc := 158) F 0 8 7 i_X8 tyX8 tyX8_ok nmX8 rfl (by decide) rfl (mm 1 rfl) rfl dX8_readOrder_158 rfl rfl rfl (Nat.le_of_ble_eq_true rfl) rfl ?_
          obtain rfl := some_of hf
          exact V_vret F rfl dX8_readOrder_161 rfl
        · replace hf := ite_pos hf h50
          refine V_aload_n (pc := 106) F dX8_readOrder_106 rfl 2 rfl ?_
          refine V_iload_n (pc := 107) F dX8_readOrder_107 rfl 1 rfl ?_
          obtain ⟨r62, g63, hf⟩ := bind_of hf
          refine V_V (w2 := wX8 cy a r62) (rest := []) (st2 := []) (pc := 108) F 8 (M_X8_readRule l D cy N a r47 ((4 : Int32) * v.2.2.2.2.2.2.2.1) r62 g63) (cwV 1 F.ts gX8_readOrder_X8_readRule rfl rfl rfl hd_X8_readRule ⟨Nat.le_of_ble_eq_true rfl, Nat.le_of_ble_eq_true rfl⟩) rfl dX8_readOrder_108 Fit.whole fstX8 rfl rfl (Nat.le_of_ble_eq_true rfl) (Nat.zero_le _) (Nat.zero_le _) rfl rfl rfl ?_
          refine V_goto (pc := 111) (tgt := 151) F dX8_readOrder_111 (by decide) ?_
          refine V_aload_n (pc := 151) F dX8_readOrder_151 rfl 2 rfl ?_
          refine V_dup (pc := 152) F dX8_readOrder_152 rfl ?_
          refine V_get (pc := 153) F 0 8 7 i_X8 rfl (by decide) rfl (mm 1 rfl) dX8_readOrder_153 rfl rfl ?_
          refine V_iconst (v := 1) (pc := 156) F dX8_readOrder_156 (by decide) ?_
          refine V_iadd (pc := 157) F dX8_readOrder_157 ?_
          refine V_put (w2 := wX8 cy a (r62.1, r62.2.1, r62.2.2.1, r62.2.2.2.1, r62.2.2.2.2.1, r62.2.2.2.2.2.1, r62.2.2.2.2.2.2.1, (r62.2.2.2.2.2.2.2.1 + 1), r62.2.2.2.2.2.2.2.2)) (pc := 158) F 0 8 7 i_X8 tyX8 tyX8_ok nmX8 rfl (by decide) rfl (mm 1 rfl) rfl dX8_readOrder_158 rfl rfl rfl (Nat.le_of_ble_eq_true rfl) rfl ?_
          obtain rfl := some_of hf
          exact V_vret F rfl dX8_readOrder_161 rfl
      · replace hf := ite_pos hf h49
        refine V_aload_n (pc := 52) F dX8_readOrder_52 rfl 2 rfl ?_
        refine V_get (pc := 53) F 0 8 6 i_X8 rfl (by decide) rfl (mm 2 rfl) dX8_readOrder_53 rfl rfl ?_
        refine V_iload_n (pc := 56) F dX8_readOrder_56 rfl 1 rfl ?_
        refine V_iconst (v := 1) (pc := 57) F dX8_readOrder_57 (by decide) ?_
        refine V_iadd (pc := 58) F dX8_readOrder_58 ?_
        refine V_aload_n (pc := 59) F dX8_readOrder_59 rfl 2 rfl ?_
        obtain ⟨r64, g65, hf⟩ := bind_of hf
        refine V_V (w2 := wX8 cy a r64.2) (rest := [.int (((4 : Int32) * v.2.2.2.2.2.2.2.1) + 1), .ref (a 4)]) (st2 := [.int r64.1, .int (((4 : Int32) * v.2.2.2.2.2.2.2.1) + 1), .ref (a 4)]) (pc := 60) F 8 (M_X8_directions l D cy N a r47 r64 g65) (cwV 0 F.ts gX8_readOrder_X8_directions rfl rfl rfl hd_X8_directions ⟨Nat.le_of_ble_eq_true rfl, Nat.le_of_ble_eq_true rfl⟩) rfl dX8_readOrder_60 Fit.whole fstX8 rfl rfl (Nat.le_of_ble_eq_true rfl) (Nat.zero_le _) (Nat.zero_le _) rfl rfl rfl ?_
        obtain ⟨c66, hf⟩ := chk_some hf
        obtain ⟨f67, e68, hf⟩ := nmd_of hf
        refine V_iast (w2 := wX8 cy a (r64.2.1, r64.2.2.1, r64.2.2.2.1, r64.2.2.2.2.1, r64.2.2.2.2.2.1, r64.2.2.2.2.2.2.1, f67, r64.2.2.2.2.2.2.2.2.1, r64.2.2.2.2.2.2.2.2.2.1, r64.2.2.2.2.2.2.2.2.2.2.1, r64.2.2.2.2.2.2.2.2.2.2.2.1, r64.2.2.2.2.2.2.2.2.2.2.2.2.1, r64.2.2.2.2.2.2.2.2.2.2.2.2.2)) (pc := 63) F 4 rfl c66 e68 dX8_readOrder_63 rfl ?_
        refine V_aload_n (pc := 64) F dX8_readOrder_64 rfl 2 rfl ?_
        refine V_aload_n (pc := 65) F dX8_readOrder_65 rfl 2 rfl ?_
        obtain ⟨r69, g70, hf⟩ := bind_of hf
        refine V_V (w2 := wX8 cy a (r64.2.1, r64.2.2.1, r64.2.2.2.1, r64.2.2.2.2.1, r64.2.2.2.2.2.1, r64.2.2.2.2.2.2.1, f67, r64.2.2.2.2.2.2.2.2.1, r64.2.2.2.2.2.2.2.2.2.1, r64.2.2.2.2.2.2.2.2.2.2.1, r64.2.2.2.2.2.2.2.2.2.2.2.1, r64.2.2.2.2.2.2.2.2.2.2.2.2.1, r64.2.2.2.2.2.2.2.2.2.2.2.2.2)) (rest := [.ref (a 0)]) (st2 := [.int r69, .ref (a 0)]) (pc := 66) F 8 (M_X8_letter l D cy N a (r64.2.1, r64.2.2.1, r64.2.2.2.1, r64.2.2.2.2.1, r64.2.2.2.2.2.1, r64.2.2.2.2.2.2.1, f67, r64.2.2.2.2.2.2.2.2.1, r64.2.2.2.2.2.2.2.2.2.1, r64.2.2.2.2.2.2.2.2.2.2.1, r64.2.2.2.2.2.2.2.2.2.2.2.1, r64.2.2.2.2.2.2.2.2.2.2.2.2.1, r64.2.2.2.2.2.2.2.2.2.2.2.2.2) r69 g70) (cwV 0 F.ts gX8_readOrder_X8_letter rfl rfl rfl hd_X8_letter ⟨Nat.le_of_ble_eq_true rfl, Nat.le_of_ble_eq_true rfl⟩) rfl dX8_readOrder_66 Fit.whole rfl rfl rfl (Nat.le_of_ble_eq_true rfl) (Nat.zero_le _) (Nat.zero_le _) rfl rfl rfl ?_
        refine V_bipush (v := 42) (pc := 69) F dX8_readOrder_69 (by decide) ?_
        refine V_icmp_ne (pc := 71) (tgt := 78) F dX8_readOrder_71 (by decide) (fun h71 => ?_) (fun h71 => ?_)
        · replace hf := ite_neg hf h71
          refine V_iconst (v := 0) (pc := 78) F dX8_readOrder_78 (by decide) ?_
          obtain ⟨r72, g73, hf⟩ := bind_of hf
          refine V_V (w2 := wX8 cy a r72) (rest := []) (st2 := []) (pc := 79) F 8 (M_X8_wants l D cy N a (r64.2.1, r64.2.2.1, r64.2.2.2.1, r64.2.2.2.2.1, r64.2.2.2.2.2.1, r64.2.2.2.2.2.2.1, f67, r64.2.2.2.2.2.2.2.2.1, r64.2.2.2.2.2.2.2.2.2.1, r64.2.2.2.2.2.2.2.2.2.2.1, r64.2.2.2.2.2.2.2.2.2.2.2.1, r64.2.2.2.2.2.2.2.2.2.2.2.2.1, r64.2.2.2.2.2.2.2.2.2.2.2.2.2) 0 r72 g73) (cwV 1 F.ts gX8_readOrder_X8_wants rfl rfl rfl hd_X8_wants ⟨Nat.le_of_ble_eq_true rfl, Nat.le_of_ble_eq_true rfl⟩) rfl dX8_readOrder_79 Fit.whole fstX8 rfl rfl (Nat.le_of_ble_eq_true rfl) (Nat.zero_le _) (Nat.zero_le _) rfl rfl rfl ?_
          refine V_aload_n (pc := 82) F dX8_readOrder_82 rfl 2 rfl ?_
          refine V_get (pc := 83) F 0 8 6 i_X8 rfl (by decide) rfl (mm 2 rfl) dX8_readOrder_83 rfl rfl ?_
          refine V_iload_n (pc := 86) F dX8_readOrder_86 rfl 1 rfl ?_
          refine V_iconst (v := 2) (pc := 87) F dX8_readOrder_87 (by decide) ?_
          refine V_iadd (pc := 88) F dX8_readOrder_88 ?_
          refine V_aload_n (pc := 89) F dX8_readOrder_89 rfl 2 rfl ?_
          refine V_iconst (v := 1) (pc := 90) F dX8_readOrder_90 (by decide) ?_
          refine V_bipush (v := 9) (pc := 91) F dX8_readOrder_91 (by decide) ?_
          obtain ⟨r74, g75, hf⟩ := bind_of hf
          refine V_V (w2 := wX8 cy a r74.2) (rest := [.int (((4 : Int32) * v.2.2.2.2.2.2.2.1) + 2), .ref (a 4)]) (st2 := [.int r74.1, .int (((4 : Int32) * v.2.2.2.2.2.2.2.1) + 2), .ref (a 4)]) (pc := 93) F 8 (M_X8_digit l D cy N a r72 1 9 r74 g75) (cwV 2 F.ts gX8_readOrder_X8_digit rfl rfl rfl hd_X8_digit ⟨Nat.le_of_ble_eq_true rfl, Nat.le_of_ble_eq_true rfl⟩) rfl dX8_readOrder_93 Fit.whole fstX8 rfl rfl (Nat.le_of_ble_eq_true rfl) (Nat.zero_le _) (Nat.zero_le _) rfl rfl rfl ?_
          obtain ⟨c76, hf⟩ := chk_some hf
          obtain ⟨f77, e78, hf⟩ := nmd_of hf
          refine V_iast (w2 := wX8 cy a (r74.2.1, r74.2.2.1, r74.2.2.2.1, r74.2.2.2.2.1, r74.2.2.2.2.2.1, r74.2.2.2.2.2.2.1, f77, r74.2.2.2.2.2.2.2.2.1, r74.2.2.2.2.2.2.2.2.2.1, r74.2.2.2.2.2.2.2.2.2.2.1, r74.2.2.2.2.2.2.2.2.2.2.2.1, r74.2.2.2.2.2.2.2.2.2.2.2.2.1, r74.2.2.2.2.2.2.2.2.2.2.2.2.2)) (pc := 96) F 4 rfl c76 e78 dX8_readOrder_96 rfl ?_
          refine V_goto (pc := 97) (tgt := 151) F dX8_readOrder_97 (by decide) ?_
          refine V_aload_n (pc := 151) F dX8_readOrder_151 rfl 2 rfl ?_
          refine V_dup (pc := 152) F dX8_readOrder_152 rfl ?_
          refine V_get (pc := 153) F 0 8 7 i_X8 rfl (by decide) rfl (mm 1 rfl) dX8_readOrder_153 rfl rfl ?_
          refine V_iconst (v := 1) (pc := 156) F dX8_readOrder_156 (by decide) ?_
          refine V_iadd (pc := 157) F dX8_readOrder_157 ?_
          refine V_put (w2 := wX8 cy a (r74.2.1, r74.2.2.1, r74.2.2.2.1, r74.2.2.2.2.1, r74.2.2.2.2.2.1, r74.2.2.2.2.2.2.1, f77, (r74.2.2.2.2.2.2.2.2.1 + 1), r74.2.2.2.2.2.2.2.2.2.1, r74.2.2.2.2.2.2.2.2.2.2.1, r74.2.2.2.2.2.2.2.2.2.2.2.1, r74.2.2.2.2.2.2.2.2.2.2.2.2.1, r74.2.2.2.2.2.2.2.2.2.2.2.2.2)) (pc := 158) F 0 8 7 i_X8 tyX8 tyX8_ok nmX8 rfl (by decide) rfl (mm 1 rfl) rfl dX8_readOrder_158 rfl rfl rfl (Nat.le_of_ble_eq_true rfl) rfl ?_
          obtain rfl := some_of hf
          exact V_vret F rfl dX8_readOrder_161 rfl
        · replace hf := ite_pos hf h71
          refine V_iconst (v := 1) (pc := 74) F dX8_readOrder_74 (by decide) ?_
          refine V_goto (pc := 75) (tgt := 79) F dX8_readOrder_75 (by decide) ?_
          obtain ⟨r79, g80, hf⟩ := bind_of hf
          refine V_V (w2 := wX8 cy a r79) (rest := []) (st2 := []) (pc := 79) F 8 (M_X8_wants l D cy N a (r64.2.1, r64.2.2.1, r64.2.2.2.1, r64.2.2.2.2.1, r64.2.2.2.2.2.1, r64.2.2.2.2.2.2.1, f67, r64.2.2.2.2.2.2.2.2.1, r64.2.2.2.2.2.2.2.2.2.1, r64.2.2.2.2.2.2.2.2.2.2.1, r64.2.2.2.2.2.2.2.2.2.2.2.1, r64.2.2.2.2.2.2.2.2.2.2.2.2.1, r64.2.2.2.2.2.2.2.2.2.2.2.2.2) 1 r79 g80) (cwV 1 F.ts gX8_readOrder_X8_wants rfl rfl rfl hd_X8_wants ⟨Nat.le_of_ble_eq_true rfl, Nat.le_of_ble_eq_true rfl⟩) rfl dX8_readOrder_79 Fit.whole fstX8 rfl rfl (Nat.le_of_ble_eq_true rfl) (Nat.zero_le _) (Nat.zero_le _) rfl rfl rfl ?_
          refine V_aload_n (pc := 82) F dX8_readOrder_82 rfl 2 rfl ?_
          refine V_get (pc := 83) F 0 8 6 i_X8 rfl (by decide) rfl (mm 2 rfl) dX8_readOrder_83 rfl rfl ?_
          refine V_iload_n (pc := 86) F dX8_readOrder_86 rfl 1 rfl ?_
          refine V_iconst (v := 2) (pc := 87) F dX8_readOrder_87 (by decide) ?_
          refine V_iadd (pc := 88) F dX8_readOrder_88 ?_
          refine V_aload_n (pc := 89) F dX8_readOrder_89 rfl 2 rfl ?_
          refine V_iconst (v := 1) (pc := 90) F dX8_readOrder_90 (by decide) ?_
          refine V_bipush (v := 9) (pc := 91) F dX8_readOrder_91 (by decide) ?_
          obtain ⟨r81, g82, hf⟩ := bind_of hf
          refine V_V (w2 := wX8 cy a r81.2) (rest := [.int (((4 : Int32) * v.2.2.2.2.2.2.2.1) + 2), .ref (a 4)]) (st2 := [.int r81.1, .int (((4 : Int32) * v.2.2.2.2.2.2.2.1) + 2), .ref (a 4)]) (pc := 93) F 8 (M_X8_digit l D cy N a r79 1 9 r81 g82) (cwV 2 F.ts gX8_readOrder_X8_digit rfl rfl rfl hd_X8_digit ⟨Nat.le_of_ble_eq_true rfl, Nat.le_of_ble_eq_true rfl⟩) rfl dX8_readOrder_93 Fit.whole fstX8 rfl rfl (Nat.le_of_ble_eq_true rfl) (Nat.zero_le _) (Nat.zero_le _) rfl rfl rfl ?_
          obtain ⟨c83, hf⟩ := chk_some hf
          obtain ⟨f84, e85, hf⟩ := nmd_of hf
          refine V_iast (w2 := wX8 cy a (r81.2.1, r81.2.2.1, r81.2.2.2.1, r81.2.2.2.2.1, r81.2.2.2.2.2.1, r81.2.2.2.2.2.2.1, f84, r81.2.2.2.2.2.2.2.2.1, r81.2.2.2.2.2.2.2.2.2.1, r81.2.2.2.2.2.2.2.2.2.2.1, r81.2.2.2.2.2.2.2.2.2.2.2.1, r81.2.2.2.2.2.2.2.2.2.2.2.2.1, r81.2.2.2.2.2.2.2.2.2.2.2.2.2)) (pc := 96) F 4 rfl c83 e85 dX8_readOrder_96 rfl ?_
          refine V_goto (pc := 97) (tgt := 151) F dX8_readOrder_97 (by decide) ?_
          refine V_aload_n (pc := 151) F dX8_readOrder_151 rfl 2 rfl ?_
          refine V_dup (pc := 152) F dX8_readOrder_152 rfl ?_
          refine V_get (pc := 153) F 0 8 7 i_X8 rfl (by decide) rfl (mm 1 rfl) dX8_readOrder_153 rfl rfl ?_
          refine V_iconst (v := 1) (pc := 156) F dX8_readOrder_156 (by decide) ?_
          refine V_iadd (pc := 157) F dX8_readOrder_157 ?_
          refine V_put (w2 := wX8 cy a (r81.2.1, r81.2.2.1, r81.2.2.2.1, r81.2.2.2.2.1, r81.2.2.2.2.2.1, r81.2.2.2.2.2.2.1, f84, (r81.2.2.2.2.2.2.2.2.1 + 1), r81.2.2.2.2.2.2.2.2.2.1, r81.2.2.2.2.2.2.2.2.2.2.1, r81.2.2.2.2.2.2.2.2.2.2.2.1, r81.2.2.2.2.2.2.2.2.2.2.2.2.1, r81.2.2.2.2.2.2.2.2.2.2.2.2.2)) (pc := 158) F 0 8 7 i_X8 tyX8 tyX8_ok nmX8 rfl (by decide) rfl (mm 1 rfl) rfl dX8_readOrder_158 rfl rfl rfl (Nat.le_of_ble_eq_true rfl) rfl ?_
          obtain rfl := some_of hf
          exact V_vret F rfl dX8_readOrder_161 rfl
    · replace hf := ite_neg hf h46
      refine V_iload_n (pc := 32) F dX8_readOrder_32 rfl 0 rfl ?_
      refine V_bipush (v := 120) (pc := 33) F dX8_readOrder_33 (by decide) ?_
      refine V_icmp_ne (pc := 35) (tgt := 42) F dX8_readOrder_35 (by decide) (fun h86 => ?_) (fun h86 => ?_)
      · replace hf := ite_neg hf h86
        refine V_iconst (v := 0) (pc := 42) F dX8_readOrder_42 (by decide) ?_
        obtain ⟨r87, g88, hf⟩ := bind_of hf
        refine V_V (w2 := wX8 cy a r87) (rest := []) (st2 := []) (pc := 43) F 8 (M_X8_wants l D cy N a (v.1, v.2.1, v.2.2.1, v.2.2.2.1, v.2.2.2.2.1, v.2.2.2.2.2.1, f4, v.2.2.2.2.2.2.2) 0 r87 g88) (cwV 1 F.ts gX8_readOrder_X8_wants rfl rfl rfl hd_X8_wants ⟨Nat.le_of_ble_eq_true rfl, Nat.le_of_ble_eq_true rfl⟩) rfl dX8_readOrder_43 Fit.whole fstX8 rfl rfl (Nat.le_of_ble_eq_true rfl) (Nat.zero_le _) (Nat.zero_le _) rfl rfl rfl ?_
        refine V_iload_n (pc := 46) F dX8_readOrder_46 rfl 0 rfl ?_
        refine V_bipush (v := 112) (pc := 47) F dX8_readOrder_47 (by decide) ?_
        refine V_icmp_ne (pc := 49) (tgt := 100) F dX8_readOrder_49 (by decide) (fun h89 => ?_) (fun h89 => ?_)
        · replace hf := ite_neg hf h89
          refine V_iload_n (pc := 100) F dX8_readOrder_100 rfl 0 rfl ?_
          refine V_bipush (v := 114) (pc := 101) F dX8_readOrder_101 (by decide) ?_
          refine V_icmp_ne (pc := 103) (tgt := 114) F dX8_readOrder_103 (by decide) (fun h90 => ?_) (fun h90 => ?_)
          · replace hf := ite_neg hf h90
            refine V_aload_n (pc := 114) F dX8_readOrder_114 rfl 2 rfl ?_
            refine V_get (pc := 115) F 0 8 6 i_X8 rfl (by decide) rfl (mm 2 rfl) dX8_readOrder_115 rfl rfl ?_
            refine V_iload_n (pc := 118) F dX8_readOrder_118 rfl 1 rfl ?_
            refine V_iconst (v := 1) (pc := 119) F dX8_readOrder_119 (by decide) ?_
            refine V_iadd (pc := 120) F dX8_readOrder_120 ?_
            refine V_aload_n (pc := 121) F dX8_readOrder_121 rfl 2 rfl ?_
            refine V_iconst (v := 0) (pc := 122) F dX8_readOrder_122 (by decide) ?_
            refine V_iconst (v := 4) (pc := 123) F dX8_readOrder_123 (by decide) ?_
            obtain ⟨r91, g92, hf⟩ := bind_of hf
            refine V_V (w2 := wX8 cy a r91.2) (rest := [.int (((4 : Int32) * v.2.2.2.2.2.2.2.1) + 1), .ref (a 4)]) (st2 := [.int r91.1, .int (((4 : Int32) * v.2.2.2.2.2.2.2.1) + 1), .ref (a 4)]) (pc := 124) F 8 (M_X8_digit l D cy N a r87 0 4 r91 g92) (cwV 2 F.ts gX8_readOrder_X8_digit rfl rfl rfl hd_X8_digit ⟨Nat.le_of_ble_eq_true rfl, Nat.le_of_ble_eq_true rfl⟩) rfl dX8_readOrder_124 Fit.whole fstX8 rfl rfl (Nat.le_of_ble_eq_true rfl) (Nat.zero_le _) (Nat.zero_le _) rfl rfl rfl ?_
            obtain ⟨c93, hf⟩ := chk_some hf
            obtain ⟨f94, e95, hf⟩ := nmd_of hf
            refine V_iast (w2 := wX8 cy a (r91.2.1, r91.2.2.1, r91.2.2.2.1, r91.2.2.2.2.1, r91.2.2.2.2.2.1, r91.2.2.2.2.2.2.1, f94, r91.2.2.2.2.2.2.2.2.1, r91.2.2.2.2.2.2.2.2.2.1, r91.2.2.2.2.2.2.2.2.2.2.1, r91.2.2.2.2.2.2.2.2.2.2.2.1, r91.2.2.2.2.2.2.2.2.2.2.2.2.1, r91.2.2.2.2.2.2.2.2.2.2.2.2.2)) (pc := 127) F 4 rfl c93 e95 dX8_readOrder_127 rfl ?_
            refine V_aload_n (pc := 128) F dX8_readOrder_128 rfl 2 rfl ?_
            refine V_get (pc := 129) F 0 8 6 i_X8 rfl (by decide) rfl (mm 2 rfl) dX8_readOrder_129 rfl rfl ?_
            refine V_iload_n (pc := 132) F dX8_readOrder_132 rfl 1 rfl ?_
            refine V_iconst (v := 2) (pc := 133) F dX8_readOrder_133 (by decide) ?_
            refine V_iadd (pc := 134) F dX8_readOrder_134 ?_
            refine V_aload_n (pc := 135) F dX8_readOrder_135 rfl 2 rfl ?_
            refine V_aload_n (pc := 136) F dX8_readOrder_136 rfl 2 rfl ?_
            refine V_get (pc := 137) F 0 8 6 i_X8 rfl (by decide) rfl (mm 2 rfl) dX8_readOrder_137 rfl rfl ?_
            refine V_iload_n (pc := 140) F dX8_readOrder_140 rfl 1 rfl ?_
            refine V_iconst (v := 1) (pc := 141) F dX8_readOrder_141 (by decide) ?_
            refine V_iadd (pc := 142) F dX8_readOrder_142 ?_
            obtain ⟨c96, hf⟩ := chk_some hf
            refine V_iald (pc := 143) F 4 rfl c96 dX8_readOrder_143 ?_
            refine V_iconst (v := 1) (pc := 144) F dX8_readOrder_144 (by decide) ?_
            refine V_iadd (pc := 145) F dX8_readOrder_145 ?_
            refine V_iconst (v := 5) (pc := 146) F dX8_readOrder_146 (by decide) ?_
            obtain ⟨r97, g98, hf⟩ := bind_of hf
            refine V_V (w2 := wX8 cy a r97.2) (rest := [.int (((4 : Int32) * v.2.2.2.2.2.2.2.1) + 2), .ref (a 4)]) (st2 := [.int r97.1, .int (((4 : Int32) * v.2.2.2.2.2.2.2.1) + 2), .ref (a 4)]) (pc := 147) F 8 (M_X8_digit l D cy N a (r91.2.1, r91.2.2.1, r91.2.2.2.1, r91.2.2.2.2.1, r91.2.2.2.2.2.1, r91.2.2.2.2.2.2.1, f94, r91.2.2.2.2.2.2.2.2.1, r91.2.2.2.2.2.2.2.2.2.1, r91.2.2.2.2.2.2.2.2.2.2.1, r91.2.2.2.2.2.2.2.2.2.2.2.1, r91.2.2.2.2.2.2.2.2.2.2.2.2.1, r91.2.2.2.2.2.2.2.2.2.2.2.2.2) ((f94 (((4 : Int32) * v.2.2.2.2.2.2.2.1) + 1).toNatClampNeg) + 1) 5 r97 g98) (cwV 2 F.ts gX8_readOrder_X8_digit rfl rfl rfl hd_X8_digit ⟨Nat.le_of_ble_eq_true rfl, Nat.le_of_ble_eq_true rfl⟩) rfl dX8_readOrder_147 Fit.whole fstX8 rfl rfl (Nat.le_of_ble_eq_true rfl) (Nat.zero_le _) (Nat.zero_le _) rfl rfl rfl ?_
            obtain ⟨c99, hf⟩ := chk_some hf
            obtain ⟨f100, e101, hf⟩ := nmd_of hf
            refine V_iast (w2 := wX8 cy a (r97.2.1, r97.2.2.1, r97.2.2.2.1, r97.2.2.2.2.1, r97.2.2.2.2.2.1, r97.2.2.2.2.2.2.1, f100, r97.2.2.2.2.2.2.2.2.1, r97.2.2.2.2.2.2.2.2.2.1, r97.2.2.2.2.2.2.2.2.2.2.1, r97.2.2.2.2.2.2.2.2.2.2.2.1, r97.2.2.2.2.2.2.2.2.2.2.2.2.1, r97.2.2.2.2.2.2.2.2.2.2.2.2.2)) (pc := 150) F 4 rfl c99 e101 dX8_readOrder_150 rfl ?_
            refine V_aload_n (pc := 151) F dX8_readOrder_151 rfl 2 rfl ?_
            refine V_dup (pc := 152) F dX8_readOrder_152 rfl ?_
            refine V_get (pc := 153) F 0 8 7 i_X8 rfl (by decide) rfl (mm 1 rfl) dX8_readOrder_153 rfl rfl ?_
            refine V_iconst (v := 1) (pc := 156) F dX8_readOrder_156 (by decide) ?_
            refine V_iadd (pc := 157) F dX8_readOrder_157 ?_
            refine V_put (w2 := wX8 cy a (r97.2.1, r97.2.2.1, r97.2.2.2.1, r97.2.2.2.2.1, r97.2.2.2.2.2.1, r97.2.2.2.2.2.2.1, f100, (r97.2.2.2.2.2.2.2.2.1 + 1), r97.2.2.2.2.2.2.2.2.2.1, r97.2.2.2.2.2.2.2.2.2.2.1, r97.2.2.2.2.2.2.2.2.2.2.2.1, r97.2.2.2.2.2.2.2.2.2.2.2.2.1, r97.2.2.2.2.2.2.2.2.2.2.2.2.2)) (pc := 158) F 0 8 7 i_X8 tyX8 tyX8_ok nmX8 rfl (by decide) rfl (mm 1 rfl) rfl dX8_readOrder_158 rfl rfl rfl (Nat.le_of_ble_eq_true rfl) rfl ?_
            obtain rfl := some_of hf
            exact V_vret F rfl dX8_readOrder_161 rfl
          · replace hf := ite_pos hf h90
            refine V_aload_n (pc := 106) F dX8_readOrder_106 rfl 2 rfl ?_
            refine V_iload_n (pc := 107) F dX8_readOrder_107 rfl 1 rfl ?_
            obtain ⟨r102, g103, hf⟩ := bind_of hf
            refine V_V (w2 := wX8 cy a r102) (rest := []) (st2 := []) (pc := 108) F 8 (M_X8_readRule l D cy N a r87 ((4 : Int32) * v.2.2.2.2.2.2.2.1) r102 g103) (cwV 1 F.ts gX8_readOrder_X8_readRule rfl rfl rfl hd_X8_readRule ⟨Nat.le_of_ble_eq_true rfl, Nat.le_of_ble_eq_true rfl⟩) rfl dX8_readOrder_108 Fit.whole fstX8 rfl rfl (Nat.le_of_ble_eq_true rfl) (Nat.zero_le _) (Nat.zero_le _) rfl rfl rfl ?_
            refine V_goto (pc := 111) (tgt := 151) F dX8_readOrder_111 (by decide) ?_
            refine V_aload_n (pc := 151) F dX8_readOrder_151 rfl 2 rfl ?_
            refine V_dup (pc := 152) F dX8_readOrder_152 rfl ?_
            refine V_get (pc := 153) F 0 8 7 i_X8 rfl (by decide) rfl (mm 1 rfl) dX8_readOrder_153 rfl rfl ?_
            refine V_iconst (v := 1) (pc := 156) F dX8_readOrder_156 (by decide) ?_
            refine V_iadd (pc := 157) F dX8_readOrder_157 ?_
            refine V_put (w2 := wX8 cy a (r102.1, r102.2.1, r102.2.2.1, r102.2.2.2.1, r102.2.2.2.2.1, r102.2.2.2.2.2.1, r102.2.2.2.2.2.2.1, (r102.2.2.2.2.2.2.2.1 + 1), r102.2.2.2.2.2.2.2.2)) (pc := 158) F 0 8 7 i_X8 tyX8 tyX8_ok nmX8 rfl (by decide) rfl (mm 1 rfl) rfl dX8_readOrder_158 rfl rfl rfl (Nat.le_of_ble_eq_true rfl) rfl ?_
            obtain rfl := some_of hf
            exact V_vret F rfl dX8_readOrder_161 rfl
        · replace hf := ite_pos hf h89
          refine V_aload_n (pc := 52) F dX8_readOrder_52 rfl 2 rfl ?_
          refine V_get (pc := 53) F 0 8 6 i_X8 rfl (by decide) rfl (mm 2 rfl) dX8_readOrder_53 rfl rfl ?_
          refine V_iload_n (pc := 56) F dX8_readOrder_56 rfl 1 rfl ?_
          refine V_iconst (v := 1) (pc := 57) F dX8_readOrder_57 (by decide) ?_
          refine V_iadd (pc := 58) F dX8_readOrder_58 ?_
          refine V_aload_n (pc := 59) F dX8_readOrder_59 rfl 2 rfl ?_
          obtain ⟨r104, g105, hf⟩ := bind_of hf
          refine V_V (w2 := wX8 cy a r104.2) (rest := [.int (((4 : Int32) * v.2.2.2.2.2.2.2.1) + 1), .ref (a 4)]) (st2 := [.int r104.1, .int (((4 : Int32) * v.2.2.2.2.2.2.2.1) + 1), .ref (a 4)]) (pc := 60) F 8 (M_X8_directions l D cy N a r87 r104 g105) (cwV 0 F.ts gX8_readOrder_X8_directions rfl rfl rfl hd_X8_directions ⟨Nat.le_of_ble_eq_true rfl, Nat.le_of_ble_eq_true rfl⟩) rfl dX8_readOrder_60 Fit.whole fstX8 rfl rfl (Nat.le_of_ble_eq_true rfl) (Nat.zero_le _) (Nat.zero_le _) rfl rfl rfl ?_
          obtain ⟨c106, hf⟩ := chk_some hf
          obtain ⟨f107, e108, hf⟩ := nmd_of hf
          refine V_iast (w2 := wX8 cy a (r104.2.1, r104.2.2.1, r104.2.2.2.1, r104.2.2.2.2.1, r104.2.2.2.2.2.1, r104.2.2.2.2.2.2.1, f107, r104.2.2.2.2.2.2.2.2.1, r104.2.2.2.2.2.2.2.2.2.1, r104.2.2.2.2.2.2.2.2.2.2.1, r104.2.2.2.2.2.2.2.2.2.2.2.1, r104.2.2.2.2.2.2.2.2.2.2.2.2.1, r104.2.2.2.2.2.2.2.2.2.2.2.2.2)) (pc := 63) F 4 rfl c106 e108 dX8_readOrder_63 rfl ?_
          refine V_aload_n (pc := 64) F dX8_readOrder_64 rfl 2 rfl ?_
          refine V_aload_n (pc := 65) F dX8_readOrder_65 rfl 2 rfl ?_
          obtain ⟨r109, g110, hf⟩ := bind_of hf
          refine V_V (w2 := wX8 cy a (r104.2.1, r104.2.2.1, r104.2.2.2.1, r104.2.2.2.2.1, r104.2.2.2.2.2.1, r104.2.2.2.2.2.2.1, f107, r104.2.2.2.2.2.2.2.2.1, r104.2.2.2.2.2.2.2.2.2.1, r104.2.2.2.2.2.2.2.2.2.2.1, r104.2.2.2.2.2.2.2.2.2.2.2.1, r104.2.2.2.2.2.2.2.2.2.2.2.2.1, r104.2.2.2.2.2.2.2.2.2.2.2.2.2)) (rest := [.ref (a 0)]) (st2 := [.int r109, .ref (a 0)]) (pc := 66) F 8 (M_X8_letter l D cy N a (r104.2.1, r104.2.2.1, r104.2.2.2.1, r104.2.2.2.2.1, r104.2.2.2.2.2.1, r104.2.2.2.2.2.2.1, f107, r104.2.2.2.2.2.2.2.2.1, r104.2.2.2.2.2.2.2.2.2.1, r104.2.2.2.2.2.2.2.2.2.2.1, r104.2.2.2.2.2.2.2.2.2.2.2.1, r104.2.2.2.2.2.2.2.2.2.2.2.2.1, r104.2.2.2.2.2.2.2.2.2.2.2.2.2) r109 g110) (cwV 0 F.ts gX8_readOrder_X8_letter rfl rfl rfl hd_X8_letter ⟨Nat.le_of_ble_eq_true rfl, Nat.le_of_ble_eq_true rfl⟩) rfl dX8_readOrder_66 Fit.whole rfl rfl rfl (Nat.le_of_ble_eq_true rfl) (Nat.zero_le _) (Nat.zero_le _) rfl rfl rfl ?_
          refine V_bipush (v := 42) (pc := 69) F dX8_readOrder_69 (by decide) ?_
          refine V_icmp_ne (pc := 71) (tgt := 78) F dX8_readOrder_71 (by decide) (fun h111 => ?_) (fun h111 => ?_)
          · replace hf := ite_neg hf h111
            refine V_iconst (v := 0) (pc := 78) F dX8_readOrder_78 (by decide) ?_
            obtain ⟨r112, g113, hf⟩ := bind_of hf
            refine V_V (w2 := wX8 cy a r112) (rest := []) (st2 := []) (pc := 79) F 8 (M_X8_wants l D cy N a (r104.2.1, r104.2.2.1, r104.2.2.2.1, r104.2.2.2.2.1, r104.2.2.2.2.2.1, r104.2.2.2.2.2.2.1, f107, r104.2.2.2.2.2.2.2.2.1, r104.2.2.2.2.2.2.2.2.2.1, r104.2.2.2.2.2.2.2.2.2.2.1, r104.2.2.2.2.2.2.2.2.2.2.2.1, r104.2.2.2.2.2.2.2.2.2.2.2.2.1, r104.2.2.2.2.2.2.2.2.2.2.2.2.2) 0 r112 g113) (cwV 1 F.ts gX8_readOrder_X8_wants rfl rfl rfl hd_X8_wants ⟨Nat.le_of_ble_eq_true rfl, Nat.le_of_ble_eq_true rfl⟩) rfl dX8_readOrder_79 Fit.whole fstX8 rfl rfl (Nat.le_of_ble_eq_true rfl) (Nat.zero_le _) (Nat.zero_le _) rfl rfl rfl ?_
            refine V_aload_n (pc := 82) F dX8_readOrder_82 rfl 2 rfl ?_
            refine V_get (pc := 83) F 0 8 6 i_X8 rfl (by decide) rfl (mm 2 rfl) dX8_readOrder_83 rfl rfl ?_
            refine V_iload_n (pc := 86) F dX8_readOrder_86 rfl 1 rfl ?_
            refine V_iconst (v := 2) (pc := 87) F dX8_readOrder_87 (by decide) ?_
            refine V_iadd (pc := 88) F dX8_readOrder_88 ?_
            refine V_aload_n (pc := 89) F dX8_readOrder_89 rfl 2 rfl ?_
            refine V_iconst (v := 1) (pc := 90) F dX8_readOrder_90 (by decide) ?_
            refine V_bipush (v := 9) (pc := 91) F dX8_readOrder_91 (by decide) ?_
            obtain ⟨r114, g115, hf⟩ := bind_of hf
            refine V_V (w2 := wX8 cy a r114.2) (rest := [.int (((4 : Int32) * v.2.2.2.2.2.2.2.1) + 2), .ref (a 4)]) (st2 := [.int r114.1, .int (((4 : Int32) * v.2.2.2.2.2.2.2.1) + 2), .ref (a 4)]) (pc := 93) F 8 (M_X8_digit l D cy N a r112 1 9 r114 g115) (cwV 2 F.ts gX8_readOrder_X8_digit rfl rfl rfl hd_X8_digit ⟨Nat.le_of_ble_eq_true rfl, Nat.le_of_ble_eq_true rfl⟩) rfl dX8_readOrder_93 Fit.whole fstX8 rfl rfl (Nat.le_of_ble_eq_true rfl) (Nat.zero_le _) (Nat.zero_le _) rfl rfl rfl ?_
            obtain ⟨c116, hf⟩ := chk_some hf
            obtain ⟨f117, e118, hf⟩ := nmd_of hf
            refine V_iast (w2 := wX8 cy a (r114.2.1, r114.2.2.1, r114.2.2.2.1, r114.2.2.2.2.1, r114.2.2.2.2.2.1, r114.2.2.2.2.2.2.1, f117, r114.2.2.2.2.2.2.2.2.1, r114.2.2.2.2.2.2.2.2.2.1, r114.2.2.2.2.2.2.2.2.2.2.1, r114.2.2.2.2.2.2.2.2.2.2.2.1, r114.2.2.2.2.2.2.2.2.2.2.2.2.1, r114.2.2.2.2.2.2.2.2.2.2.2.2.2)) (pc := 96) F 4 rfl c116 e118 dX8_readOrder_96 rfl ?_
            refine V_goto (pc := 97) (tgt := 151) F dX8_readOrder_97 (by decide) ?_
            refine V_aload_n (pc := 151) F dX8_readOrder_151 rfl 2 rfl ?_
            refine V_dup (pc := 152) F dX8_readOrder_152 rfl ?_
            refine V_get (pc := 153) F 0 8 7 i_X8 rfl (by decide) rfl (mm 1 rfl) dX8_readOrder_153 rfl rfl ?_
            refine V_iconst (v := 1) (pc := 156) F dX8_readOrder_156 (by decide) ?_
            refine V_iadd (pc := 157) F dX8_readOrder_157 ?_
            refine V_put (w2 := wX8 cy a (r114.2.1, r114.2.2.1, r114.2.2.2.1, r114.2.2.2.2.1, r114.2.2.2.2.2.1, r114.2.2.2.2.2.2.1, f117, (r114.2.2.2.2.2.2.2.2.1 + 1), r114.2.2.2.2.2.2.2.2.2.1, r114.2.2.2.2.2.2.2.2.2.2.1, r114.2.2.2.2.2.2.2.2.2.2.2.1, r114.2.2.2.2.2.2.2.2.2.2.2.2.1, r114.2.2.2.2.2.2.2.2.2.2.2.2.2)) (pc := 158) F 0 8 7 i_X8 tyX8 tyX8_ok nmX8 rfl (by decide) rfl (mm 1 rfl) rfl dX8_readOrder_158 rfl rfl rfl (Nat.le_of_ble_eq_true rfl) rfl ?_
            obtain rfl := some_of hf
            exact V_vret F rfl dX8_readOrder_161 rfl
          · replace hf := ite_pos hf h111
            refine V_iconst (v := 1) (pc := 74) F dX8_readOrder_74 (by decide) ?_
            refine V_goto (pc := 75) (tgt := 79) F dX8_readOrder_75 (by decide) ?_
            obtain ⟨r119, g120, hf⟩ := bind_of hf
            refine V_V (w2 := wX8 cy a r119) (rest := []) (st2 := []) (pc := 79) F 8 (M_X8_wants l D cy N a (r104.2.1, r104.2.2.1, r104.2.2.2.1, r104.2.2.2.2.1, r104.2.2.2.2.2.1, r104.2.2.2.2.2.2.1, f107, r104.2.2.2.2.2.2.2.2.1, r104.2.2.2.2.2.2.2.2.2.1, r104.2.2.2.2.2.2.2.2.2.2.1, r104.2.2.2.2.2.2.2.2.2.2.2.1, r104.2.2.2.2.2.2.2.2.2.2.2.2.1, r104.2.2.2.2.2.2.2.2.2.2.2.2.2) 1 r119 g120) (cwV 1 F.ts gX8_readOrder_X8_wants rfl rfl rfl hd_X8_wants ⟨Nat.le_of_ble_eq_true rfl, Nat.le_of_ble_eq_true rfl⟩) rfl dX8_readOrder_79 Fit.whole fstX8 rfl rfl (Nat.le_of_ble_eq_true rfl) (Nat.zero_le _) (Nat.zero_le _) rfl rfl rfl ?_
            refine V_aload_n (pc := 82) F dX8_readOrder_82 rfl 2 rfl ?_
            refine V_get (pc := 83) F 0 8 6 i_X8 rfl (by decide) rfl (mm 2 rfl) dX8_readOrder_83 rfl rfl ?_
            refine V_iload_n (pc := 86) F dX8_readOrder_86 rfl 1 rfl ?_
            refine V_iconst (v := 2) (pc := 87) F dX8_readOrder_87 (by decide) ?_
            refine V_iadd (pc := 88) F dX8_readOrder_88 ?_
            refine V_aload_n (pc := 89) F dX8_readOrder_89 rfl 2 rfl ?_
            refine V_iconst (v := 1) (pc := 90) F dX8_readOrder_90 (by decide) ?_
            refine V_bipush (v := 9) (pc := 91) F dX8_readOrder_91 (by decide) ?_
            obtain ⟨r121, g122, hf⟩ := bind_of hf
            refine V_V (w2 := wX8 cy a r121.2) (rest := [.int (((4 : Int32) * v.2.2.2.2.2.2.2.1) + 2), .ref (a 4)]) (st2 := [.int r121.1, .int (((4 : Int32) * v.2.2.2.2.2.2.2.1) + 2), .ref (a 4)]) (pc := 93) F 8 (M_X8_digit l D cy N a r119 1 9 r121 g122) (cwV 2 F.ts gX8_readOrder_X8_digit rfl rfl rfl hd_X8_digit ⟨Nat.le_of_ble_eq_true rfl, Nat.le_of_ble_eq_true rfl⟩) rfl dX8_readOrder_93 Fit.whole fstX8 rfl rfl (Nat.le_of_ble_eq_true rfl) (Nat.zero_le _) (Nat.zero_le _) rfl rfl rfl ?_
            obtain ⟨c123, hf⟩ := chk_some hf
            obtain ⟨f124, e125, hf⟩ := nmd_of hf
            refine V_iast (w2 := wX8 cy a (r121.2.1, r121.2.2.1, r121.2.2.2.1, r121.2.2.2.2.1, r121.2.2.2.2.2.1, r121.2.2.2.2.2.2.1, f124, r121.2.2.2.2.2.2.2.2.1, r121.2.2.2.2.2.2.2.2.2.1, r121.2.2.2.2.2.2.2.2.2.2.1, r121.2.2.2.2.2.2.2.2.2.2.2.1, r121.2.2.2.2.2.2.2.2.2.2.2.2.1, r121.2.2.2.2.2.2.2.2.2.2.2.2.2)) (pc := 96) F 4 rfl c123 e125 dX8_readOrder_96 rfl ?_
            refine V_goto (pc := 97) (tgt := 151) F dX8_readOrder_97 (by decide) ?_
            refine V_aload_n (pc := 151) F dX8_readOrder_151 rfl 2 rfl ?_
            refine V_dup (pc := 152) F dX8_readOrder_152 rfl ?_
            refine V_get (pc := 153) F 0 8 7 i_X8 rfl (by decide) rfl (mm 1 rfl) dX8_readOrder_153 rfl rfl ?_
            refine V_iconst (v := 1) (pc := 156) F dX8_readOrder_156 (by decide) ?_
            refine V_iadd (pc := 157) F dX8_readOrder_157 ?_
            refine V_put (w2 := wX8 cy a (r121.2.1, r121.2.2.1, r121.2.2.2.1, r121.2.2.2.2.1, r121.2.2.2.2.2.1, r121.2.2.2.2.2.2.1, f124, (r121.2.2.2.2.2.2.2.2.1 + 1), r121.2.2.2.2.2.2.2.2.2.1, r121.2.2.2.2.2.2.2.2.2.2.1, r121.2.2.2.2.2.2.2.2.2.2.2.1, r121.2.2.2.2.2.2.2.2.2.2.2.2.1, r121.2.2.2.2.2.2.2.2.2.2.2.2.2)) (pc := 158) F 0 8 7 i_X8 tyX8 tyX8_ok nmX8 rfl (by decide) rfl (mm 1 rfl) rfl dX8_readOrder_158 rfl rfl rfl (Nat.le_of_ble_eq_true rfl) rfl ?_
            obtain rfl := some_of hf
            exact V_vret F rfl dX8_readOrder_161 rfl
      · replace hf := ite_pos hf h86
        refine V_iconst (v := 1) (pc := 38) F dX8_readOrder_38 (by decide) ?_
        refine V_goto (pc := 39) (tgt := 43) F dX8_readOrder_39 (by decide) ?_
        obtain ⟨r126, g127, hf⟩ := bind_of hf
        refine V_V (w2 := wX8 cy a r126) (rest := []) (st2 := []) (pc := 43) F 8 (M_X8_wants l D cy N a (v.1, v.2.1, v.2.2.1, v.2.2.2.1, v.2.2.2.2.1, v.2.2.2.2.2.1, f4, v.2.2.2.2.2.2.2) 1 r126 g127) (cwV 1 F.ts gX8_readOrder_X8_wants rfl rfl rfl hd_X8_wants ⟨Nat.le_of_ble_eq_true rfl, Nat.le_of_ble_eq_true rfl⟩) rfl dX8_readOrder_43 Fit.whole fstX8 rfl rfl (Nat.le_of_ble_eq_true rfl) (Nat.zero_le _) (Nat.zero_le _) rfl rfl rfl ?_
        refine V_iload_n (pc := 46) F dX8_readOrder_46 rfl 0 rfl ?_
        refine V_bipush (v := 112) (pc := 47) F dX8_readOrder_47 (by decide) ?_
        refine V_icmp_ne (pc := 49) (tgt := 100) F dX8_readOrder_49 (by decide) (fun h128 => ?_) (fun h128 => ?_)
        · replace hf := ite_neg hf h128
          refine V_iload_n (pc := 100) F dX8_readOrder_100 rfl 0 rfl ?_
          refine V_bipush (v := 114) (pc := 101) F dX8_readOrder_101 (by decide) ?_
          refine V_icmp_ne (pc := 103) (tgt := 114) F dX8_readOrder_103 (by decide) (fun h129 => ?_) (fun h129 => ?_)
          · replace hf := ite_neg hf h129
            refine V_aload_n (pc := 114) F dX8_readOrder_114 rfl 2 rfl ?_
            refine V_get (pc := 115) F 0 8 6 i_X8 rfl (by decide) rfl (mm 2 rfl) dX8_readOrder_115 rfl rfl ?_
            refine V_iload_n (pc := 118) F dX8_readOrder_118 rfl 1 rfl ?_
            refine V_iconst (v := 1) (pc := 119) F dX8_readOrder_119 (by decide) ?_
            refine V_iadd (pc := 120) F dX8_readOrder_120 ?_
            refine V_aload_n (pc := 121) F dX8_readOrder_121 rfl 2 rfl ?_
            refine V_iconst (v := 0) (pc := 122) F dX8_readOrder_122 (by decide) ?_
            refine V_iconst (v := 4) (pc := 123) F dX8_readOrder_123 (by decide) ?_
            obtain ⟨r130, g131, hf⟩ := bind_of hf
            refine V_V (w2 := wX8 cy a r130.2) (rest := [.int (((4 : Int32) * v.2.2.2.2.2.2.2.1) + 1), .ref (a 4)]) (st2 := [.int r130.1, .int (((4 : Int32) * v.2.2.2.2.2.2.2.1) + 1), .ref (a 4)]) (pc := 124) F 8 (M_X8_digit l D cy N a r126 0 4 r130 g131) (cwV 2 F.ts gX8_readOrder_X8_digit rfl rfl rfl hd_X8_digit ⟨Nat.le_of_ble_eq_true rfl, Nat.le_of_ble_eq_true rfl⟩) rfl dX8_readOrder_124 Fit.whole fstX8 rfl rfl (Nat.le_of_ble_eq_true rfl) (Nat.zero_le _) (Nat.zero_le _) rfl rfl rfl ?_
            obtain ⟨c132, hf⟩ := chk_some hf
            obtain ⟨f133, e134, hf⟩ := nmd_of hf
            refine V_iast (w2 := wX8 cy a (r130.2.1, r130.2.2.1, r130.2.2.2.1, r130.2.2.2.2.1, r130.2.2.2.2.2.1, r130.2.2.2.2.2.2.1, f133, r130.2.2.2.2.2.2.2.2.1, r130.2.2.2.2.2.2.2.2.2.1, r130.2.2.2.2.2.2.2.2.2.2.1, r130.2.2.2.2.2.2.2.2.2.2.2.1, r130.2.2.2.2.2.2.2.2.2.2.2.2.1, r130.2.2.2.2.2.2.2.2.2.2.2.2.2)) (pc := 127) F 4 rfl c132 e134 dX8_readOrder_127 rfl ?_
            refine V_aload_n (pc := 128) F dX8_readOrder_128 rfl 2 rfl ?_
            refine V_get (pc := 129) F 0 8 6 i_X8 rfl (by decide) rfl (mm 2 rfl) dX8_readOrder_129 rfl rfl ?_
            refine V_iload_n (pc := 132) F dX8_readOrder_132 rfl 1 rfl ?_
            refine V_iconst (v := 2) (pc := 133) F dX8_readOrder_133 (by decide) ?_
            refine V_iadd (pc := 134) F dX8_readOrder_134 ?_
            refine V_aload_n (pc := 135) F dX8_readOrder_135 rfl 2 rfl ?_
            refine V_aload_n (pc := 136) F dX8_readOrder_136 rfl 2 rfl ?_
            refine V_get (pc := 137) F 0 8 6 i_X8 rfl (by decide) rfl (mm 2 rfl) dX8_readOrder_137 rfl rfl ?_
            refine V_iload_n (pc := 140) F dX8_readOrder_140 rfl 1 rfl ?_
            refine V_iconst (v := 1) (pc := 141) F dX8_readOrder_141 (by decide) ?_
            refine V_iadd (pc := 142) F dX8_readOrder_142 ?_
            obtain ⟨c135, hf⟩ := chk_some hf
            refine V_iald (pc := 143) F 4 rfl c135 dX8_readOrder_143 ?_
            refine V_iconst (v := 1) (pc := 144) F dX8_readOrder_144 (by decide) ?_
            refine V_iadd (pc := 145) F dX8_readOrder_145 ?_
            refine V_iconst (v := 5) (pc := 146) F dX8_readOrder_146 (by decide) ?_
            obtain ⟨r136, g137, hf⟩ := bind_of hf
            refine V_V (w2 := wX8 cy a r136.2) (rest := [.int (((4 : Int32) * v.2.2.2.2.2.2.2.1) + 2), .ref (a 4)]) (st2 := [.int r136.1, .int (((4 : Int32) * v.2.2.2.2.2.2.2.1) + 2), .ref (a 4)]) (pc := 147) F 8 (M_X8_digit l D cy N a (r130.2.1, r130.2.2.1, r130.2.2.2.1, r130.2.2.2.2.1, r130.2.2.2.2.2.1, r130.2.2.2.2.2.2.1, f133, r130.2.2.2.2.2.2.2.2.1, r130.2.2.2.2.2.2.2.2.2.1, r130.2.2.2.2.2.2.2.2.2.2.1, r130.2.2.2.2.2.2.2.2.2.2.2.1, r130.2.2.2.2.2.2.2.2.2.2.2.2.1, r130.2.2.2.2.2.2.2.2.2.2.2.2.2) ((f133 (((4 : Int32) * v.2.2.2.2.2.2.2.1) + 1).toNatClampNeg) + 1) 5 r136 g137) (cwV 2 F.ts gX8_readOrder_X8_digit rfl rfl rfl hd_X8_digit ⟨Nat.le_of_ble_eq_true rfl, Nat.le_of_ble_eq_true rfl⟩) rfl dX8_readOrder_147 Fit.whole fstX8 rfl rfl (Nat.le_of_ble_eq_true rfl) (Nat.zero_le _) (Nat.zero_le _) rfl rfl rfl ?_
            obtain ⟨c138, hf⟩ := chk_some hf
            obtain ⟨f139, e140, hf⟩ := nmd_of hf
            refine V_iast (w2 := wX8 cy a (r136.2.1, r136.2.2.1, r136.2.2.2.1, r136.2.2.2.2.1, r136.2.2.2.2.2.1, r136.2.2.2.2.2.2.1, f139, r136.2.2.2.2.2.2.2.2.1, r136.2.2.2.2.2.2.2.2.2.1, r136.2.2.2.2.2.2.2.2.2.2.1, r136.2.2.2.2.2.2.2.2.2.2.2.1, r136.2.2.2.2.2.2.2.2.2.2.2.2.1, r136.2.2.2.2.2.2.2.2.2.2.2.2.2)) (pc := 150) F 4 rfl c138 e140 dX8_readOrder_150 rfl ?_
            refine V_aload_n (pc := 151) F dX8_readOrder_151 rfl 2 rfl ?_
            refine V_dup (pc := 152) F dX8_readOrder_152 rfl ?_
            refine V_get (pc := 153) F 0 8 7 i_X8 rfl (by decide) rfl (mm 1 rfl) dX8_readOrder_153 rfl rfl ?_
            refine V_iconst (v := 1) (pc := 156) F dX8_readOrder_156 (by decide) ?_
            refine V_iadd (pc := 157) F dX8_readOrder_157 ?_
            refine V_put (w2 := wX8 cy a (r136.2.1, r136.2.2.1, r136.2.2.2.1, r136.2.2.2.2.1, r136.2.2.2.2.2.1, r136.2.2.2.2.2.2.1, f139, (r136.2.2.2.2.2.2.2.2.1 + 1), r136.2.2.2.2.2.2.2.2.2.1, r136.2.2.2.2.2.2.2.2.2.2.1, r136.2.2.2.2.2.2.2.2.2.2.2.1, r136.2.2.2.2.2.2.2.2.2.2.2.2.1, r136.2.2.2.2.2.2.2.2.2.2.2.2.2)) (pc := 158) F 0 8 7 i_X8 tyX8 tyX8_ok nmX8 rfl (by decide) rfl (mm 1 rfl) rfl dX8_readOrder_158 rfl rfl rfl (Nat.le_of_ble_eq_true rfl) rfl ?_
            obtain rfl := some_of hf
            exact V_vret F rfl dX8_readOrder_161 rfl
          · replace hf := ite_pos hf h129
            refine V_aload_n (pc := 106) F dX8_readOrder_106 rfl 2 rfl ?_
            refine V_iload_n (pc := 107) F dX8_readOrder_107 rfl 1 rfl ?_
            obtain ⟨r141, g142, hf⟩ := bind_of hf
            refine V_V (w2 := wX8 cy a r141) (rest := []) (st2 := []) (pc := 108) F 8 (M_X8_readRule l D cy N a r126 ((4 : Int32) * v.2.2.2.2.2.2.2.1) r141 g142) (cwV 1 F.ts gX8_readOrder_X8_readRule rfl rfl rfl hd_X8_readRule ⟨Nat.le_of_ble_eq_true rfl, Nat.le_of_ble_eq_true rfl⟩) rfl dX8_readOrder_108 Fit.whole fstX8 rfl rfl (Nat.le_of_ble_eq_true rfl) (Nat.zero_le _) (Nat.zero_le _) rfl rfl rfl ?_
            refine V_goto (pc := 111) (tgt := 151) F dX8_readOrder_111 (by decide) ?_
            refine V_aload_n (pc := 151) F dX8_readOrder_151 rfl 2 rfl ?_
            refine V_dup (pc := 152) F dX8_readOrder_152 rfl ?_
            refine V_get (pc := 153) F 0 8 7 i_X8 rfl (by decide) rfl (mm 1 rfl) dX8_readOrder_153 rfl rfl ?_
            refine V_iconst (v := 1) (pc := 156) F dX8_readOrder_156 (by decide) ?_
            refine V_iadd (pc := 157) F dX8_readOrder_157 ?_
            refine V_put (w2 := wX8 cy a (r141.1, r141.2.1, r141.2.2.1, r141.2.2.2.1, r141.2.2.2.2.1, r141.2.2.2.2.2.1, r141.2.2.2.2.2.2.1, (r141.2.2.2.2.2.2.2.1 + 1), r141.2.2.2.2.2.2.2.2)) (pc := 158) F 0 8 7 i_X8 tyX8 tyX8_ok nmX8 rfl (by decide) rfl (mm 1 rfl) rfl dX8_readOrder_158 rfl rfl rfl (Nat.le_of_ble_eq_true rfl) rfl ?_
            obtain rfl := some_of hf
            exact V_vret F rfl dX8_readOrder_161 rfl
        · replace hf := ite_pos hf h128
          refine V_aload_n (pc := 52) F dX8_readOrder_52 rfl 2 rfl ?_
          refine V_get (pc := 53) F 0 8 6 i_X8 rfl (by decide) rfl (mm 2 rfl) dX8_readOrder_53 rfl rfl ?_
          refine V_iload_n (pc := 56) F dX8_readOrder_56 rfl 1 rfl ?_
          refine V_iconst (v := 1) (pc := 57) F dX8_readOrder_57 (by decide) ?_
          refine V_iadd (pc := 58) F dX8_readOrder_58 ?_
          refine V_aload_n (pc := 59) F dX8_readOrder_59 rfl 2 rfl ?_
          obtain ⟨r143, g144, hf⟩ := bind_of hf
          refine V_V (w2 := wX8 cy a r143.2) (rest := [.int (((4 : Int32) * v.2.2.2.2.2.2.2.1) + 1), .ref (a 4)]) (st2 := [.int r143.1, .int (((4 : Int32) * v.2.2.2.2.2.2.2.1) + 1), .ref (a 4)]) (pc := 60) F 8 (M_X8_directions l D cy N a r126 r143 g144) (cwV 0 F.ts gX8_readOrder_X8_directions rfl rfl rfl hd_X8_directions ⟨Nat.le_of_ble_eq_true rfl, Nat.le_of_ble_eq_true rfl⟩) rfl dX8_readOrder_60 Fit.whole fstX8 rfl rfl (Nat.le_of_ble_eq_true rfl) (Nat.zero_le _) (Nat.zero_le _) rfl rfl rfl ?_
          obtain ⟨c145, hf⟩ := chk_some hf
          obtain ⟨f146, e147, hf⟩ := nmd_of hf
          refine V_iast (w2 := wX8 cy a (r143.2.1, r143.2.2.1, r143.2.2.2.1, r143.2.2.2.2.1, r143.2.2.2.2.2.1, r143.2.2.2.2.2.2.1, f146, r143.2.2.2.2.2.2.2.2.1, r143.2.2.2.2.2.2.2.2.2.1, r143.2.2.2.2.2.2.2.2.2.2.1, r143.2.2.2.2.2.2.2.2.2.2.2.1, r143.2.2.2.2.2.2.2.2.2.2.2.2.1, r143.2.2.2.2.2.2.2.2.2.2.2.2.2)) (pc := 63) F 4 rfl c145 e147 dX8_readOrder_63 rfl ?_
          refine V_aload_n (pc := 64) F dX8_readOrder_64 rfl 2 rfl ?_
          refine V_aload_n (pc := 65) F dX8_readOrder_65 rfl 2 rfl ?_
          obtain ⟨r148, g149, hf⟩ := bind_of hf
          refine V_V (w2 := wX8 cy a (r143.2.1, r143.2.2.1, r143.2.2.2.1, r143.2.2.2.2.1, r143.2.2.2.2.2.1, r143.2.2.2.2.2.2.1, f146, r143.2.2.2.2.2.2.2.2.1, r143.2.2.2.2.2.2.2.2.2.1, r143.2.2.2.2.2.2.2.2.2.2.1, r143.2.2.2.2.2.2.2.2.2.2.2.1, r143.2.2.2.2.2.2.2.2.2.2.2.2.1, r143.2.2.2.2.2.2.2.2.2.2.2.2.2)) (rest := [.ref (a 0)]) (st2 := [.int r148, .ref (a 0)]) (pc := 66) F 8 (M_X8_letter l D cy N a (r143.2.1, r143.2.2.1, r143.2.2.2.1, r143.2.2.2.2.1, r143.2.2.2.2.2.1, r143.2.2.2.2.2.2.1, f146, r143.2.2.2.2.2.2.2.2.1, r143.2.2.2.2.2.2.2.2.2.1, r143.2.2.2.2.2.2.2.2.2.2.1, r143.2.2.2.2.2.2.2.2.2.2.2.1, r143.2.2.2.2.2.2.2.2.2.2.2.2.1, r143.2.2.2.2.2.2.2.2.2.2.2.2.2) r148 g149) (cwV 0 F.ts gX8_readOrder_X8_letter rfl rfl rfl hd_X8_letter ⟨Nat.le_of_ble_eq_true rfl, Nat.le_of_ble_eq_true rfl⟩) rfl dX8_readOrder_66 Fit.whole rfl rfl rfl (Nat.le_of_ble_eq_true rfl) (Nat.zero_le _) (Nat.zero_le _) rfl rfl rfl ?_
          refine V_bipush (v := 42) (pc := 69) F dX8_readOrder_69 (by decide) ?_
          refine V_icmp_ne (pc := 71) (tgt := 78) F dX8_readOrder_71 (by decide) (fun h150 => ?_) (fun h150 => ?_)
          · replace hf := ite_neg hf h150
            refine V_iconst (v := 0) (pc := 78) F dX8_readOrder_78 (by decide) ?_
            obtain ⟨r151, g152, hf⟩ := bind_of hf
            refine V_V (w2 := wX8 cy a r151) (rest := []) (st2 := []) (pc := 79) F 8 (M_X8_wants l D cy N a (r143.2.1, r143.2.2.1, r143.2.2.2.1, r143.2.2.2.2.1, r143.2.2.2.2.2.1, r143.2.2.2.2.2.2.1, f146, r143.2.2.2.2.2.2.2.2.1, r143.2.2.2.2.2.2.2.2.2.1, r143.2.2.2.2.2.2.2.2.2.2.1, r143.2.2.2.2.2.2.2.2.2.2.2.1, r143.2.2.2.2.2.2.2.2.2.2.2.2.1, r143.2.2.2.2.2.2.2.2.2.2.2.2.2) 0 r151 g152) (cwV 1 F.ts gX8_readOrder_X8_wants rfl rfl rfl hd_X8_wants ⟨Nat.le_of_ble_eq_true rfl, Nat.le_of_ble_eq_true rfl⟩) rfl dX8_readOrder_79 Fit.whole fstX8 rfl rfl (Nat.le_of_ble_eq_true rfl) (Nat.zero_le _) (Nat.zero_le _) rfl rfl rfl ?_
            refine V_aload_n (pc := 82) F dX8_readOrder_82 rfl 2 rfl ?_
            refine V_get (pc := 83) F 0 8 6 i_X8 rfl (by decide) rfl (mm 2 rfl) dX8_readOrder_83 rfl rfl ?_
            refine V_iload_n (pc := 86) F dX8_readOrder_86 rfl 1 rfl ?_
            refine V_iconst (v := 2) (pc := 87) F dX8_readOrder_87 (by decide) ?_
            refine V_iadd (pc := 88) F dX8_readOrder_88 ?_
            refine V_aload_n (pc := 89) F dX8_readOrder_89 rfl 2 rfl ?_
            refine V_iconst (v := 1) (pc := 90) F dX8_readOrder_90 (by decide) ?_
            refine V_bipush (v := 9) (pc := 91) F dX8_readOrder_91 (by decide) ?_
            obtain ⟨r153, g154, hf⟩ := bind_of hf
            refine V_V (w2 := wX8 cy a r153.2) (rest := [.int (((4 : Int32) * v.2.2.2.2.2.2.2.1) + 2), .ref (a 4)]) (st2 := [.int r153.1, .int (((4 : Int32) * v.2.2.2.2.2.2.2.1) + 2), .ref (a 4)]) (pc := 93) F 8 (M_X8_digit l D cy N a r151 1 9 r153 g154) (cwV 2 F.ts gX8_readOrder_X8_digit rfl rfl rfl hd_X8_digit ⟨Nat.le_of_ble_eq_true rfl, Nat.le_of_ble_eq_true rfl⟩) rfl dX8_readOrder_93 Fit.whole fstX8 rfl rfl (Nat.le_of_ble_eq_true rfl) (Nat.zero_le _) (Nat.zero_le _) rfl rfl rfl ?_
            obtain ⟨c155, hf⟩ := chk_some hf
            obtain ⟨f156, e157, hf⟩ := nmd_of hf
            refine V_iast (w2 := wX8 cy a (r153.2.1, r153.2.2.1, r153.2.2.2.1, r153.2.2.2.2.1, r153.2.2.2.2.2.1, r153.2.2.2.2.2.2.1, f156, r153.2.2.2.2.2.2.2.2.1, r153.2.2.2.2.2.2.2.2.2.1, r153.2.2.2.2.2.2.2.2.2.2.1, r153.2.2.2.2.2.2.2.2.2.2.2.1, r153.2.2.2.2.2.2.2.2.2.2.2.2.1, r153.2.2.2.2.2.2.2.2.2.2.2.2.2)) (pc := 96) F 4 rfl c155 e157 dX8_readOrder_96 rfl ?_
            refine V_goto (pc := 97) (tgt := 151) F dX8_readOrder_97 (by decide) ?_
            refine V_aload_n (pc := 151) F dX8_readOrder_151 rfl 2 rfl ?_
            refine V_dup (pc := 152) F dX8_readOrder_152 rfl ?_
            refine V_get (pc := 153) F 0 8 7 i_X8 rfl (by decide) rfl (mm 1 rfl) dX8_readOrder_153 rfl rfl ?_
            refine V_iconst (v := 1) (pc := 156) F dX8_readOrder_156 (by decide) ?_
            refine V_iadd (pc := 157) F dX8_readOrder_157 ?_
            refine V_put (w2 := wX8 cy a (r153.2.1, r153.2.2.1, r153.2.2.2.1, r153.2.2.2.2.1, r153.2.2.2.2.2.1, r153.2.2.2.2.2.2.1, f156, (r153.2.2.2.2.2.2.2.2.1 + 1), r153.2.2.2.2.2.2.2.2.2.1, r153.2.2.2.2.2.2.2.2.2.2.1, r153.2.2.2.2.2.2.2.2.2.2.2.1, r153.2.2.2.2.2.2.2.2.2.2.2.2.1, r153.2.2.2.2.2.2.2.2.2.2.2.2.2)) (pc := 158) F 0 8 7 i_X8 tyX8 tyX8_ok nmX8 rfl (by decide) rfl (mm 1 rfl) rfl dX8_readOrder_158 rfl rfl rfl (Nat.le_of_ble_eq_true rfl) rfl ?_
            obtain rfl := some_of hf
            exact V_vret F rfl dX8_readOrder_161 rfl
          · replace hf := ite_pos hf h150
            refine V_iconst (v := 1) (pc := 74) F dX8_readOrder_74 (by decide) ?_
            refine V_goto (pc := 75) (tgt := 79) F dX8_readOrder_75 (by decide) ?_
            obtain ⟨r158, g159, hf⟩ := bind_of hf
            refine V_V (w2 := wX8 cy a r158) (rest := []) (st2 := []) (pc := 79) F 8 (M_X8_wants l D cy N a (r143.2.1, r143.2.2.1, r143.2.2.2.1, r143.2.2.2.2.1, r143.2.2.2.2.2.1, r143.2.2.2.2.2.2.1, f146, r143.2.2.2.2.2.2.2.2.1, r143.2.2.2.2.2.2.2.2.2.1, r143.2.2.2.2.2.2.2.2.2.2.1, r143.2.2.2.2.2.2.2.2.2.2.2.1, r143.2.2.2.2.2.2.2.2.2.2.2.2.1, r143.2.2.2.2.2.2.2.2.2.2.2.2.2) 1 r158 g159) (cwV 1 F.ts gX8_readOrder_X8_wants rfl rfl rfl hd_X8_wants ⟨Nat.le_of_ble_eq_true rfl, Nat.le_of_ble_eq_true rfl⟩) rfl dX8_readOrder_79 Fit.whole fstX8 rfl rfl (Nat.le_of_ble_eq_true rfl) (Nat.zero_le _) (Nat.zero_le _) rfl rfl rfl ?_
            refine V_aload_n (pc := 82) F dX8_readOrder_82 rfl 2 rfl ?_
            refine V_get (pc := 83) F 0 8 6 i_X8 rfl (by decide) rfl (mm 2 rfl) dX8_readOrder_83 rfl rfl ?_
            refine V_iload_n (pc := 86) F dX8_readOrder_86 rfl 1 rfl ?_
            refine V_iconst (v := 2) (pc := 87) F dX8_readOrder_87 (by decide) ?_
            refine V_iadd (pc := 88) F dX8_readOrder_88 ?_
            refine V_aload_n (pc := 89) F dX8_readOrder_89 rfl 2 rfl ?_
            refine V_iconst (v := 1) (pc := 90) F dX8_readOrder_90 (by decide) ?_
            refine V_bipush (v := 9) (pc := 91) F dX8_readOrder_91 (by decide) ?_
            obtain ⟨r160, g161, hf⟩ := bind_of hf
            refine V_V (w2 := wX8 cy a r160.2) (rest := [.int (((4 : Int32) * v.2.2.2.2.2.2.2.1) + 2), .ref (a 4)]) (st2 := [.int r160.1, .int (((4 : Int32) * v.2.2.2.2.2.2.2.1) + 2), .ref (a 4)]) (pc := 93) F 8 (M_X8_digit l D cy N a r158 1 9 r160 g161) (cwV 2 F.ts gX8_readOrder_X8_digit rfl rfl rfl hd_X8_digit ⟨Nat.le_of_ble_eq_true rfl, Nat.le_of_ble_eq_true rfl⟩) rfl dX8_readOrder_93 Fit.whole fstX8 rfl rfl (Nat.le_of_ble_eq_true rfl) (Nat.zero_le _) (Nat.zero_le _) rfl rfl rfl ?_
            obtain ⟨c162, hf⟩ := chk_some hf
            obtain ⟨f163, e164, hf⟩ := nmd_of hf
            refine V_iast (w2 := wX8 cy a (r160.2.1, r160.2.2.1, r160.2.2.2.1, r160.2.2.2.2.1, r160.2.2.2.2.2.1, r160.2.2.2.2.2.2.1, f163, r160.2.2.2.2.2.2.2.2.1, r160.2.2.2.2.2.2.2.2.2.1, r160.2.2.2.2.2.2.2.2.2.2.1, r160.2.2.2.2.2.2.2.2.2.2.2.1, r160.2.2.2.2.2.2.2.2.2.2.2.2.1, r160.2.2.2.2.2.2.2.2.2.2.2.2.2)) (pc := 96) F 4 rfl c162 e164 dX8_readOrder_96 rfl ?_
            refine V_goto (pc := 97) (tgt := 151) F dX8_readOrder_97 (by decide) ?_
            refine V_aload_n (pc := 151) F dX8_readOrder_151 rfl 2 rfl ?_
            refine V_dup (pc := 152) F dX8_readOrder_152 rfl ?_
            refine V_get (pc := 153) F 0 8 7 i_X8 rfl (by decide) rfl (mm 1 rfl) dX8_readOrder_153 rfl rfl ?_
            refine V_iconst (v := 1) (pc := 156) F dX8_readOrder_156 (by decide) ?_
            refine V_iadd (pc := 157) F dX8_readOrder_157 ?_
            refine V_put (w2 := wX8 cy a (r160.2.1, r160.2.2.1, r160.2.2.2.1, r160.2.2.2.2.1, r160.2.2.2.2.2.1, r160.2.2.2.2.2.2.1, f163, (r160.2.2.2.2.2.2.2.2.1 + 1), r160.2.2.2.2.2.2.2.2.2.1, r160.2.2.2.2.2.2.2.2.2.2.1, r160.2.2.2.2.2.2.2.2.2.2.2.1, r160.2.2.2.2.2.2.2.2.2.2.2.2.1, r160.2.2.2.2.2.2.2.2.2.2.2.2.2)) (pc := 158) F 0 8 7 i_X8 tyX8 tyX8_ok nmX8 rfl (by decide) rfl (mm 1 rfl) rfl dX8_readOrder_158 rfl rfl rfl (Nat.le_of_ble_eq_true rfl) rfl ?_
            obtain rfl := some_of hf
            exact V_vret F rfl dX8_readOrder_161 rfl
