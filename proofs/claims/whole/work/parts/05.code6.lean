def mm_k360 : List mm_I := [(0, .aload_n 3, 1, 0, 0), (1, .iconst 0, 1, 0, 0), (2, .aload_n 0, 1, 0, 0), (3, .iload_n 1, 1, 0, 0), (4, .iload_n 2, 1, 0, 0), (5, .invokevirtual 73, 3, 0, 154), (8, .ifCond .eq 7, 3, 0, 0), (11, .lconst 1, 1, 0, 0), (12, .goto 4, 3, 0, 0), (15, .lconst 0, 1, 0, 0), (16, .lastore, 1, 0, 0), (17, .goto 11, 3, 0, 0), (20, .astore 4, 2, 0, 0), (22, .iconst 1, 1, 0, 0), (23, .ireturn, 1, 0, 0), (24, .astore 4, 2, 0, 0), (26, .iconst 2, 1, 0, 0), (27, .ireturn, 1, 0, 0), (28, .iconst 0, 1, 0, 0), (29, .ireturn, 1, 0, 0)]
/-- SerialGateLaw.clash(LSerialGate;II[J)I -/
def mm_M360 : mm_M := (yL_clash, cL_clash, 5, (some .int), 12, false, [(0, 17, 20, 24), (0, 17, 24, 13)], [(2, 20, 1), (0, 24, 2)], mm_k360)
def mm_k361 : List mm_I := [(0, .aload_n 1, 1, 0, 0), (1, .iconst 0, 1, 0, 0), (2, .aload_n 0, 1, 0, 0), (3, .invokevirtual 76, 3, 0, 164), (6, .i2l, 1, 0, 0), (7, .lastore, 1, 0, 0), (8, .goto 6, 3, 0, 0), (11, .astore_n 2, 1, 0, 0), (12, .iconst 1, 1, 0, 0), (13, .ireturn, 1, 0, 0), (14, .iconst 0, 1, 0, 0), (15, .ireturn, 1, 0, 0)]
/-- SerialGateLaw.who(LSerialGate;[J)I -/
def mm_M361 : mm_M := (yL_who, cL_who, 3, (some .int), 12, false, [(0, 8, 11, 13)], [(0, 11, 1)], mm_k361)
def mm_k362 : List mm_I := [(0, .aload_n 1, 1, 0, 0), (1, .iconst 0, 1, 0, 0), (2, .aload_n 0, 1, 0, 0), (3, .invokevirtual 79, 3, 0, 165), (6, .i2l, 1, 0, 0), (7, .lastore, 1, 0, 0), (8, .goto 6, 3, 0, 0), (11, .astore_n 2, 1, 0, 0), (12, .iconst 1, 1, 0, 0), (13, .ireturn, 1, 0, 0), (14, .iconst 0, 1, 0, 0), (15, .ireturn, 1, 0, 0)]
/-- SerialGateLaw.likely(LSerialGate;[J)I -/
def mm_M362 : mm_M := (yL_likely, cL_likely, 3, (some .int), 12, false, [(0, 8, 11, 13)], [(0, 11, 1)], mm_k362)
def mm_k363 : List mm_I := [(0, .aload_n 1, 1, 0, 0), (1, .iconst 0, 1, 0, 0), (2, .aload_n 0, 1, 0, 0), (3, .invokevirtual 82, 3, 0, 166), (6, .i2l, 1, 0, 0), (7, .lastore, 1, 0, 0), (8, .goto 6, 3, 0, 0), (11, .astore_n 2, 1, 0, 0), (12, .iconst 1, 1, 0, 0), (13, .ireturn, 1, 0, 0), (14, .iconst 0, 1, 0, 0), (15, .ireturn, 1, 0, 0)]
/-- SerialGateLaw.ask(LSerialGate;[J)I -/
def mm_M363 : mm_M := (yL_ask, cL_ask, 3, (some .int), 12, false, [(0, 8, 11, 13)], [(0, 11, 1)], mm_k363)
def mm_k364 : List mm_I := [(0, .aload_n 2, 1, 0, 0), (1, .iconst 0, 1, 0, 0), (2, .aload_n 0, 1, 0, 0), (3, .iload_n 1, 1, 0, 0), (4, .invokevirtual 85, 3, 0, 158), (7, .i2l, 1, 0, 0), (8, .lastore, 1, 0, 0), (9, .goto 6, 3, 0, 0), (12, .astore_n 3, 1, 0, 0), (13, .iconst 1, 1, 0, 0), (14, .ireturn, 1, 0, 0), (15, .iconst 0, 1, 0, 0), (16, .ireturn, 1, 0, 0)]
/-- SerialGateLaw.pairs(LSerialGate;I[J)I -/
def mm_M364 : mm_M := (yL_pairs, cL_pairs, 4, (some .int), 12, false, [(0, 9, 12, 24)], [(2, 12, 1)], mm_k364)
def mm_k365 : List mm_I := [(0, .aload_n 3, 1, 0, 0), (1, .iconst 0, 1, 0, 0), (2, .aload_n 0, 1, 0, 0), (3, .iload_n 1, 1, 0, 0), (4, .iload_n 2, 1, 0, 0), (5, .invokevirtual 88, 3, 0, 159), (8, .i2l, 1, 0, 0), (9, .lastore, 1, 0, 0), (10, .goto 11, 3, 0, 0), (13, .astore 4, 2, 0, 0), (15, .iconst 1, 1, 0, 0), (16, .ireturn, 1, 0, 0), (17, .astore 4, 2, 0, 0), (19, .iconst 2, 1, 0, 0), (20, .ireturn, 1, 0, 0), (21, .iconst 0, 1, 0, 0), (22, .ireturn, 1, 0, 0)]
/-- SerialGateLaw.rests(LSerialGate;II[J)I -/
def mm_M365 : mm_M := (yL_rests, cL_rests, 5, (some .int), 12, false, [(0, 10, 13, 24), (0, 10, 17, 13)], [(2, 13, 1), (0, 17, 2)], mm_k365)
def mm_k366 : List mm_I := [(0, .aload_n 3, 1, 0, 0), (1, .iconst 0, 1, 0, 0), (2, .aload_n 0, 1, 0, 0), (3, .iload_n 1, 1, 0, 0), (4, .iload_n 2, 1, 0, 0), (5, .invokevirtual 91, 3, 0, 160), (8, .i2l, 1, 0, 0), (9, .lastore, 1, 0, 0), (10, .goto 7, 3, 0, 0), (13, .astore 4, 2, 0, 0), (15, .iconst 1, 1, 0, 0), (16, .ireturn, 1, 0, 0), (17, .iconst 0, 1, 0, 0), (18, .ireturn, 1, 0, 0)]
/-- SerialGateLaw.odds(LSerialGate;II[J)I -/
def mm_M366 : mm_M := (yL_odds, cL_odds, 5, (some .int), 12, false, [(0, 10, 13, 13)], [(0, 13, 1)], mm_k366)
def mm_k367 : List mm_I := [(0, .aload_n 2, 1, 0, 0), (1, .iconst 0, 1, 0, 0), (2, .aload_n 0, 1, 0, 0), (3, .iload_n 1, 1, 0, 0), (4, .invokevirtual 94, 3, 0, 161), (7, .i2l, 1, 0, 0), (8, .lastore, 1, 0, 0), (9, .goto 6, 3, 0, 0), (12, .astore_n 3, 1, 0, 0), (13, .iconst 1, 1, 0, 0), (14, .ireturn, 1, 0, 0), (15, .iconst 0, 1, 0, 0), (16, .ireturn, 1, 0, 0)]
/-- SerialGateLaw.most(LSerialGate;I[J)I -/
def mm_M367 : mm_M := (yL_most, cL_most, 4, (some .int), 12, false, [(0, 9, 12, 26)], [(3, 12, 1)], mm_k367)
def mm_k368 : List mm_I := [(0, .aload_n 3, 1, 0, 0), (1, .iconst 0, 1, 0, 0), (2, .aload_n 0, 1, 0, 0), (3, .iload_n 1, 1, 0, 0), (4, .iload_n 2, 1, 0, 0), (5, .invokevirtual 97, 3, 0, 171), (8, .i2l, 1, 0, 0), (9, .lastore, 1, 0, 0), (10, .goto 7, 3, 0, 0), (13, .astore 4, 2, 0, 0), (15, .iconst 1, 1, 0, 0), (16, .ireturn, 1, 0, 0), (17, .iconst 0, 1, 0, 0), (18, .ireturn, 1, 0, 0)]
/-- SerialGateLaw.trial(LSerialGate;IZ[J)I -/
def mm_M368 : mm_M := (yL_trial, cL_trial, 5, (some .int), 12, false, [(0, 10, 13, 13)], [(0, 13, 1)], mm_k368)
def mm_k369 : List mm_I := [(0, .aload_n 3, 1, 0, 0), (1, .iconst 0, 1, 0, 0), (2, .aload_n 0, 1, 0, 0), (3, .iload_n 1, 1, 0, 0), (4, .iload_n 2, 1, 0, 0), (5, .invokevirtual 101, 3, 0, 172), (8, .i2l, 1, 0, 0), (9, .lastore, 1, 0, 0), (10, .goto 7, 3, 0, 0), (13, .astore 4, 2, 0, 0), (15, .iconst 1, 1, 0, 0), (16, .ireturn, 1, 0, 0), (17, .iconst 0, 1, 0, 0), (18, .ireturn, 1, 0, 0)]
/-- SerialGateLaw.span(LSerialGate;IZ[J)I -/
def mm_M369 : mm_M := (yL_span, cL_span, 5, (some .int), 12, false, [(0, 10, 13, 13)], [(0, 13, 1)], mm_k369)
def mm_k370 : List mm_I := [(0, .aload_n 3, 1, 0, 0), (1, .iconst 0, 1, 0, 0), (2, .aload_n 0, 1, 0, 0), (3, .iload_n 1, 1, 0, 0), (4, .iload_n 2, 1, 0, 0), (5, .invokevirtual 104, 3, 0, 152), (8, .i2l, 1, 0, 0), (9, .lastore, 1, 0, 0), (10, .goto 7, 3, 0, 0), (13, .astore 4, 2, 0, 0), (15, .iconst 1, 1, 0, 0), (16, .ireturn, 1, 0, 0), (17, .iconst 0, 1, 0, 0), (18, .ireturn, 1, 0, 0)]
/-- SerialGateLaw.led(LSerialGate;IZ[J)I -/
def mm_M370 : mm_M := (yL_led, cL_led, 5, (some .int), 12, false, [(0, 10, 13, 24)], [(2, 13, 1)], mm_k370)
def mm_k371 : List mm_I := [(0, .aload_n 3, 1, 0, 0), (1, .iconst 0, 1, 0, 0), (2, .aload_n 0, 1, 0, 0), (3, .iload_n 1, 1, 0, 0), (4, .iload_n 2, 1, 0, 0), (5, .invokevirtual 107, 3, 0, 153), (8, .i2l, 1, 0, 0), (9, .lastore, 1, 0, 0), (10, .goto 7, 3, 0, 0), (13, .astore 4, 2, 0, 0), (15, .iconst 1, 1, 0, 0), (16, .ireturn, 1, 0, 0), (17, .iconst 0, 1, 0, 0), (18, .ireturn, 1, 0, 0)]
/-- SerialGateLaw.log(LSerialGate;II[J)I -/
def mm_M371 : mm_M := (yL_log, cL_log, 5, (some .int), 12, false, [(0, 10, 13, 26)], [(3, 13, 1)], mm_k371)
