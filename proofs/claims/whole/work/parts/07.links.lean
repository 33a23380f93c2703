theorem pnX0 : plainName RX0 = true := by decide +kernel
theorem pnX1 : plainName RX1 = true := by decide +kernel
theorem pnX2 : plainName RX2 = true := by decide +kernel
theorem pnJ6 : plainName RJ6 = true := by decide +kernel
theorem pnJ7 : plainName RJ7 = true := by decide +kernel
abbrev mX0_start : MD := (RX0, cX0_start, 3, none, 1)
theorem okX0_start : OkV yX0_start mX0_start 2 := ⟨⟨gw_mem 64 (by decide +kernel) (by decide +kernel), gw_mem 41 (by decide +kernel) (by decide +kernel), by decide +kernel, by decide +kernel, pnX0, rfl⟩, gw_mem 62 (by decide +kernel) (by decide +kernel), gw_mem 63 (by decide +kernel) (by decide +kernel)⟩
abbrev mX0_become : MD := (RX0, cX0_become, 2, none, 1)
theorem okX0_become : OkV yX0_become mX0_become 1 := ⟨⟨gw_mem 169 (by decide +kernel) (by decide +kernel), gw_mem 41 (by decide +kernel) (by decide +kernel), by decide +kernel, by decide +kernel, pnX0, rfl⟩, gw_mem 167 (by decide +kernel) (by decide +kernel), gw_mem 168 (by decide +kernel) (by decide +kernel)⟩
abbrev mX0_codeOf : MD := (RX0, cX0_codeOf, 2, some .int, 0)
theorem okX0_codeOf : OkS yX0_codeOf mX0_codeOf 2 := ⟨⟨gw_mem 219 (by decide +kernel) (by decide +kernel), gw_mem 41 (by decide +kernel) (by decide +kernel), by decide +kernel, by decide +kernel, pnX0, rfl⟩, gw_mem 218 (by decide +kernel) (by decide +kernel)⟩
abbrev mX0_codesOf : MD := (RX0, cX0_codesOf, 1, some .int, 0)
theorem okX0_codesOf : OkS yX0_codesOf mX0_codesOf 1 := ⟨⟨gw_mem 288 (by decide +kernel) (by decide +kernel), gw_mem 41 (by decide +kernel) (by decide +kernel), by decide +kernel, by decide +kernel, pnX0, rfl⟩, gw_mem 287 (by decide +kernel) (by decide +kernel)⟩
abbrev mX0_receiptsIn : MD := (RX0, cX0_receiptsIn, 2, some .int, 1)
theorem okX0_receiptsIn : OkS yX0_receiptsIn mX0_receiptsIn 2 := ⟨⟨gw_mem 299 (by decide +kernel) (by decide +kernel), gw_mem 41 (by decide +kernel) (by decide +kernel), by decide +kernel, by decide +kernel, pnX0, rfl⟩, gw_mem 298 (by decide +kernel) (by decide +kernel)⟩
abbrev mX0_wayOf : MD := (RX0, cX0_wayOf, 2, some .int, 0)
theorem okX0_wayOf : OkS yX0_wayOf mX0_wayOf 2 := ⟨⟨gw_mem 191 (by decide +kernel) (by decide +kernel), gw_mem 41 (by decide +kernel) (by decide +kernel), by decide +kernel, by decide +kernel, pnX0, rfl⟩, gw_mem 190 (by decide +kernel) (by decide +kernel)⟩
abbrev mX0_letterOn : MD := (RX0, cX0_letterOn, 3, some .int, 1)
theorem okX0_letterOn : OkS yX0_letterOn mX0_letterOn 3 := ⟨⟨gw_mem 199 (by decide +kernel) (by decide +kernel), gw_mem 41 (by decide +kernel) (by decide +kernel), by decide +kernel, by decide +kernel, pnX0, rfl⟩, gw_mem 198 (by decide +kernel) (by decide +kernel)⟩
abbrev mX0_isSite : MD := (RX0, cX0_isSite, 2, some .boolean, 0)
theorem okX0_isSite : OkV yX0_isSite mX0_isSite 1 := ⟨⟨gw_mem 184 (by decide +kernel) (by decide +kernel), gw_mem 41 (by decide +kernel) (by decide +kernel), by decide +kernel, by decide +kernel, pnX0, rfl⟩, gw_mem 182 (by decide +kernel) (by decide +kernel), gw_mem 183 (by decide +kernel) (by decide +kernel)⟩
abbrev mX0_isWay : MD := (RX0, cX0_isWay, 3, some .boolean, 1)
theorem okX0_isWay : OkV yX0_isWay mX0_isWay 2 := ⟨⟨gw_mem 208 (by decide +kernel) (by decide +kernel), gw_mem 41 (by decide +kernel) (by decide +kernel), by decide +kernel, by decide +kernel, pnX0, rfl⟩, gw_mem 206 (by decide +kernel) (by decide +kernel), gw_mem 207 (by decide +kernel) (by decide +kernel)⟩
abbrev mX0_isReceipt : MD := (RX0, cX0_isReceipt, 3, some .boolean, 1)
theorem okX0_isReceipt : OkV yX0_isReceipt mX0_isReceipt 2 := ⟨⟨gw_mem 333 (by decide +kernel) (by decide +kernel), gw_mem 41 (by decide +kernel) (by decide +kernel), by decide +kernel, by decide +kernel, pnX0, rfl⟩, gw_mem 331 (by decide +kernel) (by decide +kernel), gw_mem 332 (by decide +kernel) (by decide +kernel)⟩
abbrev mX0_isDown : MD := (RX0, cX0_isDown, 2, some .boolean, 0)
theorem okX0_isDown : OkV yX0_isDown mX0_isDown 1 := ⟨⟨gw_mem 212 (by decide +kernel) (by decide +kernel), gw_mem 41 (by decide +kernel) (by decide +kernel), by decide +kernel, by decide +kernel, pnX0, rfl⟩, gw_mem 210 (by decide +kernel) (by decide +kernel), gw_mem 211 (by decide +kernel) (by decide +kernel)⟩
abbrev mX0_allSites : MD := (RX0, cX0_allSites, 1, some .int, 0)
theorem okX0_allSites : OkV yX0_allSites mX0_allSites 0 := ⟨⟨gw_mem 372 (by decide +kernel) (by decide +kernel), gw_mem 41 (by decide +kernel) (by decide +kernel), by decide +kernel, by decide +kernel, pnX0, rfl⟩, gw_mem 370 (by decide +kernel) (by decide +kernel), gw_mem 371 (by decide +kernel) (by decide +kernel)⟩
abbrev mX0_stateOf : MD := (RX0, cX0_stateOf, 2, some .int, 1)
theorem okX0_stateOf : OkV yX0_stateOf mX0_stateOf 1 := ⟨⟨gw_mem 228 (by decide +kernel) (by decide +kernel), gw_mem 41 (by decide +kernel) (by decide +kernel), by decide +kernel, by decide +kernel, pnX0, rfl⟩, gw_mem 226 (by decide +kernel) (by decide +kernel), gw_mem 227 (by decide +kernel) (by decide +kernel)⟩
abbrev mX0_allReceipts : MD := (RX0, cX0_allReceipts, 3, some .int, 0)
theorem okX0_allReceipts : OkV yX0_allReceipts mX0_allReceipts 0 := ⟨⟨gw_mem 296 (by decide +kernel) (by decide +kernel), gw_mem 41 (by decide +kernel) (by decide +kernel), by decide +kernel, by decide +kernel, pnX0, rfl⟩, gw_mem 294 (by decide +kernel) (by decide +kernel), gw_mem 295 (by decide +kernel) (by decide +kernel)⟩
abbrev mX0_lettersOn : MD := (RX0, cX0_lettersOn, 3, some .int, 1)
theorem okX0_lettersOn : OkV yX0_lettersOn mX0_lettersOn 2 := ⟨⟨gw_mem 188 (by decide +kernel) (by decide +kernel), gw_mem 41 (by decide +kernel) (by decide +kernel), by decide +kernel, by decide +kernel, pnX0, rfl⟩, gw_mem 186 (by decide +kernel) (by decide +kernel), gw_mem 187 (by decide +kernel) (by decide +kernel)⟩
abbrev mX0_lettersBy : MD := (RX0, cX0_lettersBy, 4, some .int, 2)
theorem okX0_lettersBy : OkV yX0_lettersBy mX0_lettersBy 1 := ⟨⟨gw_mem 325 (by decide +kernel) (by decide +kernel), gw_mem 41 (by decide +kernel) (by decide +kernel), by decide +kernel, by decide +kernel, pnX0, rfl⟩, gw_mem 323 (by decide +kernel) (by decide +kernel), gw_mem 324 (by decide +kernel) (by decide +kernel)⟩
abbrev mX0_allLetters : MD := (RX0, cX0_allLetters, 3, some .int, 3)
theorem okX0_allLetters : OkV yX0_allLetters mX0_allLetters 0 := ⟨⟨gw_mem 432 (by decide +kernel) (by decide +kernel), gw_mem 41 (by decide +kernel) (by decide +kernel), by decide +kernel, by decide +kernel, pnX0, rfl⟩, gw_mem 430 (by decide +kernel) (by decide +kernel), gw_mem 431 (by decide +kernel) (by decide +kernel)⟩
abbrev mX0_allCarried : MD := (RX0, cX0_allCarried, 4, some .int, 3)
theorem okX0_allCarried : OkV yX0_allCarried mX0_allCarried 0 := ⟨⟨gw_mem 442 (by decide +kernel) (by decide +kernel), gw_mem 41 (by decide +kernel) (by decide +kernel), by decide +kernel, by decide +kernel, pnX0, rfl⟩, gw_mem 440 (by decide +kernel) (by decide +kernel), gw_mem 441 (by decide +kernel) (by decide +kernel)⟩
abbrev mX0_carriedOn : MD := (RX0, cX0_carriedOn, 6, some .int, 2)
theorem okX0_carriedOn : OkV yX0_carriedOn mX0_carriedOn 2 := ⟨⟨gw_mem 446 (by decide +kernel) (by decide +kernel), gw_mem 41 (by decide +kernel) (by decide +kernel), by decide +kernel, by decide +kernel, pnX0, rfl⟩, gw_mem 444 (by decide +kernel) (by decide +kernel), gw_mem 445 (by decide +kernel) (by decide +kernel)⟩
abbrev mX0_takenFrom : MD := (RX0, cX0_takenFrom, 5, some .int, 1)
theorem okX0_takenFrom : OkV yX0_takenFrom mX0_takenFrom 2 := ⟨⟨gw_mem 216 (by decide +kernel) (by decide +kernel), gw_mem 41 (by decide +kernel) (by decide +kernel), by decide +kernel, by decide +kernel, pnX0, rfl⟩, gw_mem 214 (by decide +kernel) (by decide +kernel), gw_mem 215 (by decide +kernel) (by decide +kernel)⟩
abbrev mX0_heldBy : MD := (RX0, cX0_heldBy, 2, some .int, 0)
theorem okX0_heldBy : OkV yX0_heldBy mX0_heldBy 1 := ⟨⟨gw_mem 252 (by decide +kernel) (by decide +kernel), gw_mem 41 (by decide +kernel) (by decide +kernel), by decide +kernel, by decide +kernel, pnX0, rfl⟩, gw_mem 250 (by decide +kernel) (by decide +kernel), gw_mem 251 (by decide +kernel) (by decide +kernel)⟩
abbrev mX0_holdersOf : MD := (RX0, cX0_holdersOf, 4, some .int, 1)
theorem okX0_holdersOf : OkV yX0_holdersOf mX0_holdersOf 1 := ⟨⟨gw_mem 338 (by decide +kernel) (by decide +kernel), gw_mem 41 (by decide +kernel) (by decide +kernel), by decide +kernel, by decide +kernel, pnX0, rfl⟩, gw_mem 336 (by decide +kernel) (by decide +kernel), gw_mem 337 (by decide +kernel) (by decide +kernel)⟩
abbrev mX0_holdersKnown : MD := (RX0, cX0_holdersKnown, 5, some .int, 0)
theorem okX0_holdersKnown : OkV yX0_holdersKnown mX0_holdersKnown 2 := ⟨⟨gw_mem 256 (by decide +kernel) (by decide +kernel), gw_mem 41 (by decide +kernel) (by decide +kernel), by decide +kernel, by decide +kernel, pnX0, rfl⟩, gw_mem 254 (by decide +kernel) (by decide +kernel), gw_mem 255 (by decide +kernel) (by decide +kernel)⟩
abbrev mX0_isSafe : MD := (RX0, cX0_isSafe, 2, some .boolean, 2)
theorem okX0_isSafe : OkV yX0_isSafe mX0_isSafe 1 := ⟨⟨gw_mem 342 (by decide +kernel) (by decide +kernel), gw_mem 41 (by decide +kernel) (by decide +kernel), by decide +kernel, by decide +kernel, pnX0, rfl⟩, gw_mem 340 (by decide +kernel) (by decide +kernel), gw_mem 341 (by decide +kernel) (by decide +kernel)⟩
abbrev mX0_safeReceipts : MD := (RX0, cX0_safeReceipts, 4, some .int, 3)
theorem okX0_safeReceipts : OkV yX0_safeReceipts mX0_safeReceipts 0 := ⟨⟨gw_mem 437 (by decide +kernel) (by decide +kernel), gw_mem 41 (by decide +kernel) (by decide +kernel), by decide +kernel, by decide +kernel, pnX0, rfl⟩, gw_mem 435 (by decide +kernel) (by decide +kernel), gw_mem 436 (by decide +kernel) (by decide +kernel)⟩
abbrev mX0_unsafeFor : MD := (RX0, cX0_unsafeFor, 4, some .int, 1)
theorem okX0_unsafeFor : OkV yX0_unsafeFor mX0_unsafeFor 1 := ⟨⟨gw_mem 248 (by decide +kernel) (by decide +kernel), gw_mem 41 (by decide +kernel) (by decide +kernel), by decide +kernel, by decide +kernel, pnX0, rfl⟩, gw_mem 246 (by decide +kernel) (by decide +kernel), gw_mem 247 (by decide +kernel) (by decide +kernel)⟩
abbrev mX0_write : MD := (RX0, cX0_write, 8, none, 2)
theorem okX0_write : OkV yX0_write mX0_write 5 := ⟨⟨gw_mem 195 (by decide +kernel) (by decide +kernel), gw_mem 41 (by decide +kernel) (by decide +kernel), by decide +kernel, by decide +kernel, pnX0, rfl⟩, gw_mem 193 (by decide +kernel) (by decide +kernel), gw_mem 194 (by decide +kernel) (by decide +kernel)⟩
abbrev mX0_take : MD := (RX0, cX0_take, 6, none, 4)
theorem okX0_take : OkV yX0_take mX0_take 2 := ⟨⟨gw_mem 223 (by decide +kernel) (by decide +kernel), gw_mem 41 (by decide +kernel) (by decide +kernel), by decide +kernel, by decide +kernel, pnX0, rfl⟩, gw_mem 221 (by decide +kernel) (by decide +kernel), gw_mem 222 (by decide +kernel) (by decide +kernel)⟩
abbrev mX0_pastAhead : MD := (RX0, cX0_pastAhead, 2, some .int, 1)
theorem okX0_pastAhead : OkV yX0_pastAhead mX0_pastAhead 1 := ⟨⟨gw_mem 232 (by decide +kernel) (by decide +kernel), gw_mem 41 (by decide +kernel) (by decide +kernel), by decide +kernel, by decide +kernel, pnX0, rfl⟩, gw_mem 230 (by decide +kernel) (by decide +kernel), gw_mem 231 (by decide +kernel) (by decide +kernel)⟩
abbrev mX0_pastOfBirth : MD := (RX0, cX0_pastOfBirth, 2, some .int, 0)
theorem okX0_pastOfBirth : OkV yX0_pastOfBirth mX0_pastOfBirth 1 := ⟨⟨gw_mem 236 (by decide +kernel) (by decide +kernel), gw_mem 41 (by decide +kernel) (by decide +kernel), by decide +kernel, by decide +kernel, pnX0, rfl⟩, gw_mem 234 (by decide +kernel) (by decide +kernel), gw_mem 235 (by decide +kernel) (by decide +kernel)⟩
abbrev mX0_learn : MD := (RX0, cX0_learn, 5, none, 0)
theorem okX0_learn : OkV yX0_learn mX0_learn 3 := ⟨⟨gw_mem 240 (by decide +kernel) (by decide +kernel), gw_mem 41 (by decide +kernel) (by decide +kernel), by decide +kernel, by decide +kernel, pnX0, rfl⟩, gw_mem 238 (by decide +kernel) (by decide +kernel), gw_mem 239 (by decide +kernel) (by decide +kernel)⟩
abbrev mX0_answer : MD := (RX0, cX0_answer, 5, none, 3)
theorem okX0_answer : OkV yX0_answer mX0_answer 2 := ⟨⟨gw_mem 244 (by decide +kernel) (by decide +kernel), gw_mem 41 (by decide +kernel) (by decide +kernel), by decide +kernel, by decide +kernel, pnX0, rfl⟩, gw_mem 242 (by decide +kernel) (by decide +kernel), gw_mem 243 (by decide +kernel) (by decide +kernel)⟩
abbrev mX0_crash : MD := (RX0, cX0_crash, 3, none, 0)
theorem okX0_crash : OkV yX0_crash mX0_crash 1 := ⟨⟨gw_mem 272 (by decide +kernel) (by decide +kernel), gw_mem 41 (by decide +kernel) (by decide +kernel), by decide +kernel, by decide +kernel, pnX0, rfl⟩, gw_mem 270 (by decide +kernel) (by decide +kernel), gw_mem 271 (by decide +kernel) (by decide +kernel)⟩
abbrev mX0_keptIfDown : MD := (RX0, cX0_keptIfDown, 7, some .int, 1)
theorem okX0_keptIfDown : OkV yX0_keptIfDown mX0_keptIfDown 1 := ⟨⟨gw_mem 285 (by decide +kernel) (by decide +kernel), gw_mem 41 (by decide +kernel) (by decide +kernel), by decide +kernel, by decide +kernel, pnX0, rfl⟩, gw_mem 283 (by decide +kernel) (by decide +kernel), gw_mem 284 (by decide +kernel) (by decide +kernel)⟩
abbrev mX0_lostBut : MD := (RX0, cX0_lostBut, 2, some .int, 1)
theorem okX0_lostBut : OkV yX0_lostBut mX0_lostBut 1 := ⟨⟨gw_mem 292 (by decide +kernel) (by decide +kernel), gw_mem 41 (by decide +kernel) (by decide +kernel), by decide +kernel, by decide +kernel, pnX0, rfl⟩, gw_mem 290 (by decide +kernel) (by decide +kernel), gw_mem 291 (by decide +kernel) (by decide +kernel)⟩
abbrev mX0_orphansBut : MD := (RX0, cX0_orphansBut, 5, some .int, 2)
theorem okX0_orphansBut : OkV yX0_orphansBut mX0_orphansBut 2 := ⟨⟨gw_mem 378 (by decide +kernel) (by decide +kernel), gw_mem 41 (by decide +kernel) (by decide +kernel), by decide +kernel, by decide +kernel, pnX0, rfl⟩, gw_mem 376 (by decide +kernel) (by decide +kernel), gw_mem 377 (by decide +kernel) (by decide +kernel)⟩
abbrev mX0_raiseAll : MD := (RX0, cX0_raiseAll, 5, some .int, 3)
theorem okX0_raiseAll : OkV yX0_raiseAll mX0_raiseAll 0 := ⟨⟨gw_mem 281 (by decide +kernel) (by decide +kernel), gw_mem 41 (by decide +kernel) (by decide +kernel), by decide +kernel, by decide +kernel, pnX0, rfl⟩, gw_mem 279 (by decide +kernel) (by decide +kernel), gw_mem 280 (by decide +kernel) (by decide +kernel)⟩
abbrev mX0_keepLettersOn : MD := (RX0, cX0_keepLettersOn, 9, none, 2)
theorem okX0_keepLettersOn : OkV yX0_keepLettersOn mX0_keepLettersOn 3 := ⟨⟨gw_mem 303 (by decide +kernel) (by decide +kernel), gw_mem 41 (by decide +kernel) (by decide +kernel), by decide +kernel, by decide +kernel, pnX0, rfl⟩, gw_mem 301 (by decide +kernel) (by decide +kernel), gw_mem 302 (by decide +kernel) (by decide +kernel)⟩
abbrev mX0_learnAll : MD := (RX0, cX0_learnAll, 4, none, 1)
theorem okX0_learnAll : OkV yX0_learnAll mX0_learnAll 2 := ⟨⟨gw_mem 312 (by decide +kernel) (by decide +kernel), gw_mem 41 (by decide +kernel) (by decide +kernel), by decide +kernel, by decide +kernel, pnX0, rfl⟩, gw_mem 310 (by decide +kernel) (by decide +kernel), gw_mem 311 (by decide +kernel) (by decide +kernel)⟩
abbrev mX0_tellTheRaised : MD := (RX0, cX0_tellTheRaised, 3, none, 2)
theorem okX0_tellTheRaised : OkV yX0_tellTheRaised mX0_tellTheRaised 0 := ⟨⟨gw_mem 307 (by decide +kernel) (by decide +kernel), gw_mem 41 (by decide +kernel) (by decide +kernel), by decide +kernel, by decide +kernel, pnX0, rfl⟩, gw_mem 305 (by decide +kernel) (by decide +kernel), gw_mem 306 (by decide +kernel) (by decide +kernel)⟩
abbrev mX1_begins : MD := (RX1, cX1_begins, 3, some .int, 3)
theorem okX1_begins : OkV yX1_begins mX1_begins 2 := ⟨⟨gw_mem 161 (by decide +kernel) (by decide +kernel), gw_mem 40 (by decide +kernel) (by decide +kernel), by decide +kernel, by decide +kernel, pnX1, rfl⟩, gw_mem 159 (by decide +kernel) (by decide +kernel), gw_mem 160 (by decide +kernel) (by decide +kernel)⟩
abbrev mX1_puts : MD := (RX1, cX1_puts, 4, some .int, 3)
theorem okX1_puts : OkV yX1_puts mX1_puts 2 := ⟨⟨gw_mem 180 (by decide +kernel) (by decide +kernel), gw_mem 40 (by decide +kernel) (by decide +kernel), by decide +kernel, by decide +kernel, pnX1, rfl⟩, gw_mem 178 (by decide +kernel) (by decide +kernel), gw_mem 179 (by decide +kernel) (by decide +kernel)⟩
abbrev mX1_receives : MD := (RX1, cX1_receives, 3, some .int, 5)
theorem okX1_receives : OkV yX1_receives mX1_receives 2 := ⟨⟨gw_mem 204 (by decide +kernel) (by decide +kernel), gw_mem 40 (by decide +kernel) (by decide +kernel), by decide +kernel, by decide +kernel, pnX1, rfl⟩, gw_mem 202 (by decide +kernel) (by decide +kernel), gw_mem 203 (by decide +kernel) (by decide +kernel)⟩
abbrev mX1_crashes : MD := (RX1, cX1_crashes, 2, some .int, 3)
theorem okX1_crashes : OkV yX1_crashes mX1_crashes 1 := ⟨⟨gw_mem 268 (by decide +kernel) (by decide +kernel), gw_mem 40 (by decide +kernel) (by decide +kernel), by decide +kernel, by decide +kernel, pnX1, rfl⟩, gw_mem 266 (by decide +kernel) (by decide +kernel), gw_mem 267 (by decide +kernel) (by decide +kernel)⟩
abbrev mX1_raises : MD := (RX1, cX1_raises, 1, some .int, 4)
theorem okX1_raises : OkV yX1_raises mX1_raises 0 := ⟨⟨gw_mem 277 (by decide +kernel) (by decide +kernel), gw_mem 40 (by decide +kernel) (by decide +kernel), by decide +kernel, by decide +kernel, pnX1, rfl⟩, gw_mem 275 (by decide +kernel) (by decide +kernel), gw_mem 276 (by decide +kernel) (by decide +kernel)⟩
abbrev mX1_undo : MD := (RX1, cX1_undo, 1, some .int, 2)
theorem okX1_undo : OkV yX1_undo mX1_undo 0 := ⟨⟨gw_mem 316 (by decide +kernel) (by decide +kernel), gw_mem 40 (by decide +kernel) (by decide +kernel), by decide +kernel, by decide +kernel, pnX1, rfl⟩, gw_mem 314 (by decide +kernel) (by decide +kernel), gw_mem 315 (by decide +kernel) (by decide +kernel)⟩
abbrev mX1_site : MD := (RX1, cX1_site, 3, some .int, 3)
theorem okX1_site : OkV yX1_site mX1_site 2 := ⟨⟨gw_mem 320 (by decide +kernel) (by decide +kernel), gw_mem 40 (by decide +kernel) (by decide +kernel), by decide +kernel, by decide +kernel, pnX1, rfl⟩, gw_mem 318 (by decide +kernel) (by decide +kernel), gw_mem 319 (by decide +kernel) (by decide +kernel)⟩
abbrev mX1_receipt : MD := (RX1, cX1_receipt, 5, some .int, 3)
theorem okX1_receipt : OkV yX1_receipt mX1_receipt 3 := ⟨⟨gw_mem 329 (by decide +kernel) (by decide +kernel), gw_mem 40 (by decide +kernel) (by decide +kernel), by decide +kernel, by decide +kernel, pnX1, rfl⟩, gw_mem 327 (by decide +kernel) (by decide +kernel), gw_mem 328 (by decide +kernel) (by decide +kernel)⟩
abbrev mX1_letter : MD := (RX1, cX1_letter, 6, some .int, 2)
theorem okX1_letter : OkV yX1_letter mX1_letter 4 := ⟨⟨gw_mem 347 (by decide +kernel) (by decide +kernel), gw_mem 40 (by decide +kernel) (by decide +kernel), by decide +kernel, by decide +kernel, pnX1, rfl⟩, gw_mem 345 (by decide +kernel) (by decide +kernel), gw_mem 346 (by decide +kernel) (by decide +kernel)⟩
abbrev mX1_carries : MD := (RX1, cX1_carries, 5, some .int, 2)
theorem okX1_carries : OkV yX1_carries mX1_carries 4 := ⟨⟨gw_mem 352 (by decide +kernel) (by decide +kernel), gw_mem 40 (by decide +kernel) (by decide +kernel), by decide +kernel, by decide +kernel, pnX1, rfl⟩, gw_mem 350 (by decide +kernel) (by decide +kernel), gw_mem 351 (by decide +kernel) (by decide +kernel)⟩
abbrev mX1_knows : MD := (RX1, cX1_knows, 3, some .int, 1)
theorem okX1_knows : OkV yX1_knows mX1_knows 2 := ⟨⟨gw_mem 359 (by decide +kernel) (by decide +kernel), gw_mem 40 (by decide +kernel) (by decide +kernel), by decide +kernel, by decide +kernel, pnX1, rfl⟩, gw_mem 357 (by decide +kernel) (by decide +kernel), gw_mem 358 (by decide +kernel) (by decide +kernel)⟩
abbrev mX1_past : MD := (RX1, cX1_past, 4, some .int, 2)
theorem okX1_past : OkV yX1_past mX1_past 3 := ⟨⟨gw_mem 364 (by decide +kernel) (by decide +kernel), gw_mem 40 (by decide +kernel) (by decide +kernel), by decide +kernel, by decide +kernel, pnX1, rfl⟩, gw_mem 362 (by decide +kernel) (by decide +kernel), gw_mem 363 (by decide +kernel) (by decide +kernel)⟩
abbrev mX1_risk : MD := (RX1, cX1_risk, 5, some .int, 3)
theorem okX1_risk : OkV yX1_risk mX1_risk 2 := ⟨⟨gw_mem 368 (by decide +kernel) (by decide +kernel), gw_mem 40 (by decide +kernel) (by decide +kernel), by decide +kernel, by decide +kernel, pnX1, rfl⟩, gw_mem 366 (by decide +kernel) (by decide +kernel), gw_mem 367 (by decide +kernel) (by decide +kernel)⟩
abbrev mX1_worst : MD := (RX1, cX1_worst, 5, some .int, 2)
theorem okX1_worst : OkV yX1_worst mX1_worst 1 := ⟨⟨gw_mem 382 (by decide +kernel) (by decide +kernel), gw_mem 40 (by decide +kernel) (by decide +kernel), by decide +kernel, by decide +kernel, pnX1, rfl⟩, gw_mem 380 (by decide +kernel) (by decide +kernel), gw_mem 381 (by decide +kernel) (by decide +kernel)⟩
abbrev mX1_sees : MD := (RX1, cX1_sees, 3, some .int, 1)
theorem okX1_sees : OkV yX1_sees mX1_sees 2 := ⟨⟨gw_mem 389 (by decide +kernel) (by decide +kernel), gw_mem 40 (by decide +kernel) (by decide +kernel), by decide +kernel, by decide +kernel, pnX1, rfl⟩, gw_mem 387 (by decide +kernel) (by decide +kernel), gw_mem 388 (by decide +kernel) (by decide +kernel)⟩
abbrev mX1_forget : MD := (RX1, cX1_forget, 2, some .int, 0)
theorem okX1_forget : OkV yX1_forget mX1_forget 0 := ⟨⟨gw_mem 393 (by decide +kernel) (by decide +kernel), gw_mem 40 (by decide +kernel) (by decide +kernel), by decide +kernel, by decide +kernel, pnX1, rfl⟩, gw_mem 391 (by decide +kernel) (by decide +kernel), gw_mem 392 (by decide +kernel) (by decide +kernel)⟩
abbrev mX1_which : MD := (RX1, cX1_which, 3, some .int, 4)
theorem okX1_which : OkV yX1_which mX1_which 1 := ⟨⟨gw_mem 397 (by decide +kernel) (by decide +kernel), gw_mem 40 (by decide +kernel) (by decide +kernel), by decide +kernel, by decide +kernel, pnX1, rfl⟩, gw_mem 395 (by decide +kernel) (by decide +kernel), gw_mem 396 (by decide +kernel) (by decide +kernel)⟩
abbrev mX1_ask : MD := (RX1, cX1_ask, 6, some .int, 4)
theorem okX1_ask : OkV yX1_ask mX1_ask 0 := ⟨⟨gw_mem 410 (by decide +kernel) (by decide +kernel), gw_mem 40 (by decide +kernel) (by decide +kernel), by decide +kernel, by decide +kernel, pnX1, rfl⟩, gw_mem 408 (by decide +kernel) (by decide +kernel), gw_mem 409 (by decide +kernel) (by decide +kernel)⟩
abbrev mX1_keep : MD := (RX1, cX1_keep, 2, some .int, 2)
theorem okX1_keep : OkV yX1_keep mX1_keep 1 := ⟨⟨gw_mem 419 (by decide +kernel) (by decide +kernel), gw_mem 40 (by decide +kernel) (by decide +kernel), by decide +kernel, by decide +kernel, pnX1, rfl⟩, gw_mem 417 (by decide +kernel) (by decide +kernel), gw_mem 418 (by decide +kernel) (by decide +kernel)⟩
abbrev mX1_back : MD := (RX1, cX1_back, 2, some .int, 2)
theorem okX1_back : OkV yX1_back mX1_back 1 := ⟨⟨gw_mem 424 (by decide +kernel) (by decide +kernel), gw_mem 40 (by decide +kernel) (by decide +kernel), by decide +kernel, by decide +kernel, pnX1, rfl⟩, gw_mem 422 (by decide +kernel) (by decide +kernel), gw_mem 423 (by decide +kernel) (by decide +kernel)⟩
abbrev mX1_count : MD := (RX1, cX1_count, 2, some .int, 4)
theorem okX1_count : OkV yX1_count mX1_count 1 := ⟨⟨gw_mem 428 (by decide +kernel) (by decide +kernel), gw_mem 40 (by decide +kernel) (by decide +kernel), by decide +kernel, by decide +kernel, pnX1, rfl⟩, gw_mem 426 (by decide +kernel) (by decide +kernel), gw_mem 427 (by decide +kernel) (by decide +kernel)⟩
abbrev mX1_remember : MD := (RX1, cX1_remember, 1, none, 2)
theorem okX1_remember : OkV yX1_remember mX1_remember 0 := ⟨⟨gw_mem 165 (by decide +kernel) (by decide +kernel), gw_mem 40 (by decide +kernel) (by decide +kernel), by decide +kernel, by decide +kernel, pnX1, rfl⟩, gw_mem 164 (by decide +kernel) (by decide +kernel), gw_mem 0 (by decide +kernel) (by decide +kernel)⟩
abbrev mX1_possibleSets : MD := (RX1, cX1_possibleSets, 4, some .int, 3)
theorem okX1_possibleSets : OkV yX1_possibleSets mX1_possibleSets 0 := ⟨⟨gw_mem 401 (by decide +kernel) (by decide +kernel), gw_mem 40 (by decide +kernel) (by decide +kernel), by decide +kernel, by decide +kernel, pnX1, rfl⟩, gw_mem 400 (by decide +kernel) (by decide +kernel), gw_mem 1 (by decide +kernel) (by decide +kernel)⟩
abbrev mX1_agreesWithSeen : MD := (RX1, cX1_agreesWithSeen, 3, some .boolean, 2)
theorem okX1_agreesWithSeen : OkV yX1_agreesWithSeen mX1_agreesWithSeen 1 := ⟨⟨gw_mem 405 (by decide +kernel) (by decide +kernel), gw_mem 40 (by decide +kernel) (by decide +kernel), by decide +kernel, by decide +kernel, pnX1, rfl⟩, gw_mem 404 (by decide +kernel) (by decide +kernel), gw_mem 2 (by decide +kernel) (by decide +kernel)⟩
abbrev mX1_mostAlike : MD := (RX1, cX1_mostAlike, 7, some .int, 2)
theorem okX1_mostAlike : OkV yX1_mostAlike mX1_mostAlike 2 := ⟨⟨gw_mem 414 (by decide +kernel) (by decide +kernel), gw_mem 40 (by decide +kernel) (by decide +kernel), by decide +kernel, by decide +kernel, pnX1, rfl⟩, gw_mem 413 (by decide +kernel) (by decide +kernel), gw_mem 3 (by decide +kernel) (by decide +kernel)⟩
abbrev mX1_numberAt : MD := (RX1, cX1_numberAt, 4, some .int, 0)
theorem okX1_numberAt : OkS yX1_numberAt mX1_numberAt 2 := ⟨⟨gw_mem 355 (by decide +kernel) (by decide +kernel), gw_mem 40 (by decide +kernel) (by decide +kernel), by decide +kernel, by decide +kernel, pnX1, rfl⟩, gw_mem 354 (by decide +kernel) (by decide +kernel)⟩
abbrev mX2_in : MD := (RX2, cX2_in, 3, some .boolean, 0)
theorem okX2_in : OkS yX2_in mX2_in 3 := ⟨⟨gw_mem 495 (by decide +kernel) (by decide +kernel), gw_mem 43 (by decide +kernel) (by decide +kernel), by decide +kernel, by decide +kernel, pnX2, rfl⟩, gw_mem 494 (by decide +kernel) (by decide +kernel)⟩
abbrev mX2_has : MD := (RX2, cX2_has, 2, some .boolean, 0)
theorem okX2_has : OkS yX2_has mX2_has 2 := ⟨⟨gw_mem 552 (by decide +kernel) (by decide +kernel), gw_mem 43 (by decide +kernel) (by decide +kernel), by decide +kernel, by decide +kernel, pnX2, rfl⟩, gw_mem 551 (by decide +kernel) (by decide +kernel)⟩
abbrev mX2_bits : MD := (RX2, cX2_bits, 3, some .int, 1)
theorem okX2_bits : OkS yX2_bits mX2_bits 1 := ⟨⟨gw_mem 574 (by decide +kernel) (by decide +kernel), gw_mem 43 (by decide +kernel) (by decide +kernel), by decide +kernel, by decide +kernel, pnX2, rfl⟩, gw_mem 573 (by decide +kernel) (by decide +kernel)⟩
abbrev mX2_start : MD := (RX2, cX2_start, 4, none, 0)
theorem okX2_start : OkV yX2_start mX2_start 2 := ⟨⟨gw_mem 456 (by decide +kernel) (by decide +kernel), gw_mem 43 (by decide +kernel) (by decide +kernel), by decide +kernel, by decide +kernel, pnX2, rfl⟩, gw_mem 455 (by decide +kernel) (by decide +kernel), gw_mem 4 (by decide +kernel) (by decide +kernel)⟩
abbrev mX2_many : MD := (RX2, cX2_many, 1, some .int, 0)
theorem okX2_many : OkV yX2_many mX2_many 0 := ⟨⟨gw_mem 511 (by decide +kernel) (by decide +kernel), gw_mem 43 (by decide +kernel) (by decide +kernel), by decide +kernel, by decide +kernel, pnX2, rfl⟩, gw_mem 510 (by decide +kernel) (by decide +kernel), gw_mem 7 (by decide +kernel) (by decide +kernel)⟩
abbrev mX2_isSite : MD := (RX2, cX2_isSite, 2, some .boolean, 1)
theorem okX2_isSite : OkV yX2_isSite mX2_isSite 1 := ⟨⟨gw_mem 507 (by decide +kernel) (by decide +kernel), gw_mem 43 (by decide +kernel) (by decide +kernel), by decide +kernel, by decide +kernel, pnX2, rfl⟩, gw_mem 506 (by decide +kernel) (by decide +kernel), gw_mem 6 (by decide +kernel) (by decide +kernel)⟩
abbrev mX2_isDown : MD := (RX2, cX2_isDown, 2, some .boolean, 1)
theorem okX2_isDown : OkV yX2_isDown mX2_isDown 1 := ⟨⟨gw_mem 549 (by decide +kernel) (by decide +kernel), gw_mem 43 (by decide +kernel) (by decide +kernel), by decide +kernel, by decide +kernel, pnX2, rfl⟩, gw_mem 548 (by decide +kernel) (by decide +kernel), gw_mem 14 (by decide +kernel) (by decide +kernel)⟩
abbrev mX2_receipts : MD := (RX2, cX2_receipts, 2, some .int, 0)
theorem okX2_receipts : OkV yX2_receipts mX2_receipts 1 := ⟨⟨gw_mem 541 (by decide +kernel) (by decide +kernel), gw_mem 43 (by decide +kernel) (by decide +kernel), by decide +kernel, by decide +kernel, pnX2, rfl⟩, gw_mem 540 (by decide +kernel) (by decide +kernel), gw_mem 12 (by decide +kernel) (by decide +kernel)⟩
abbrev mX2_ofReceipt : MD := (RX2, cX2_ofReceipt, 4, some .int, 0)
theorem okX2_ofReceipt : OkV yX2_ofReceipt mX2_ofReceipt 3 := ⟨⟨gw_mem 545 (by decide +kernel) (by decide +kernel), gw_mem 43 (by decide +kernel) (by decide +kernel), by decide +kernel, by decide +kernel, pnX2, rfl⟩, gw_mem 544 (by decide +kernel) (by decide +kernel), gw_mem 13 (by decide +kernel) (by decide +kernel)⟩
abbrev mX2_stateOf : MD := (RX2, cX2_stateOf, 2, some .int, 1)
theorem okX2_stateOf : OkV yX2_stateOf mX2_stateOf 1 := ⟨⟨gw_mem 556 (by decide +kernel) (by decide +kernel), gw_mem 43 (by decide +kernel) (by decide +kernel), by decide +kernel, by decide +kernel, pnX2, rfl⟩, gw_mem 555 (by decide +kernel) (by decide +kernel), gw_mem 15 (by decide +kernel) (by decide +kernel)⟩
abbrev mX2_way : MD := (RX2, cX2_way, 2, some .int, 0)
theorem okX2_way : OkS yX2_way mX2_way 2 := ⟨⟨gw_mem 518 (by decide +kernel) (by decide +kernel), gw_mem 43 (by decide +kernel) (by decide +kernel), by decide +kernel, by decide +kernel, pnX2, rfl⟩, gw_mem 517 (by decide +kernel) (by decide +kernel)⟩
abbrev mX2_letters : MD := (RX2, cX2_letters, 3, some .int, 1)
theorem okX2_letters : OkV yX2_letters mX2_letters 2 := ⟨⟨gw_mem 515 (by decide +kernel) (by decide +kernel), gw_mem 43 (by decide +kernel) (by decide +kernel), by decide +kernel, by decide +kernel, pnX2, rfl⟩, gw_mem 514 (by decide +kernel) (by decide +kernel), gw_mem 8 (by decide +kernel) (by decide +kernel)⟩
abbrev mX2_letterAt : MD := (RX2, cX2_letterAt, 3, some .int, 1)
theorem okX2_letterAt : OkS yX2_letterAt mX2_letterAt 3 := ⟨⟨gw_mem 525 (by decide +kernel) (by decide +kernel), gw_mem 43 (by decide +kernel) (by decide +kernel), by decide +kernel, by decide +kernel, pnX2, rfl⟩, gw_mem 524 (by decide +kernel) (by decide +kernel)⟩
abbrev mX2_knownIn : MD := (RX2, cX2_knownIn, 2, some .int, 0)
theorem okX2_knownIn : OkS yX2_knownIn mX2_knownIn 2 := ⟨⟨gw_mem 567 (by decide +kernel) (by decide +kernel), gw_mem 43 (by decide +kernel) (by decide +kernel), by decide +kernel, by decide +kernel, pnX2, rfl⟩, gw_mem 566 (by decide +kernel) (by decide +kernel)⟩
abbrev mX2_knownBy : MD := (RX2, cX2_knownBy, 3, some .int, 1)
theorem okX2_knownBy : OkV yX2_knownBy mX2_knownBy 2 := ⟨⟨gw_mem 564 (by decide +kernel) (by decide +kernel), gw_mem 43 (by decide +kernel) (by decide +kernel), by decide +kernel, by decide +kernel, pnX2, rfl⟩, gw_mem 563 (by decide +kernel) (by decide +kernel), gw_mem 17 (by decide +kernel) (by decide +kernel)⟩
abbrev mX2_know : MD := (RX2, cX2_know, 6, none, 0)
theorem okX2_know : OkV yX2_know mX2_know 3 := ⟨⟨gw_mem 560 (by decide +kernel) (by decide +kernel), gw_mem 43 (by decide +kernel) (by decide +kernel), by decide +kernel, by decide +kernel, pnX2, rfl⟩, gw_mem 559 (by decide +kernel) (by decide +kernel), gw_mem 16 (by decide +kernel) (by decide +kernel)⟩
abbrev mX2_write : MD := (RX2, cX2_write, 8, none, 2)
theorem okX2_write : OkV yX2_write mX2_write 5 := ⟨⟨gw_mem 522 (by decide +kernel) (by decide +kernel), gw_mem 43 (by decide +kernel) (by decide +kernel), by decide +kernel, by decide +kernel, pnX2, rfl⟩, gw_mem 521 (by decide +kernel) (by decide +kernel), gw_mem 9 (by decide +kernel) (by decide +kernel)⟩
abbrev mX2_had : MD := (RX2, cX2_had, 5, some .int, 1)
theorem okX2_had : OkV yX2_had mX2_had 2 := ⟨⟨gw_mem 537 (by decide +kernel) (by decide +kernel), gw_mem 43 (by decide +kernel) (by decide +kernel), by decide +kernel, by decide +kernel, pnX2, rfl⟩, gw_mem 536 (by decide +kernel) (by decide +kernel), gw_mem 11 (by decide +kernel) (by decide +kernel)⟩
abbrev mX2_note : MD := (RX2, cX2_note, 2, none, 0)
theorem okX2_note : OkV yX2_note mX2_note 0 := ⟨⟨gw_mem 499 (by decide +kernel) (by decide +kernel), gw_mem 43 (by decide +kernel) (by decide +kernel), by decide +kernel, by decide +kernel, pnX2, rfl⟩, gw_mem 498 (by decide +kernel) (by decide +kernel), gw_mem 5 (by decide +kernel) (by decide +kernel)⟩
abbrev mX2_begins : MD := (RX2, cX2_begins, 3, some .int, 1)
theorem okX2_begins : OkV yX2_begins mX2_begins 2 := ⟨⟨gw_mem 492 (by decide +kernel) (by decide +kernel), gw_mem 43 (by decide +kernel) (by decide +kernel), by decide +kernel, by decide +kernel, pnX2, rfl⟩, gw_mem 490 (by decide +kernel) (by decide +kernel), gw_mem 491 (by decide +kernel) (by decide +kernel)⟩
abbrev mX2_puts : MD := (RX2, cX2_puts, 4, some .int, 3)
theorem okX2_puts : OkV yX2_puts mX2_puts 2 := ⟨⟨gw_mem 503 (by decide +kernel) (by decide +kernel), gw_mem 43 (by decide +kernel) (by decide +kernel), by decide +kernel, by decide +kernel, pnX2, rfl⟩, gw_mem 501 (by decide +kernel) (by decide +kernel), gw_mem 502 (by decide +kernel) (by decide +kernel)⟩
abbrev mX2_isWay : MD := (RX2, cX2_isWay, 3, some .boolean, 2)
theorem okX2_isWay : OkV yX2_isWay mX2_isWay 2 := ⟨⟨gw_mem 533 (by decide +kernel) (by decide +kernel), gw_mem 43 (by decide +kernel) (by decide +kernel), by decide +kernel, by decide +kernel, pnX2, rfl⟩, gw_mem 532 (by decide +kernel) (by decide +kernel), gw_mem 10 (by decide +kernel) (by decide +kernel)⟩
abbrev mX2_receives : MD := (RX2, cX2_receives, 10, some .int, 4)
theorem okX2_receives : OkV yX2_receives mX2_receives 2 := ⟨⟨gw_mem 529 (by decide +kernel) (by decide +kernel), gw_mem 43 (by decide +kernel) (by decide +kernel), by decide +kernel, by decide +kernel, pnX2, rfl⟩, gw_mem 527 (by decide +kernel) (by decide +kernel), gw_mem 528 (by decide +kernel) (by decide +kernel)⟩
abbrev mX2_answer : MD := (RX2, cX2_answer, 7, none, 3)
theorem okX2_answer : OkV yX2_answer mX2_answer 3 := ⟨⟨gw_mem 571 (by decide +kernel) (by decide +kernel), gw_mem 43 (by decide +kernel) (by decide +kernel), by decide +kernel, by decide +kernel, pnX2, rfl⟩, gw_mem 570 (by decide +kernel) (by decide +kernel), gw_mem 18 (by decide +kernel) (by decide +kernel)⟩
abbrev mX2_crashes : MD := (RX2, cX2_crashes, 3, some .int, 2)
theorem okX2_crashes : OkV yX2_crashes mX2_crashes 1 := ⟨⟨gw_mem 578 (by decide +kernel) (by decide +kernel), gw_mem 43 (by decide +kernel) (by decide +kernel), by decide +kernel, by decide +kernel, pnX2, rfl⟩, gw_mem 576 (by decide +kernel) (by decide +kernel), gw_mem 577 (by decide +kernel) (by decide +kernel)⟩
abbrev mX2_heldBut : MD := (RX2, cX2_heldBut, 4, some .int, 1)
theorem okX2_heldBut : OkV yX2_heldBut mX2_heldBut 1 := ⟨⟨gw_mem 590 (by decide +kernel) (by decide +kernel), gw_mem 43 (by decide +kernel) (by decide +kernel), by decide +kernel, by decide +kernel, pnX2, rfl⟩, gw_mem 589 (by decide +kernel) (by decide +kernel), gw_mem 20 (by decide +kernel) (by decide +kernel)⟩
abbrev mX2_isKeptCode : MD := (RX2, cX2_isKeptCode, 2, some .boolean, 0)
theorem okX2_isKeptCode : OkV yX2_isKeptCode mX2_isKeptCode 1 := ⟨⟨gw_mem 598 (by decide +kernel) (by decide +kernel), gw_mem 43 (by decide +kernel) (by decide +kernel), by decide +kernel, by decide +kernel, pnX2, rfl⟩, gw_mem 597 (by decide +kernel) (by decide +kernel), gw_mem 22 (by decide +kernel) (by decide +kernel)⟩
abbrev mX2_birthOf : MD := (RX2, cX2_birthOf, 4, some .int, 2)
theorem okX2_birthOf : OkV yX2_birthOf mX2_birthOf 2 := ⟨⟨gw_mem 594 (by decide +kernel) (by decide +kernel), gw_mem 43 (by decide +kernel) (by decide +kernel), by decide +kernel, by decide +kernel, pnX2, rfl⟩, gw_mem 593 (by decide +kernel) (by decide +kernel), gw_mem 21 (by decide +kernel) (by decide +kernel)⟩
abbrev mX2_findKept : MD := (RX2, cX2_findKept, 6, none, 3)
theorem okX2_findKept : OkV yX2_findKept mX2_findKept 1 := ⟨⟨gw_mem 586 (by decide +kernel) (by decide +kernel), gw_mem 43 (by decide +kernel) (by decide +kernel), by decide +kernel, by decide +kernel, pnX2, rfl⟩, gw_mem 585 (by decide +kernel) (by decide +kernel), gw_mem 19 (by decide +kernel) (by decide +kernel)⟩
abbrev mX2_lost : MD := (RX2, cX2_lost, 3, some .int, 1)
theorem okX2_lost : OkV yX2_lost mX2_lost 0 := ⟨⟨gw_mem 602 (by decide +kernel) (by decide +kernel), gw_mem 43 (by decide +kernel) (by decide +kernel), by decide +kernel, by decide +kernel, pnX2, rfl⟩, gw_mem 601 (by decide +kernel) (by decide +kernel), gw_mem 23 (by decide +kernel) (by decide +kernel)⟩
abbrev mX2_orphans : MD := (RX2, cX2_orphans, 4, some .int, 1)
theorem okX2_orphans : OkV yX2_orphans mX2_orphans 1 := ⟨⟨gw_mem 673 (by decide +kernel) (by decide +kernel), gw_mem 43 (by decide +kernel) (by decide +kernel), by decide +kernel, by decide +kernel, pnX2, rfl⟩, gw_mem 672 (by decide +kernel) (by decide +kernel), gw_mem 32 (by decide +kernel) (by decide +kernel)⟩
abbrev mX2_codesKept : MD := (RX2, cX2_codesKept, 4, some .int, 1)
theorem okX2_codesKept : OkV yX2_codesKept mX2_codesKept 0 := ⟨⟨gw_mem 606 (by decide +kernel) (by decide +kernel), gw_mem 43 (by decide +kernel) (by decide +kernel), by decide +kernel, by decide +kernel, pnX2, rfl⟩, gw_mem 605 (by decide +kernel) (by decide +kernel), gw_mem 24 (by decide +kernel) (by decide +kernel)⟩
abbrev mX2_dropLetters : MD := (RX2, cX2_dropLetters, 5, none, 2)
theorem okX2_dropLetters : OkV yX2_dropLetters mX2_dropLetters 1 := ⟨⟨gw_mem 610 (by decide +kernel) (by decide +kernel), gw_mem 43 (by decide +kernel) (by decide +kernel), by decide +kernel, by decide +kernel, pnX2, rfl⟩, gw_mem 609 (by decide +kernel) (by decide +kernel), gw_mem 25 (by decide +kernel) (by decide +kernel)⟩
abbrev mX2_raises : MD := (RX2, cX2_raises, 7, some .int, 4)
theorem okX2_raises : OkV yX2_raises mX2_raises 0 := ⟨⟨gw_mem 582 (by decide +kernel) (by decide +kernel), gw_mem 43 (by decide +kernel) (by decide +kernel), by decide +kernel, by decide +kernel, pnX2, rfl⟩, gw_mem 580 (by decide +kernel) (by decide +kernel), gw_mem 581 (by decide +kernel) (by decide +kernel)⟩
abbrev mX2_raiseAll : MD := (RX2, cX2_raiseAll, 6, none, 1)
theorem okX2_raiseAll : OkV yX2_raiseAll mX2_raiseAll 2 := ⟨⟨gw_mem 614 (by decide +kernel) (by decide +kernel), gw_mem 43 (by decide +kernel) (by decide +kernel), by decide +kernel, by decide +kernel, pnX2, rfl⟩, gw_mem 613 (by decide +kernel) (by decide +kernel), gw_mem 26 (by decide +kernel) (by decide +kernel)⟩
abbrev mX2_undo : MD := (RX2, cX2_undo, 2, some .int, 0)
theorem okX2_undo : OkV yX2_undo mX2_undo 0 := ⟨⟨gw_mem 618 (by decide +kernel) (by decide +kernel), gw_mem 43 (by decide +kernel) (by decide +kernel), by decide +kernel, by decide +kernel, pnX2, rfl⟩, gw_mem 616 (by decide +kernel) (by decide +kernel), gw_mem 617 (by decide +kernel) (by decide +kernel)⟩
abbrev mX2_written : MD := (RX2, cX2_written, 4, some .int, 2)
theorem okX2_written : OkV yX2_written mX2_written 1 := ⟨⟨gw_mem 626 (by decide +kernel) (by decide +kernel), gw_mem 43 (by decide +kernel) (by decide +kernel), by decide +kernel, by decide +kernel, pnX2, rfl⟩, gw_mem 625 (by decide +kernel) (by decide +kernel), gw_mem 27 (by decide +kernel) (by decide +kernel)⟩
abbrev mX2_site : MD := (RX2, cX2_site, 3, some .int, 3)
theorem okX2_site : OkV yX2_site mX2_site 2 := ⟨⟨gw_mem 622 (by decide +kernel) (by decide +kernel), gw_mem 43 (by decide +kernel) (by decide +kernel), by decide +kernel, by decide +kernel, pnX2, rfl⟩, gw_mem 620 (by decide +kernel) (by decide +kernel), gw_mem 621 (by decide +kernel) (by decide +kernel)⟩
abbrev mX2_holders : MD := (RX2, cX2_holders, 4, some .int, 1)
theorem okX2_holders : OkV yX2_holders mX2_holders 1 := ⟨⟨gw_mem 638 (by decide +kernel) (by decide +kernel), gw_mem 43 (by decide +kernel) (by decide +kernel), by decide +kernel, by decide +kernel, pnX2, rfl⟩, gw_mem 637 (by decide +kernel) (by decide +kernel), gw_mem 29 (by decide +kernel) (by decide +kernel)⟩
abbrev mX2_isSafe : MD := (RX2, cX2_isSafe, 3, some .boolean, 2)
theorem okX2_isSafe : OkV yX2_isSafe mX2_isSafe 2 := ⟨⟨gw_mem 642 (by decide +kernel) (by decide +kernel), gw_mem 43 (by decide +kernel) (by decide +kernel), by decide +kernel, by decide +kernel, pnX2, rfl⟩, gw_mem 641 (by decide +kernel) (by decide +kernel), gw_mem 30 (by decide +kernel) (by decide +kernel)⟩
abbrev mX2_pastOf : MD := (RX2, cX2_pastOf, 8, some .int, 3)
theorem okX2_pastOf : OkV yX2_pastOf mX2_pastOf 2 := ⟨⟨gw_mem 646 (by decide +kernel) (by decide +kernel), gw_mem 43 (by decide +kernel) (by decide +kernel), by decide +kernel, by decide +kernel, pnX2, rfl⟩, gw_mem 645 (by decide +kernel) (by decide +kernel), gw_mem 31 (by decide +kernel) (by decide +kernel)⟩
abbrev mX2_isReceipt : MD := (RX2, cX2_isReceipt, 3, some .boolean, 2)
theorem okX2_isReceipt : OkV yX2_isReceipt mX2_isReceipt 2 := ⟨⟨gw_mem 634 (by decide +kernel) (by decide +kernel), gw_mem 43 (by decide +kernel) (by decide +kernel), by decide +kernel, by decide +kernel, pnX2, rfl⟩, gw_mem 633 (by decide +kernel) (by decide +kernel), gw_mem 28 (by decide +kernel) (by decide +kernel)⟩
abbrev mX2_receipt : MD := (RX2, cX2_receipt, 4, some .int, 4)
theorem okX2_receipt : OkV yX2_receipt mX2_receipt 3 := ⟨⟨gw_mem 630 (by decide +kernel) (by decide +kernel), gw_mem 43 (by decide +kernel) (by decide +kernel), by decide +kernel, by decide +kernel, pnX2, rfl⟩, gw_mem 628 (by decide +kernel) (by decide +kernel), gw_mem 629 (by decide +kernel) (by decide +kernel)⟩
abbrev mX2_letter : MD := (RX2, cX2_letter, 6, some .int, 3)
theorem okX2_letter : OkV yX2_letter mX2_letter 4 := ⟨⟨gw_mem 650 (by decide +kernel) (by decide +kernel), gw_mem 43 (by decide +kernel) (by decide +kernel), by decide +kernel, by decide +kernel, pnX2, rfl⟩, gw_mem 648 (by decide +kernel) (by decide +kernel), gw_mem 649 (by decide +kernel) (by decide +kernel)⟩
abbrev mX2_nth : MD := (RX2, cX2_nth, 4, some .int, 1)
theorem okX2_nth : OkS yX2_nth mX2_nth 2 := ⟨⟨gw_mem 657 (by decide +kernel) (by decide +kernel), gw_mem 43 (by decide +kernel) (by decide +kernel), by decide +kernel, by decide +kernel, pnX2, rfl⟩, gw_mem 656 (by decide +kernel) (by decide +kernel)⟩
abbrev mX2_carries : MD := (RX2, cX2_carries, 5, some .int, 3)
theorem okX2_carries : OkV yX2_carries mX2_carries 4 := ⟨⟨gw_mem 654 (by decide +kernel) (by decide +kernel), gw_mem 43 (by decide +kernel) (by decide +kernel), by decide +kernel, by decide +kernel, pnX2, rfl⟩, gw_mem 652 (by decide +kernel) (by decide +kernel), gw_mem 653 (by decide +kernel) (by decide +kernel)⟩
abbrev mX2_knows : MD := (RX2, cX2_knows, 3, some .int, 2)
theorem okX2_knows : OkV yX2_knows mX2_knows 2 := ⟨⟨gw_mem 661 (by decide +kernel) (by decide +kernel), gw_mem 43 (by decide +kernel) (by decide +kernel), by decide +kernel, by decide +kernel, pnX2, rfl⟩, gw_mem 659 (by decide +kernel) (by decide +kernel), gw_mem 660 (by decide +kernel) (by decide +kernel)⟩
abbrev mX2_past : MD := (RX2, cX2_past, 4, some .int, 4)
theorem okX2_past : OkV yX2_past mX2_past 3 := ⟨⟨gw_mem 665 (by decide +kernel) (by decide +kernel), gw_mem 43 (by decide +kernel) (by decide +kernel), by decide +kernel, by decide +kernel, pnX2, rfl⟩, gw_mem 663 (by decide +kernel) (by decide +kernel), gw_mem 664 (by decide +kernel) (by decide +kernel)⟩
abbrev mX2_risk : MD := (RX2, cX2_risk, 4, some .int, 4)
theorem okX2_risk : OkV yX2_risk mX2_risk 2 := ⟨⟨gw_mem 669 (by decide +kernel) (by decide +kernel), gw_mem 43 (by decide +kernel) (by decide +kernel), by decide +kernel, by decide +kernel, pnX2, rfl⟩, gw_mem 667 (by decide +kernel) (by decide +kernel), gw_mem 668 (by decide +kernel) (by decide +kernel)⟩
abbrev mX2_worst : MD := (RX2, cX2_worst, 4, some .int, 4)
theorem okX2_worst : OkV yX2_worst mX2_worst 1 := ⟨⟨gw_mem 677 (by decide +kernel) (by decide +kernel), gw_mem 43 (by decide +kernel) (by decide +kernel), by decide +kernel, by decide +kernel, pnX2, rfl⟩, gw_mem 675 (by decide +kernel) (by decide +kernel), gw_mem 676 (by decide +kernel) (by decide +kernel)⟩
abbrev mX2_sees : MD := (RX2, cX2_sees, 3, some .int, 2)
theorem okX2_sees : OkV yX2_sees mX2_sees 2 := ⟨⟨gw_mem 681 (by decide +kernel) (by decide +kernel), gw_mem 43 (by decide +kernel) (by decide +kernel), by decide +kernel, by decide +kernel, pnX2, rfl⟩, gw_mem 679 (by decide +kernel) (by decide +kernel), gw_mem 680 (by decide +kernel) (by decide +kernel)⟩
abbrev mX2_forget : MD := (RX2, cX2_forget, 2, some .int, 0)
theorem okX2_forget : OkV yX2_forget mX2_forget 0 := ⟨⟨gw_mem 685 (by decide +kernel) (by decide +kernel), gw_mem 43 (by decide +kernel) (by decide +kernel), by decide +kernel, by decide +kernel, pnX2, rfl⟩, gw_mem 683 (by decide +kernel) (by decide +kernel), gw_mem 684 (by decide +kernel) (by decide +kernel)⟩
abbrev mX2_fits : MD := (RX2, cX2_fits, 4, some .boolean, 4)
theorem okX2_fits : OkV yX2_fits mX2_fits 1 := ⟨⟨gw_mem 693 (by decide +kernel) (by decide +kernel), gw_mem 43 (by decide +kernel) (by decide +kernel), by decide +kernel, by decide +kernel, pnX2, rfl⟩, gw_mem 692 (by decide +kernel) (by decide +kernel), gw_mem 33 (by decide +kernel) (by decide +kernel)⟩
abbrev mX2_which : MD := (RX2, cX2_which, 5, some .int, 5)
theorem okX2_which : OkV yX2_which mX2_which 1 := ⟨⟨gw_mem 689 (by decide +kernel) (by decide +kernel), gw_mem 43 (by decide +kernel) (by decide +kernel), by decide +kernel, by decide +kernel, pnX2, rfl⟩, gw_mem 687 (by decide +kernel) (by decide +kernel), gw_mem 688 (by decide +kernel) (by decide +kernel)⟩
abbrev mX2_greatest : MD := (RX2, cX2_greatest, 4, some .int, 5)
theorem okX2_greatest : OkV yX2_greatest mX2_greatest 1 := ⟨⟨gw_mem 702 (by decide +kernel) (by decide +kernel), gw_mem 43 (by decide +kernel) (by decide +kernel), by decide +kernel, by decide +kernel, pnX2, rfl⟩, gw_mem 701 (by decide +kernel) (by decide +kernel), gw_mem 34 (by decide +kernel) (by decide +kernel)⟩
abbrev mX2_ask : MD := (RX2, cX2_ask, 3, some .int, 6)
theorem okX2_ask : OkV yX2_ask mX2_ask 0 := ⟨⟨gw_mem 697 (by decide +kernel) (by decide +kernel), gw_mem 43 (by decide +kernel) (by decide +kernel), by decide +kernel, by decide +kernel, pnX2, rfl⟩, gw_mem 695 (by decide +kernel) (by decide +kernel), gw_mem 696 (by decide +kernel) (by decide +kernel)⟩
abbrev mX2_allReceipts : MD := (RX2, cX2_allReceipts, 3, some .int, 1)
theorem okX2_allReceipts : OkV yX2_allReceipts mX2_allReceipts 0 := ⟨⟨gw_mem 710 (by decide +kernel) (by decide +kernel), gw_mem 43 (by decide +kernel) (by decide +kernel), by decide +kernel, by decide +kernel, pnX2, rfl⟩, gw_mem 709 (by decide +kernel) (by decide +kernel), gw_mem 35 (by decide +kernel) (by decide +kernel)⟩
abbrev mX2_keep : MD := (RX2, cX2_keep, 3, some .int, 2)
theorem okX2_keep : OkV yX2_keep mX2_keep 1 := ⟨⟨gw_mem 706 (by decide +kernel) (by decide +kernel), gw_mem 43 (by decide +kernel) (by decide +kernel), by decide +kernel, by decide +kernel, pnX2, rfl⟩, gw_mem 704 (by decide +kernel) (by decide +kernel), gw_mem 705 (by decide +kernel) (by decide +kernel)⟩
abbrev mX2_back : MD := (RX2, cX2_back, 3, some .int, 2)
theorem okX2_back : OkV yX2_back mX2_back 1 := ⟨⟨gw_mem 714 (by decide +kernel) (by decide +kernel), gw_mem 43 (by decide +kernel) (by decide +kernel), by decide +kernel, by decide +kernel, pnX2, rfl⟩, gw_mem 712 (by decide +kernel) (by decide +kernel), gw_mem 713 (by decide +kernel) (by decide +kernel)⟩
abbrev mX2_allLetters : MD := (RX2, cX2_allLetters, 3, some .int, 3)
theorem okX2_allLetters : OkV yX2_allLetters mX2_allLetters 0 := ⟨⟨gw_mem 722 (by decide +kernel) (by decide +kernel), gw_mem 43 (by decide +kernel) (by decide +kernel), by decide +kernel, by decide +kernel, pnX2, rfl⟩, gw_mem 721 (by decide +kernel) (by decide +kernel), gw_mem 36 (by decide +kernel) (by decide +kernel)⟩
abbrev mX2_allSafe : MD := (RX2, cX2_allSafe, 4, some .int, 3)
theorem okX2_allSafe : OkV yX2_allSafe mX2_allSafe 0 := ⟨⟨gw_mem 726 (by decide +kernel) (by decide +kernel), gw_mem 43 (by decide +kernel) (by decide +kernel), by decide +kernel, by decide +kernel, pnX2, rfl⟩, gw_mem 725 (by decide +kernel) (by decide +kernel), gw_mem 37 (by decide +kernel) (by decide +kernel)⟩
abbrev mX2_allCarried : MD := (RX2, cX2_allCarried, 5, some .int, 2)
theorem okX2_allCarried : OkV yX2_allCarried mX2_allCarried 0 := ⟨⟨gw_mem 730 (by decide +kernel) (by decide +kernel), gw_mem 43 (by decide +kernel) (by decide +kernel), by decide +kernel, by decide +kernel, pnX2, rfl⟩, gw_mem 729 (by decide +kernel) (by decide +kernel), gw_mem 38 (by decide +kernel) (by decide +kernel)⟩
abbrev mX2_count : MD := (RX2, cX2_count, 2, some .int, 4)
theorem okX2_count : OkV yX2_count mX2_count 1 := ⟨⟨gw_mem 718 (by decide +kernel) (by decide +kernel), gw_mem 43 (by decide +kernel) (by decide +kernel), by decide +kernel, by decide +kernel, pnX2, rfl⟩, gw_mem 716 (by decide +kernel) (by decide +kernel), gw_mem 717 (by decide +kernel) (by decide +kernel)⟩
abbrev mJ6_bitCount_0f7a4 : MD := (RJ6, cJ6_bitCount_0f7a4, 1, some .int, 0)
theorem okJ6_bitCount_0f7a4 : OkS yJ6_bitCount_0f7a4 mJ6_bitCount_0f7a4 1 := ⟨⟨gw_mem 259 (by decide +kernel) (by decide +kernel), gw_mem 46 (by decide +kernel) (by decide +kernel), by decide +kernel, by decide +kernel, pnJ6, rfl⟩, gw_mem 258 (by decide +kernel) (by decide +kernel)⟩
abbrev mJ7_fill_53178 : MD := (RJ7, cJ7_fill_53178, 4, none, 0)
theorem okJ7_fill_53178 : OkS yJ7_fill_53178 mJ7_fill_53178 2 := ⟨⟨gw_mem 67 (by decide +kernel) (by decide +kernel), gw_mem 42 (by decide +kernel) (by decide +kernel), by decide +kernel, by decide +kernel, pnJ7, rfl⟩, gw_mem 66 (by decide +kernel) (by decide +kernel)⟩
theorem lkX1_36 : Cond.methodLink RX1 36 yX1_remember ∈ gw := gw_mem 162 (by decide +kernel) (by decide +kernel)
theorem lkX1_39 : Cond.methodLink RX1 39 yX0_start ∈ gw := gw_mem 176 (by decide +kernel) (by decide +kernel)
theorem lkX1_50 : Cond.methodLink RX1 50 yX0_isSite ∈ gw := gw_mem 181 (by decide +kernel) (by decide +kernel)
theorem lkX1_57 : Cond.methodLink RX1 57 yX0_lettersOn ∈ gw := gw_mem 185 (by decide +kernel) (by decide +kernel)
theorem lkX1_61 : Cond.methodLink RX1 61 yX0_write ∈ gw := gw_mem 192 (by decide +kernel) (by decide +kernel)
theorem lkX1_65 : Cond.methodLink RX1 65 yX0_isWay ∈ gw := gw_mem 205 (by decide +kernel) (by decide +kernel)
theorem lkX1_69 : Cond.methodLink RX1 69 yX0_isDown ∈ gw := gw_mem 209 (by decide +kernel) (by decide +kernel)
theorem lkX1_72 : Cond.methodLink RX1 72 yX0_takenFrom ∈ gw := gw_mem 213 (by decide +kernel) (by decide +kernel)
theorem lkX1_78 : Cond.methodLink RX1 78 yX0_take ∈ gw := gw_mem 220 (by decide +kernel) (by decide +kernel)
theorem lkX1_81 : Cond.methodLink RX1 81 yX0_stateOf ∈ gw := gw_mem 264 (by decide +kernel) (by decide +kernel)
theorem lkX1_85 : Cond.methodLink RX1 85 yX0_crash ∈ gw := gw_mem 269 (by decide +kernel) (by decide +kernel)
theorem lkX1_92 : Cond.methodLink RX1 92 yJ6_bitCount_0f7a4 ∈ gw := gw_mem 273 (by decide +kernel) (by decide +kernel)
theorem lkX1_97 : Cond.methodLink RX1 97 yX0_raiseAll ∈ gw := gw_mem 278 (by decide +kernel) (by decide +kernel)
theorem lkX1_107 : Cond.methodLink RX1 107 yX0_become ∈ gw := gw_mem 166 (by decide +kernel) (by decide +kernel)
theorem lkX1_111 : Cond.methodLink RX1 111 yX0_heldBy ∈ gw := gw_mem 321 (by decide +kernel) (by decide +kernel)
theorem lkX1_114 : Cond.methodLink RX1 114 yX0_lettersBy ∈ gw := gw_mem 322 (by decide +kernel) (by decide +kernel)
theorem lkX1_117 : Cond.methodLink RX1 117 yX0_isReceipt ∈ gw := gw_mem 330 (by decide +kernel) (by decide +kernel)
theorem lkX1_120 : Cond.methodLink RX1 120 yX0_codeOf ∈ gw := gw_mem 334 (by decide +kernel) (by decide +kernel)
theorem lkX1_132 : Cond.methodLink RX1 132 yX0_holdersOf ∈ gw := gw_mem 335 (by decide +kernel) (by decide +kernel)
theorem lkX1_135 : Cond.methodLink RX1 135 yX0_isSafe ∈ gw := gw_mem 339 (by decide +kernel) (by decide +kernel)
theorem lkX1_141 : Cond.methodLink RX1 141 yX0_letterOn ∈ gw := gw_mem 348 (by decide +kernel) (by decide +kernel)
theorem lkX1_154 : Cond.methodLink RX1 154 yX1_numberAt ∈ gw := gw_mem 353 (by decide +kernel) (by decide +kernel)
theorem lkX1_157 : Cond.methodLink RX1 157 yX0_holdersKnown ∈ gw := gw_mem 360 (by decide +kernel) (by decide +kernel)
theorem lkX1_160 : Cond.methodLink RX1 160 yX0_allSites ∈ gw := gw_mem 369 (by decide +kernel) (by decide +kernel)
theorem lkX1_163 : Cond.methodLink RX1 163 yX0_keptIfDown ∈ gw := gw_mem 373 (by decide +kernel) (by decide +kernel)
theorem lkX1_166 : Cond.methodLink RX1 166 yX0_lostBut ∈ gw := gw_mem 374 (by decide +kernel) (by decide +kernel)
theorem lkX1_169 : Cond.methodLink RX1 169 yX0_orphansBut ∈ gw := gw_mem 375 (by decide +kernel) (by decide +kernel)
theorem lkX1_177 : Cond.methodLink RX1 177 yX1_possibleSets ∈ gw := gw_mem 398 (by decide +kernel) (by decide +kernel)
theorem lkX1_180 : Cond.methodLink RX1 180 yX1_mostAlike ∈ gw := gw_mem 411 (by decide +kernel) (by decide +kernel)
theorem lkX1_183 : Cond.methodLink RX1 183 yX0_allReceipts ∈ gw := gw_mem 420 (by decide +kernel) (by decide +kernel)
theorem lkX1_189 : Cond.methodLink RX1 189 yX0_allLetters ∈ gw := gw_mem 429 (by decide +kernel) (by decide +kernel)
theorem lkX1_192 : Cond.methodLink RX1 192 yX0_safeReceipts ∈ gw := gw_mem 434 (by decide +kernel) (by decide +kernel)
theorem lkX1_195 : Cond.methodLink RX1 195 yX0_allCarried ∈ gw := gw_mem 439 (by decide +kernel) (by decide +kernel)
theorem lkX1_201 : Cond.methodLink RX1 201 yX1_agreesWithSeen ∈ gw := gw_mem 402 (by decide +kernel) (by decide +kernel)
theorem lkX1_204 : Cond.methodLink RX1 204 yX0_receiptsIn ∈ gw := gw_mem 406 (by decide +kernel) (by decide +kernel)
theorem lkX1_207 : Cond.methodLink RX1 207 yJ7_fill_53178 ∈ gw := gw_mem 415 (by decide +kernel) (by decide +kernel)
theorem lkX0_45 : Cond.methodLink RX0 45 yX0_start ∈ gw := gw_mem 61 (by decide +kernel) (by decide +kernel)
theorem lkX0_59 : Cond.methodLink RX0 59 yJ7_fill_53178 ∈ gw := gw_mem 65 (by decide +kernel) (by decide +kernel)
theorem lkX0_71 : Cond.methodLink RX0 71 yX0_codesOf ∈ gw := gw_mem 286 (by decide +kernel) (by decide +kernel)
theorem lkX0_75 : Cond.methodLink RX0 75 yJ6_bitCount_0f7a4 ∈ gw := gw_mem 257 (by decide +kernel) (by decide +kernel)
theorem lkX0_80 : Cond.methodLink RX0 80 yX0_wayOf ∈ gw := gw_mem 189 (by decide +kernel) (by decide +kernel)
theorem lkX0_84 : Cond.methodLink RX0 84 yX0_isSite ∈ gw := gw_mem 200 (by decide +kernel) (by decide +kernel)
theorem lkX0_88 : Cond.methodLink RX0 88 yX0_codeOf ∈ gw := gw_mem 217 (by decide +kernel) (by decide +kernel)
theorem lkX0_91 : Cond.methodLink RX0 91 yX0_lettersOn ∈ gw := gw_mem 196 (by decide +kernel) (by decide +kernel)
theorem lkX0_94 : Cond.methodLink RX0 94 yX0_lettersBy ∈ gw := gw_mem 433 (by decide +kernel) (by decide +kernel)
theorem lkX0_97 : Cond.methodLink RX0 97 yX0_carriedOn ∈ gw := gw_mem 443 (by decide +kernel) (by decide +kernel)
theorem lkX0_100 : Cond.methodLink RX0 100 yX0_letterOn ∈ gw := gw_mem 197 (by decide +kernel) (by decide +kernel)
theorem lkX0_104 : Cond.methodLink RX0 104 yX0_heldBy ∈ gw := gw_mem 249 (by decide +kernel) (by decide +kernel)
theorem lkX0_107 : Cond.methodLink RX0 107 yX0_holdersOf ∈ gw := gw_mem 343 (by decide +kernel) (by decide +kernel)
theorem lkX0_110 : Cond.methodLink RX0 110 yX0_isSafe ∈ gw := gw_mem 438 (by decide +kernel) (by decide +kernel)
theorem lkX0_113 : Cond.methodLink RX0 113 yX0_holdersKnown ∈ gw := gw_mem 253 (by decide +kernel) (by decide +kernel)
theorem lkX0_116 : Cond.methodLink RX0 116 yX0_takenFrom ∈ gw := gw_mem 224 (by decide +kernel) (by decide +kernel)
theorem lkX0_119 : Cond.methodLink RX0 119 yX0_stateOf ∈ gw := gw_mem 225 (by decide +kernel) (by decide +kernel)
theorem lkX0_122 : Cond.methodLink RX0 122 yX0_pastAhead ∈ gw := gw_mem 229 (by decide +kernel) (by decide +kernel)
theorem lkX0_125 : Cond.methodLink RX0 125 yX0_pastOfBirth ∈ gw := gw_mem 233 (by decide +kernel) (by decide +kernel)
theorem lkX0_128 : Cond.methodLink RX0 128 yX0_learn ∈ gw := gw_mem 237 (by decide +kernel) (by decide +kernel)
theorem lkX0_132 : Cond.methodLink RX0 132 yX0_answer ∈ gw := gw_mem 241 (by decide +kernel) (by decide +kernel)
theorem lkX0_135 : Cond.methodLink RX0 135 yX0_unsafeFor ∈ gw := gw_mem 245 (by decide +kernel) (by decide +kernel)
theorem lkX0_138 : Cond.methodLink RX0 138 yX0_write ∈ gw := gw_mem 263 (by decide +kernel) (by decide +kernel)
theorem lkX0_142 : Cond.methodLink RX0 142 yX0_allReceipts ∈ gw := gw_mem 293 (by decide +kernel) (by decide +kernel)
theorem lkX0_146 : Cond.methodLink RX0 146 yX0_receiptsIn ∈ gw := gw_mem 297 (by decide +kernel) (by decide +kernel)
theorem lkX0_149 : Cond.methodLink RX0 149 yX0_keptIfDown ∈ gw := gw_mem 282 (by decide +kernel) (by decide +kernel)
theorem lkX0_152 : Cond.methodLink RX0 152 yX0_lostBut ∈ gw := gw_mem 289 (by decide +kernel) (by decide +kernel)
theorem lkX0_155 : Cond.methodLink RX0 155 yX0_keepLettersOn ∈ gw := gw_mem 300 (by decide +kernel) (by decide +kernel)
theorem lkX0_158 : Cond.methodLink RX0 158 yX0_tellTheRaised ∈ gw := gw_mem 304 (by decide +kernel) (by decide +kernel)
theorem lkX0_161 : Cond.methodLink RX0 161 yX0_isDown ∈ gw := gw_mem 308 (by decide +kernel) (by decide +kernel)
theorem lkX0_164 : Cond.methodLink RX0 164 yX0_learnAll ∈ gw := gw_mem 309 (by decide +kernel) (by decide +kernel)
theorem lkL_13 : Cond.methodLink RL 13 yX1_begins ∈ gw := gw_mem 158 (by decide +kernel) (by decide +kernel)
theorem lkL_17 : Cond.methodLink RL 17 yX2_begins ∈ gw := gw_mem 489 (by decide +kernel) (by decide +kernel)
theorem lkL_18 : Cond.methodLink RL 18 yX1_puts ∈ gw := gw_mem 177 (by decide +kernel) (by decide +kernel)
theorem lkL_21 : Cond.methodLink RL 21 yX2_puts ∈ gw := gw_mem 500 (by decide +kernel) (by decide +kernel)
theorem lkL_22 : Cond.methodLink RL 22 yX1_receives ∈ gw := gw_mem 201 (by decide +kernel) (by decide +kernel)
theorem lkL_25 : Cond.methodLink RL 25 yX2_receives ∈ gw := gw_mem 526 (by decide +kernel) (by decide +kernel)
theorem lkL_26 : Cond.methodLink RL 26 yX1_crashes ∈ gw := gw_mem 265 (by decide +kernel) (by decide +kernel)
theorem lkL_30 : Cond.methodLink RL 30 yX2_crashes ∈ gw := gw_mem 575 (by decide +kernel) (by decide +kernel)
theorem lkL_31 : Cond.methodLink RL 31 yX1_raises ∈ gw := gw_mem 274 (by decide +kernel) (by decide +kernel)
theorem lkL_35 : Cond.methodLink RL 35 yX2_raises ∈ gw := gw_mem 579 (by decide +kernel) (by decide +kernel)
theorem lkL_36 : Cond.methodLink RL 36 yX1_undo ∈ gw := gw_mem 313 (by decide +kernel) (by decide +kernel)
theorem lkL_39 : Cond.methodLink RL 39 yX2_undo ∈ gw := gw_mem 615 (by decide +kernel) (by decide +kernel)
theorem lkL_40 : Cond.methodLink RL 40 yX1_site ∈ gw := gw_mem 317 (by decide +kernel) (by decide +kernel)
theorem lkL_43 : Cond.methodLink RL 43 yX2_site ∈ gw := gw_mem 619 (by decide +kernel) (by decide +kernel)
theorem lkL_44 : Cond.methodLink RL 44 yX1_receipt ∈ gw := gw_mem 326 (by decide +kernel) (by decide +kernel)
theorem lkL_48 : Cond.methodLink RL 48 yX2_receipt ∈ gw := gw_mem 627 (by decide +kernel) (by decide +kernel)
theorem lkL_49 : Cond.methodLink RL 49 yX1_letter ∈ gw := gw_mem 344 (by decide +kernel) (by decide +kernel)
theorem lkL_53 : Cond.methodLink RL 53 yX2_letter ∈ gw := gw_mem 647 (by decide +kernel) (by decide +kernel)
theorem lkL_54 : Cond.methodLink RL 54 yX1_carries ∈ gw := gw_mem 349 (by decide +kernel) (by decide +kernel)
theorem lkL_57 : Cond.methodLink RL 57 yX2_carries ∈ gw := gw_mem 651 (by decide +kernel) (by decide +kernel)
theorem lkL_58 : Cond.methodLink RL 58 yX1_knows ∈ gw := gw_mem 356 (by decide +kernel) (by decide +kernel)
theorem lkL_61 : Cond.methodLink RL 61 yX2_knows ∈ gw := gw_mem 658 (by decide +kernel) (by decide +kernel)
theorem lkL_62 : Cond.methodLink RL 62 yX1_past ∈ gw := gw_mem 361 (by decide +kernel) (by decide +kernel)
theorem lkL_65 : Cond.methodLink RL 65 yX2_past ∈ gw := gw_mem 662 (by decide +kernel) (by decide +kernel)
theorem lkL_66 : Cond.methodLink RL 66 yX1_risk ∈ gw := gw_mem 365 (by decide +kernel) (by decide +kernel)
theorem lkL_69 : Cond.methodLink RL 69 yX2_risk ∈ gw := gw_mem 666 (by decide +kernel) (by decide +kernel)
theorem lkL_70 : Cond.methodLink RL 70 yX1_worst ∈ gw := gw_mem 379 (by decide +kernel) (by decide +kernel)
theorem lkL_73 : Cond.methodLink RL 73 yX2_worst ∈ gw := gw_mem 674 (by decide +kernel) (by decide +kernel)
theorem lkL_74 : Cond.methodLink RL 74 yX1_sees ∈ gw := gw_mem 386 (by decide +kernel) (by decide +kernel)
theorem lkL_77 : Cond.methodLink RL 77 yX2_sees ∈ gw := gw_mem 678 (by decide +kernel) (by decide +kernel)
theorem lkL_78 : Cond.methodLink RL 78 yX1_forget ∈ gw := gw_mem 390 (by decide +kernel) (by decide +kernel)
theorem lkL_81 : Cond.methodLink RL 81 yX2_forget ∈ gw := gw_mem 682 (by decide +kernel) (by decide +kernel)
theorem lkL_82 : Cond.methodLink RL 82 yX1_which ∈ gw := gw_mem 394 (by decide +kernel) (by decide +kernel)
theorem lkL_85 : Cond.methodLink RL 85 yX2_which ∈ gw := gw_mem 686 (by decide +kernel) (by decide +kernel)
theorem lkL_86 : Cond.methodLink RL 86 yX1_ask ∈ gw := gw_mem 407 (by decide +kernel) (by decide +kernel)
theorem lkL_89 : Cond.methodLink RL 89 yX2_ask ∈ gw := gw_mem 694 (by decide +kernel) (by decide +kernel)
theorem lkL_90 : Cond.methodLink RL 90 yX1_keep ∈ gw := gw_mem 416 (by decide +kernel) (by decide +kernel)
theorem lkL_93 : Cond.methodLink RL 93 yX2_keep ∈ gw := gw_mem 703 (by decide +kernel) (by decide +kernel)
theorem lkL_94 : Cond.methodLink RL 94 yX1_back ∈ gw := gw_mem 421 (by decide +kernel) (by decide +kernel)
theorem lkL_97 : Cond.methodLink RL 97 yX2_back ∈ gw := gw_mem 711 (by decide +kernel) (by decide +kernel)
theorem lkL_98 : Cond.methodLink RL 98 yX1_count ∈ gw := gw_mem 425 (by decide +kernel) (by decide +kernel)
theorem lkL_101 : Cond.methodLink RL 101 yX2_count ∈ gw := gw_mem 715 (by decide +kernel) (by decide +kernel)
theorem lkX2_35 : Cond.methodLink RX2 35 yX2_start ∈ gw := gw_mem 453 (by decide +kernel) (by decide +kernel)
theorem lkX2_39 : Cond.methodLink RX2 39 yX2_has ∈ gw := gw_mem 550 (by decide +kernel) (by decide +kernel)
theorem lkX2_43 : Cond.methodLink RX2 43 yX2_in ∈ gw := gw_mem 493 (by decide +kernel) (by decide +kernel)
theorem lkX2_47 : Cond.methodLink RX2 47 yX2_receipts ∈ gw := gw_mem 538 (by decide +kernel) (by decide +kernel)
theorem lkX2_51 : Cond.methodLink RX2 51 yX2_ofReceipt ∈ gw := gw_mem 542 (by decide +kernel) (by decide +kernel)
theorem lkX2_55 : Cond.methodLink RX2 55 yX2_way ∈ gw := gw_mem 516 (by decide +kernel) (by decide +kernel)
theorem lkX2_59 : Cond.methodLink RX2 59 yX2_knownIn ∈ gw := gw_mem 565 (by decide +kernel) (by decide +kernel)
theorem lkX2_62 : Cond.methodLink RX2 62 yX2_letters ∈ gw := gw_mem 512 (by decide +kernel) (by decide +kernel)
theorem lkX2_65 : Cond.methodLink RX2 65 yX2_letterAt ∈ gw := gw_mem 523 (by decide +kernel) (by decide +kernel)
theorem lkX2_72 : Cond.methodLink RX2 72 yX2_note ∈ gw := gw_mem 496 (by decide +kernel) (by decide +kernel)
theorem lkX2_78 : Cond.methodLink RX2 78 yX2_isSite ∈ gw := gw_mem 504 (by decide +kernel) (by decide +kernel)
theorem lkX2_82 : Cond.methodLink RX2 82 yX2_many ∈ gw := gw_mem 508 (by decide +kernel) (by decide +kernel)
theorem lkX2_86 : Cond.methodLink RX2 86 yX2_write ∈ gw := gw_mem 519 (by decide +kernel) (by decide +kernel)
theorem lkX2_90 : Cond.methodLink RX2 90 yX2_isWay ∈ gw := gw_mem 530 (by decide +kernel) (by decide +kernel)
theorem lkX2_93 : Cond.methodLink RX2 93 yX2_had ∈ gw := gw_mem 534 (by decide +kernel) (by decide +kernel)
theorem lkX2_96 : Cond.methodLink RX2 96 yX2_isDown ∈ gw := gw_mem 546 (by decide +kernel) (by decide +kernel)
theorem lkX2_99 : Cond.methodLink RX2 99 yX2_stateOf ∈ gw := gw_mem 553 (by decide +kernel) (by decide +kernel)
theorem lkX2_102 : Cond.methodLink RX2 102 yX2_know ∈ gw := gw_mem 557 (by decide +kernel) (by decide +kernel)
theorem lkX2_106 : Cond.methodLink RX2 106 yX2_knownBy ∈ gw := gw_mem 561 (by decide +kernel) (by decide +kernel)
theorem lkX2_109 : Cond.methodLink RX2 109 yX2_answer ∈ gw := gw_mem 568 (by decide +kernel) (by decide +kernel)
theorem lkX2_112 : Cond.methodLink RX2 112 yX2_bits ∈ gw := gw_mem 572 (by decide +kernel) (by decide +kernel)
theorem lkX2_115 : Cond.methodLink RX2 115 yX2_heldBut ∈ gw := gw_mem 587 (by decide +kernel) (by decide +kernel)
theorem lkX2_118 : Cond.methodLink RX2 118 yX2_birthOf ∈ gw := gw_mem 591 (by decide +kernel) (by decide +kernel)
theorem lkX2_121 : Cond.methodLink RX2 121 yX2_isKeptCode ∈ gw := gw_mem 595 (by decide +kernel) (by decide +kernel)
theorem lkX2_124 : Cond.methodLink RX2 124 yX2_findKept ∈ gw := gw_mem 583 (by decide +kernel) (by decide +kernel)
theorem lkX2_128 : Cond.methodLink RX2 128 yX2_lost ∈ gw := gw_mem 599 (by decide +kernel) (by decide +kernel)
theorem lkX2_131 : Cond.methodLink RX2 131 yX2_codesKept ∈ gw := gw_mem 603 (by decide +kernel) (by decide +kernel)
theorem lkX2_134 : Cond.methodLink RX2 134 yX2_dropLetters ∈ gw := gw_mem 607 (by decide +kernel) (by decide +kernel)
theorem lkX2_137 : Cond.methodLink RX2 137 yX2_raiseAll ∈ gw := gw_mem 611 (by decide +kernel) (by decide +kernel)
theorem lkX2_140 : Cond.methodLink RX2 140 yX2_written ∈ gw := gw_mem 623 (by decide +kernel) (by decide +kernel)
theorem lkX2_143 : Cond.methodLink RX2 143 yX2_holders ∈ gw := gw_mem 635 (by decide +kernel) (by decide +kernel)
theorem lkX2_146 : Cond.methodLink RX2 146 yX2_isReceipt ∈ gw := gw_mem 631 (by decide +kernel) (by decide +kernel)
theorem lkX2_149 : Cond.methodLink RX2 149 yX2_isSafe ∈ gw := gw_mem 639 (by decide +kernel) (by decide +kernel)
theorem lkX2_152 : Cond.methodLink RX2 152 yX2_pastOf ∈ gw := gw_mem 643 (by decide +kernel) (by decide +kernel)
theorem lkX2_155 : Cond.methodLink RX2 155 yX2_nth ∈ gw := gw_mem 655 (by decide +kernel) (by decide +kernel)
theorem lkX2_158 : Cond.methodLink RX2 158 yX2_orphans ∈ gw := gw_mem 670 (by decide +kernel) (by decide +kernel)
theorem lkX2_161 : Cond.methodLink RX2 161 yX2_fits ∈ gw := gw_mem 690 (by decide +kernel) (by decide +kernel)
theorem lkX2_164 : Cond.methodLink RX2 164 yX2_which ∈ gw := gw_mem 698 (by decide +kernel) (by decide +kernel)
theorem lkX2_167 : Cond.methodLink RX2 167 yX2_greatest ∈ gw := gw_mem 699 (by decide +kernel) (by decide +kernel)
theorem lkX2_170 : Cond.methodLink RX2 170 yX2_allReceipts ∈ gw := gw_mem 707 (by decide +kernel) (by decide +kernel)
theorem lkX2_173 : Cond.methodLink RX2 173 yX2_allLetters ∈ gw := gw_mem 719 (by decide +kernel) (by decide +kernel)
theorem lkX2_176 : Cond.methodLink RX2 176 yX2_allSafe ∈ gw := gw_mem 723 (by decide +kernel) (by decide +kernel)
theorem lkX2_179 : Cond.methodLink RX2 179 yX2_allCarried ∈ gw := gw_mem 727 (by decide +kernel) (by decide +kernel)
theorem cnV {ks : List Nat} {m : MD} {y : MethodName} {n : Nat} {av : List V} {S : St} {Q : Option Int32 → St → Prop} (ok : OkV y m n) (k : Nat) (hk : av.length + k = m.2.2.1) (h : Ev ks m 0 (av.map some ++ List.replicate k none) [] S Q) : Cn ks m y av S Q := Cn.of ok.1.2.2.2.2.1 ok.1.2.2.2.2.2 k hk h
theorem cnS {ks : List Nat} {m : MD} {y : MethodName} {n : Nat} {av : List V} {S : St} {Q : Option Int32 → St → Prop} (ok : OkS y m n) (k : Nat) (hk : av.length + k = m.2.2.1) (h : Ev ks m 0 (av.map some ++ List.replicate k none) [] S Q) : Cn ks m y av S Q := Cn.of ok.1.2.2.2.2.1 ok.1.2.2.2.2.2 k hk h
section EV
variable {ks : List Nat} {m : MD} {pc : Nat} {L : List (Option V)} {sk : List V} {S : St} {Q : Option Int32 → St → Prop}
theorem fkX1_12 : Cond.fieldLink RX1 12 RX1 (TX1 0).2.1 (TX1 0).2.2.1 ∈ gw := gw_mem 124 (by decide +kernel) (by decide +kernel)
theorem gfX1_12 (hm : m.1 = RX1) (hk : 96 ∈ ks) (hd : decode m.2.1 pc = .ok (.getfield 12, 3)) (kk : Ev ks m (pc + 3) L (.inr 0 :: sk) S Q) : Ev ks m pc L (.inr 96 :: sk) S Q := ev_getf hm fkX1_12 rfl igX1 (rfl : cls3[1]? = some (RX1, TX1, 11)) (by decide) hk (fun g => ⟨_, rfl, rfl⟩) hd kk
theorem fkX1_16 : Cond.fieldLink RX1 16 RX1 (TX1 1).2.1 (TX1 1).2.2.1 ∈ gw := gw_mem 125 (by decide +kernel) (by decide +kernel)
theorem gfX1_16 (hm : m.1 = RX1) (hk : 96 ∈ ks) (hd : decode m.2.1 pc = .ok (.getfield 16, 3)) (kk : Ev ks m (pc + 3) L (.inr 97 :: sk) S Q) : Ev ks m pc L (.inr 96 :: sk) S Q := ev_getf hm fkX1_16 rfl igX1 (rfl : cls3[1]? = some (RX1, TX1, 11)) (by decide) hk (fun g => ⟨_, rfl, rfl⟩) hd kk
theorem fkX1_20 : Cond.fieldLink RX1 20 RX1 (TX1 4).2.1 (TX1 4).2.2.1 ∈ gw := gw_mem 128 (by decide +kernel) (by decide +kernel)
theorem gfX1_20 (hm : m.1 = RX1) (hk : 96 ∈ ks) (hd : decode m.2.1 pc = .ok (.getfield 20, 3)) (kk : Ev ks m (pc + 3) L (.inr 98 :: sk) S Q) : Ev ks m pc L (.inr 96 :: sk) S Q := ev_getf hm fkX1_20 rfl igX1 (rfl : cls3[1]? = some (RX1, TX1, 11)) (by decide) hk (fun g => ⟨_, rfl, rfl⟩) hd kk
theorem fkX1_23 : Cond.fieldLink RX1 23 RX1 (TX1 6).2.1 (TX1 6).2.2.1 ∈ gw := gw_mem 130 (by decide +kernel) (by decide +kernel)
theorem gfX1_23 (hm : m.1 = RX1) (hk : 96 ∈ ks) (hd : decode m.2.1 pc = .ok (.getfield 23, 3)) (kk : Ev ks m (pc + 3) L (.inr 99 :: sk) S Q) : Ev ks m pc L (.inr 96 :: sk) S Q := ev_getf hm fkX1_23 rfl igX1 (rfl : cls3[1]? = some (RX1, TX1, 11)) (by decide) hk (fun g => ⟨_, rfl, rfl⟩) hd kk
theorem fkX1_27 : Cond.fieldLink RX1 27 RX1 (TX1 7).2.1 (TX1 7).2.2.1 ∈ gw := gw_mem 131 (by decide +kernel) (by decide +kernel)
theorem gfX1_27 (hm : m.1 = RX1) (hk : 96 ∈ ks) (hd : decode m.2.1 pc = .ok (.getfield 27, 3)) (kk : Ev ks m (pc + 3) L (.inr 100 :: sk) S Q) : Ev ks m pc L (.inr 96 :: sk) S Q := ev_getf hm fkX1_27 rfl igX1 (rfl : cls3[1]? = some (RX1, TX1, 11)) (by decide) hk (fun g => ⟨_, rfl, rfl⟩) hd kk
theorem fkX1_30 : Cond.fieldLink RX1 30 RX1 (TX1 9).2.1 (TX1 9).2.2.1 ∈ gw := gw_mem 133 (by decide +kernel) (by decide +kernel)
theorem gfX1_30 (hm : m.1 = RX1) (hk : 96 ∈ ks) (hd : decode m.2.1 pc = .ok (.getfield 30, 3)) (kk : Ev ks m (pc + 3) L (.inr 101 :: sk) S Q) : Ev ks m pc L (.inr 96 :: sk) S Q := ev_getf hm fkX1_30 rfl igX1 (rfl : cls3[1]? = some (RX1, TX1, 11)) (by decide) hk (fun g => ⟨_, rfl, rfl⟩) hd kk
theorem fkX1_33 : Cond.fieldLink RX1 33 RX1 (TX1 10).2.1 (TX1 10).2.2.1 ∈ gw := gw_mem 134 (by decide +kernel) (by decide +kernel)
theorem gfX1_33 (hm : m.1 = RX1) (hk : 96 ∈ ks) (hd : decode m.2.1 pc = .ok (.getfield 33, 3)) (kk : Ev ks m (pc + 3) L (.inr 102 :: sk) S Q) : Ev ks m pc L (.inr 96 :: sk) S Q := ev_getf hm fkX1_33 rfl igX1 (rfl : cls3[1]? = some (RX1, TX1, 11)) (by decide) hk (fun g => ⟨_, rfl, rfl⟩) hd kk
theorem fkX1_43 : Cond.fieldLink RX1 43 RX1 (TX1 8).2.1 (TX1 8).2.2.1 ∈ gw := gw_mem 132 (by decide +kernel) (by decide +kernel)
theorem gfX1_43 (hm : m.1 = RX1) (hk : 96 ∈ ks) (hd : decode m.2.1 pc = .ok (.getfield 43, 3)) (kk : Ev ks m (pc + 3) L (.inl (S 96 8) :: sk) S Q) : Ev ks m pc L (.inr 96 :: sk) S Q := ev_getf hm fkX1_43 rfl igX1 (rfl : cls3[1]? = some (RX1, TX1, 11)) (by decide) hk (fun g => ⟨_, rfl, rfl⟩) hd kk
theorem pfX1_43 {x : Int32} (hm : m.1 = RX1) (hk : 96 ∈ ks) (hd : decode m.2.1 pc = .ok (.putfield 43, 3)) (kk : Ev ks m (pc + 3) L sk (st S 96 8 x) Q) : Ev ks m pc L (.inl x :: .inr 96 :: sk) S Q := ev_putf hm fkX1_43 rfl igX1 (rfl : cls3[1]? = some (RX1, TX1, 11)) tyX1_ok nmX1 rfl rfl (by decide) hk (fun g => ⟨_, rfl, Nat.le_of_ble_eq_true rfl, rfl⟩) hd kk
theorem fkX1_47 : Cond.fieldLink RX1 47 RX1 (TX1 5).2.1 (TX1 5).2.2.1 ∈ gw := gw_mem 129 (by decide +kernel) (by decide +kernel)
theorem gfX1_47 (hm : m.1 = RX1) (hk : 96 ∈ ks) (hd : decode m.2.1 pc = .ok (.getfield 47, 3)) (kk : Ev ks m (pc + 3) L (.inl (S 96 5) :: sk) S Q) : Ev ks m pc L (.inr 96 :: sk) S Q := ev_getf hm fkX1_47 rfl igX1 (rfl : cls3[1]? = some (RX1, TX1, 11)) (by decide) hk (fun g => ⟨_, rfl, rfl⟩) hd kk
theorem pfX1_47 {x : Int32} (hm : m.1 = RX1) (hk : 96 ∈ ks) (hd : decode m.2.1 pc = .ok (.putfield 47, 3)) (kk : Ev ks m (pc + 3) L sk (st S 96 5 x) Q) : Ev ks m pc L (.inl x :: .inr 96 :: sk) S Q := ev_putf hm fkX1_47 rfl igX1 (rfl : cls3[1]? = some (RX1, TX1, 11)) tyX1_ok nmX1 rfl rfl (by decide) hk (fun g => ⟨_, rfl, Nat.le_of_ble_eq_true rfl, rfl⟩) hd kk
theorem fkX1_54 : Cond.fieldLink RX1 54 RX0 (TX0 0).2.1 (TX0 0).2.2.1 ∈ gw := gw_mem 69 (by decide +kernel) (by decide +kernel)
theorem gfX1_54 (hm : m.1 = RX1) (hk : 0 ∈ ks) (hd : decode m.2.1 pc = .ok (.getfield 54, 3)) (kk : Ev ks m (pc + 3) L (.inl (S 0 0) :: sk) S Q) : Ev ks m pc L (.inr 0 :: sk) S Q := ev_getf hm fkX1_54 rfl igX0 (rfl : cls3[0]? = some (RX0, TX0, 14)) (by decide) hk (fun g => ⟨_, rfl, rfl⟩) hd kk
theorem pfX1_54 {x : Int32} (hm : m.1 = RX1) (hk : 0 ∈ ks) (hd : decode m.2.1 pc = .ok (.putfield 54, 3)) (kk : Ev ks m (pc + 3) L sk (st S 0 0 x) Q) : Ev ks m pc L (.inl x :: .inr 0 :: sk) S Q := ev_putf hm fkX1_54 rfl igX0 (rfl : cls3[0]? = some (RX0, TX0, 14)) tyX0_ok nmX0 rfl rfl (by decide) hk (fun g => ⟨_, rfl, Nat.le_of_ble_eq_true rfl, rfl⟩) hd kk
theorem fkX1_75 : Cond.fieldLink RX1 75 RX0 (TX0 3).2.1 (TX0 3).2.2.1 ∈ gw := gw_mem 75 (by decide +kernel) (by decide +kernel)
theorem gfX1_75 (hm : m.1 = RX1) (hk : 0 ∈ ks) (hd : decode m.2.1 pc = .ok (.getfield 75, 3)) (kk : Ev ks m (pc + 3) L (.inr 1 :: sk) S Q) : Ev ks m pc L (.inr 0 :: sk) S Q := ev_getf hm fkX1_75 rfl igX0 (rfl : cls3[0]? = some (RX0, TX0, 14)) (by decide) hk (fun g => ⟨_, rfl, rfl⟩) hd kk
theorem fkX1_89 : Cond.fieldLink RX1 89 RX0 (TX0 2).2.1 (TX0 2).2.2.1 ∈ gw := gw_mem 73 (by decide +kernel) (by decide +kernel)
theorem gfX1_89 (hm : m.1 = RX1) (hk : 0 ∈ ks) (hd : decode m.2.1 pc = .ok (.getfield 89, 3)) (kk : Ev ks m (pc + 3) L (.inl (S 0 2) :: sk) S Q) : Ev ks m pc L (.inr 0 :: sk) S Q := ev_getf hm fkX1_89 rfl igX0 (rfl : cls3[0]? = some (RX0, TX0, 14)) (by decide) hk (fun g => ⟨_, rfl, rfl⟩) hd kk
theorem pfX1_89 {x : Int32} (hm : m.1 = RX1) (hk : 0 ∈ ks) (hd : decode m.2.1 pc = .ok (.putfield 89, 3)) (kk : Ev ks m (pc + 3) L sk (st S 0 2 x) Q) : Ev ks m pc L (.inl x :: .inr 0 :: sk) S Q := ev_putf hm fkX1_89 rfl igX0 (rfl : cls3[0]? = some (RX0, TX0, 14)) tyX0_ok nmX0 rfl rfl (by decide) hk (fun g => ⟨_, rfl, Nat.le_of_ble_eq_true rfl, rfl⟩) hd kk
theorem fkX1_101 : Cond.fieldLink RX1 101 RX1 (TX1 3).2.1 (TX1 3).2.2.1 ∈ gw := gw_mem 127 (by decide +kernel) (by decide +kernel)
theorem gfX1_101 (hm : m.1 = RX1) (hk : 96 ∈ ks) (hd : decode m.2.1 pc = .ok (.getfield 101, 3)) (kk : Ev ks m (pc + 3) L (.inl (S 96 3) :: sk) S Q) : Ev ks m pc L (.inr 96 :: sk) S Q := ev_getf hm fkX1_101 rfl igX1 (rfl : cls3[1]? = some (RX1, TX1, 11)) (by decide) hk (fun g => ⟨_, rfl, rfl⟩) hd kk
theorem pfX1_101 {x : Int32} (hm : m.1 = RX1) (hk : 96 ∈ ks) (hd : decode m.2.1 pc = .ok (.putfield 101, 3)) (kk : Ev ks m (pc + 3) L sk (st S 96 3 x) Q) : Ev ks m pc L (.inl x :: .inr 96 :: sk) S Q := ev_putf hm fkX1_101 rfl igX1 (rfl : cls3[1]? = some (RX1, TX1, 11)) tyX1_ok nmX1 rfl rfl (by decide) hk (fun g => ⟨_, rfl, Nat.le_of_ble_eq_true rfl, rfl⟩) hd kk
theorem fkX1_104 : Cond.fieldLink RX1 104 RX1 (TX1 2).2.1 (TX1 2).2.2.1 ∈ gw := gw_mem 126 (by decide +kernel) (by decide +kernel)
theorem gfX1_104 (hm : m.1 = RX1) (hk : 96 ∈ ks) (hd : decode m.2.1 pc = .ok (.getfield 104, 3)) (kk : Ev ks m (pc + 3) L (.inl (S 96 2) :: sk) S Q) : Ev ks m pc L (.inr 96 :: sk) S Q := ev_getf hm fkX1_104 rfl igX1 (rfl : cls3[1]? = some (RX1, TX1, 11)) (by decide) hk (fun g => ⟨_, rfl, rfl⟩) hd kk
theorem pfX1_104 {x : Int32} (hm : m.1 = RX1) (hk : 96 ∈ ks) (hd : decode m.2.1 pc = .ok (.putfield 104, 3)) (kk : Ev ks m (pc + 3) L sk (st S 96 2 x) Q) : Ev ks m pc L (.inl x :: .inr 96 :: sk) S Q := ev_putf hm fkX1_104 rfl igX1 (rfl : cls3[1]? = some (RX1, TX1, 11)) tyX1_ok nmX1 rfl rfl (by decide) hk (fun g => ⟨_, rfl, Nat.le_of_ble_eq_true rfl, rfl⟩) hd kk
theorem fkX1_123 : Cond.fieldLink RX1 123 RX0 (TX0 4).2.1 (TX0 4).2.2.1 ∈ gw := gw_mem 77 (by decide +kernel) (by decide +kernel)
theorem gfX1_123 (hm : m.1 = RX1) (hk : 0 ∈ ks) (hd : decode m.2.1 pc = .ok (.getfield 123, 3)) (kk : Ev ks m (pc + 3) L (.inr 2 :: sk) S Q) : Ev ks m pc L (.inr 0 :: sk) S Q := ev_getf hm fkX1_123 rfl igX0 (rfl : cls3[0]? = some (RX0, TX0, 14)) (by decide) hk (fun g => ⟨_, rfl, rfl⟩) hd kk
theorem fkX1_126 : Cond.fieldLink RX1 126 RX0 (TX0 5).2.1 (TX0 5).2.2.1 ∈ gw := gw_mem 79 (by decide +kernel) (by decide +kernel)
theorem gfX1_126 (hm : m.1 = RX1) (hk : 0 ∈ ks) (hd : decode m.2.1 pc = .ok (.getfield 126, 3)) (kk : Ev ks m (pc + 3) L (.inr 3 :: sk) S Q) : Ev ks m pc L (.inr 0 :: sk) S Q := ev_getf hm fkX1_126 rfl igX0 (rfl : cls3[0]? = some (RX0, TX0, 14)) (by decide) hk (fun g => ⟨_, rfl, rfl⟩) hd kk
theorem fkX1_129 : Cond.fieldLink RX1 129 RX0 (TX0 6).2.1 (TX0 6).2.2.1 ∈ gw := gw_mem 81 (by decide +kernel) (by decide +kernel)
theorem gfX1_129 (hm : m.1 = RX1) (hk : 0 ∈ ks) (hd : decode m.2.1 pc = .ok (.getfield 129, 3)) (kk : Ev ks m (pc + 3) L (.inr 4 :: sk) S Q) : Ev ks m pc L (.inr 0 :: sk) S Q := ev_getf hm fkX1_129 rfl igX0 (rfl : cls3[0]? = some (RX0, TX0, 14)) (by decide) hk (fun g => ⟨_, rfl, rfl⟩) hd kk
theorem fkX1_138 : Cond.fieldLink RX1 138 RX0 (TX0 7).2.1 (TX0 7).2.2.1 ∈ gw := gw_mem 83 (by decide +kernel) (by decide +kernel)
theorem gfX1_138 (hm : m.1 = RX1) (hk : 0 ∈ ks) (hd : decode m.2.1 pc = .ok (.getfield 138, 3)) (kk : Ev ks m (pc + 3) L (.inr 5 :: sk) S Q) : Ev ks m pc L (.inr 0 :: sk) S Q := ev_getf hm fkX1_138 rfl igX0 (rfl : cls3[0]? = some (RX0, TX0, 14)) (by decide) hk (fun g => ⟨_, rfl, rfl⟩) hd kk
theorem fkX1_145 : Cond.fieldLink RX1 145 RX0 (TX0 9).2.1 (TX0 9).2.2.1 ∈ gw := gw_mem 86 (by decide +kernel) (by decide +kernel)
theorem gfX1_145 (hm : m.1 = RX1) (hk : 0 ∈ ks) (hd : decode m.2.1 pc = .ok (.getfield 145, 3)) (kk : Ev ks m (pc + 3) L (.inr 7 :: sk) S Q) : Ev ks m pc L (.inr 0 :: sk) S Q := ev_getf hm fkX1_145 rfl igX0 (rfl : cls3[0]? = some (RX0, TX0, 14)) (by decide) hk (fun g => ⟨_, rfl, rfl⟩) hd kk
theorem fkX1_148 : Cond.fieldLink RX1 148 RX0 (TX0 10).2.1 (TX0 10).2.2.1 ∈ gw := gw_mem 88 (by decide +kernel) (by decide +kernel)
theorem gfX1_148 (hm : m.1 = RX1) (hk : 0 ∈ ks) (hd : decode m.2.1 pc = .ok (.getfield 148, 3)) (kk : Ev ks m (pc + 3) L (.inr 8 :: sk) S Q) : Ev ks m pc L (.inr 0 :: sk) S Q := ev_getf hm fkX1_148 rfl igX0 (rfl : cls3[0]? = some (RX0, TX0, 14)) (by decide) hk (fun g => ⟨_, rfl, rfl⟩) hd kk
theorem fkX1_151 : Cond.fieldLink RX1 151 RX0 (TX0 11).2.1 (TX0 11).2.2.1 ∈ gw := gw_mem 90 (by decide +kernel) (by decide +kernel)
theorem gfX1_151 (hm : m.1 = RX1) (hk : 0 ∈ ks) (hd : decode m.2.1 pc = .ok (.getfield 151, 3)) (kk : Ev ks m (pc + 3) L (.inr 9 :: sk) S Q) : Ev ks m pc L (.inr 0 :: sk) S Q := ev_getf hm fkX1_151 rfl igX0 (rfl : cls3[0]? = some (RX0, TX0, 14)) (by decide) hk (fun g => ⟨_, rfl, rfl⟩) hd kk
theorem fkX1_186 : Cond.fieldLink RX1 186 RX0 (TX0 1).2.1 (TX0 1).2.2.1 ∈ gw := gw_mem 71 (by decide +kernel) (by decide +kernel)
theorem gfX1_186 (hm : m.1 = RX1) (hk : 0 ∈ ks) (hd : decode m.2.1 pc = .ok (.getfield 186, 3)) (kk : Ev ks m (pc + 3) L (.inl (S 0 1) :: sk) S Q) : Ev ks m pc L (.inr 0 :: sk) S Q := ev_getf hm fkX1_186 rfl igX0 (rfl : cls3[0]? = some (RX0, TX0, 14)) (by decide) hk (fun g => ⟨_, rfl, rfl⟩) hd kk
theorem pfX1_186 {x : Int32} (hm : m.1 = RX1) (hk : 0 ∈ ks) (hd : decode m.2.1 pc = .ok (.putfield 186, 3)) (kk : Ev ks m (pc + 3) L sk (st S 0 1 x) Q) : Ev ks m pc L (.inl x :: .inr 0 :: sk) S Q := ev_putf hm fkX1_186 rfl igX0 (rfl : cls3[0]? = some (RX0, TX0, 14)) tyX0_ok nmX0 rfl rfl (by decide) hk (fun g => ⟨_, rfl, Nat.le_of_ble_eq_true rfl, rfl⟩) hd kk
theorem fkX0_9 : Cond.fieldLink RX0 9 RX0 (TX0 3).2.1 (TX0 3).2.2.1 ∈ gw := gw_mem 74 (by decide +kernel) (by decide +kernel)
theorem gfX0_9 (hm : m.1 = RX0) (hk : 0 ∈ ks) (hd : decode m.2.1 pc = .ok (.getfield 9, 3)) (kk : Ev ks m (pc + 3) L (.inr 1 :: sk) S Q) : Ev ks m pc L (.inr 0 :: sk) S Q := ev_getf hm fkX0_9 rfl igX0 (rfl : cls3[0]? = some (RX0, TX0, 14)) (by decide) hk (fun g => ⟨_, rfl, rfl⟩) hd kk
theorem gkX0_9 {k : Nat} (h96 : k < 96) (h12 : k % 12 = 0) (hm : m.1 = RX0) (hk : k ∈ ks) (hd : decode m.2.1 pc = .ok (.getfield 9, 3)) (kk : Ev ks m (pc + 3) L (.inr (k + 1) :: sk) S Q) : Ev ks m pc L (.inr k :: sk) S Q := ev_getf hm fkX0_9 rfl igX0 (rfl : cls3[0]? = some (RX0, TX0, 14)) (by decide) hk (fun g => ⟨_, ct_W h96 h12, rfl⟩) hd kk
theorem fkX0_15 : Cond.fieldLink RX0 15 RX0 (TX0 4).2.1 (TX0 4).2.2.1 ∈ gw := gw_mem 76 (by decide +kernel) (by decide +kernel)
theorem gfX0_15 (hm : m.1 = RX0) (hk : 0 ∈ ks) (hd : decode m.2.1 pc = .ok (.getfield 15, 3)) (kk : Ev ks m (pc + 3) L (.inr 2 :: sk) S Q) : Ev ks m pc L (.inr 0 :: sk) S Q := ev_getf hm fkX0_15 rfl igX0 (rfl : cls3[0]? = some (RX0, TX0, 14)) (by decide) hk (fun g => ⟨_, rfl, rfl⟩) hd kk
theorem gkX0_15 {k : Nat} (h96 : k < 96) (h12 : k % 12 = 0) (hm : m.1 = RX0) (hk : k ∈ ks) (hd : decode m.2.1 pc = .ok (.getfield 15, 3)) (kk : Ev ks m (pc + 3) L (.inr (k + 2) :: sk) S Q) : Ev ks m pc L (.inr k :: sk) S Q := ev_getf hm fkX0_15 rfl igX0 (rfl : cls3[0]? = some (RX0, TX0, 14)) (by decide) hk (fun g => ⟨_, ct_W h96 h12, rfl⟩) hd kk
theorem fkX0_18 : Cond.fieldLink RX0 18 RX0 (TX0 5).2.1 (TX0 5).2.2.1 ∈ gw := gw_mem 78 (by decide +kernel) (by decide +kernel)
theorem gfX0_18 (hm : m.1 = RX0) (hk : 0 ∈ ks) (hd : decode m.2.1 pc = .ok (.getfield 18, 3)) (kk : Ev ks m (pc + 3) L (.inr 3 :: sk) S Q) : Ev ks m pc L (.inr 0 :: sk) S Q := ev_getf hm fkX0_18 rfl igX0 (rfl : cls3[0]? = some (RX0, TX0, 14)) (by decide) hk (fun g => ⟨_, rfl, rfl⟩) hd kk
theorem gkX0_18 {k : Nat} (h96 : k < 96) (h12 : k % 12 = 0) (hm : m.1 = RX0) (hk : k ∈ ks) (hd : decode m.2.1 pc = .ok (.getfield 18, 3)) (kk : Ev ks m (pc + 3) L (.inr (k + 3) :: sk) S Q) : Ev ks m pc L (.inr k :: sk) S Q := ev_getf hm fkX0_18 rfl igX0 (rfl : cls3[0]? = some (RX0, TX0, 14)) (by decide) hk (fun g => ⟨_, ct_W h96 h12, rfl⟩) hd kk
theorem fkX0_21 : Cond.fieldLink RX0 21 RX0 (TX0 6).2.1 (TX0 6).2.2.1 ∈ gw := gw_mem 80 (by decide +kernel) (by decide +kernel)
theorem gfX0_21 (hm : m.1 = RX0) (hk : 0 ∈ ks) (hd : decode m.2.1 pc = .ok (.getfield 21, 3)) (kk : Ev ks m (pc + 3) L (.inr 4 :: sk) S Q) : Ev ks m pc L (.inr 0 :: sk) S Q := ev_getf hm fkX0_21 rfl igX0 (rfl : cls3[0]? = some (RX0, TX0, 14)) (by decide) hk (fun g => ⟨_, rfl, rfl⟩) hd kk
theorem gkX0_21 {k : Nat} (h96 : k < 96) (h12 : k % 12 = 0) (hm : m.1 = RX0) (hk : k ∈ ks) (hd : decode m.2.1 pc = .ok (.getfield 21, 3)) (kk : Ev ks m (pc + 3) L (.inr (k + 4) :: sk) S Q) : Ev ks m pc L (.inr k :: sk) S Q := ev_getf hm fkX0_21 rfl igX0 (rfl : cls3[0]? = some (RX0, TX0, 14)) (by decide) hk (fun g => ⟨_, ct_W h96 h12, rfl⟩) hd kk
theorem fkX0_24 : Cond.fieldLink RX0 24 RX0 (TX0 7).2.1 (TX0 7).2.2.1 ∈ gw := gw_mem 82 (by decide +kernel) (by decide +kernel)
theorem gfX0_24 (hm : m.1 = RX0) (hk : 0 ∈ ks) (hd : decode m.2.1 pc = .ok (.getfield 24, 3)) (kk : Ev ks m (pc + 3) L (.inr 5 :: sk) S Q) : Ev ks m pc L (.inr 0 :: sk) S Q := ev_getf hm fkX0_24 rfl igX0 (rfl : cls3[0]? = some (RX0, TX0, 14)) (by decide) hk (fun g => ⟨_, rfl, rfl⟩) hd kk
theorem gkX0_24 {k : Nat} (h96 : k < 96) (h12 : k % 12 = 0) (hm : m.1 = RX0) (hk : k ∈ ks) (hd : decode m.2.1 pc = .ok (.getfield 24, 3)) (kk : Ev ks m (pc + 3) L (.inr (k + 5) :: sk) S Q) : Ev ks m pc L (.inr k :: sk) S Q := ev_getf hm fkX0_24 rfl igX0 (rfl : cls3[0]? = some (RX0, TX0, 14)) (by decide) hk (fun g => ⟨_, ct_W h96 h12, rfl⟩) hd kk
theorem fkX0_27 : Cond.fieldLink RX0 27 RX0 (TX0 8).2.1 (TX0 8).2.2.1 ∈ gw := gw_mem 84 (by decide +kernel) (by decide +kernel)
theorem gfX0_27 (hm : m.1 = RX0) (hk : 0 ∈ ks) (hd : decode m.2.1 pc = .ok (.getfield 27, 3)) (kk : Ev ks m (pc + 3) L (.inr 6 :: sk) S Q) : Ev ks m pc L (.inr 0 :: sk) S Q := ev_getf hm fkX0_27 rfl igX0 (rfl : cls3[0]? = some (RX0, TX0, 14)) (by decide) hk (fun g => ⟨_, rfl, rfl⟩) hd kk
theorem gkX0_27 {k : Nat} (h96 : k < 96) (h12 : k % 12 = 0) (hm : m.1 = RX0) (hk : k ∈ ks) (hd : decode m.2.1 pc = .ok (.getfield 27, 3)) (kk : Ev ks m (pc + 3) L (.inr (k + 6) :: sk) S Q) : Ev ks m pc L (.inr k :: sk) S Q := ev_getf hm fkX0_27 rfl igX0 (rfl : cls3[0]? = some (RX0, TX0, 14)) (by decide) hk (fun g => ⟨_, ct_W h96 h12, rfl⟩) hd kk
theorem fkX0_30 : Cond.fieldLink RX0 30 RX0 (TX0 9).2.1 (TX0 9).2.2.1 ∈ gw := gw_mem 85 (by decide +kernel) (by decide +kernel)
theorem gfX0_30 (hm : m.1 = RX0) (hk : 0 ∈ ks) (hd : decode m.2.1 pc = .ok (.getfield 30, 3)) (kk : Ev ks m (pc + 3) L (.inr 7 :: sk) S Q) : Ev ks m pc L (.inr 0 :: sk) S Q := ev_getf hm fkX0_30 rfl igX0 (rfl : cls3[0]? = some (RX0, TX0, 14)) (by decide) hk (fun g => ⟨_, rfl, rfl⟩) hd kk
theorem gkX0_30 {k : Nat} (h96 : k < 96) (h12 : k % 12 = 0) (hm : m.1 = RX0) (hk : k ∈ ks) (hd : decode m.2.1 pc = .ok (.getfield 30, 3)) (kk : Ev ks m (pc + 3) L (.inr (k + 7) :: sk) S Q) : Ev ks m pc L (.inr k :: sk) S Q := ev_getf hm fkX0_30 rfl igX0 (rfl : cls3[0]? = some (RX0, TX0, 14)) (by decide) hk (fun g => ⟨_, ct_W h96 h12, rfl⟩) hd kk
theorem fkX0_33 : Cond.fieldLink RX0 33 RX0 (TX0 10).2.1 (TX0 10).2.2.1 ∈ gw := gw_mem 87 (by decide +kernel) (by decide +kernel)
theorem gfX0_33 (hm : m.1 = RX0) (hk : 0 ∈ ks) (hd : decode m.2.1 pc = .ok (.getfield 33, 3)) (kk : Ev ks m (pc + 3) L (.inr 8 :: sk) S Q) : Ev ks m pc L (.inr 0 :: sk) S Q := ev_getf hm fkX0_33 rfl igX0 (rfl : cls3[0]? = some (RX0, TX0, 14)) (by decide) hk (fun g => ⟨_, rfl, rfl⟩) hd kk
theorem gkX0_33 {k : Nat} (h96 : k < 96) (h12 : k % 12 = 0) (hm : m.1 = RX0) (hk : k ∈ ks) (hd : decode m.2.1 pc = .ok (.getfield 33, 3)) (kk : Ev ks m (pc + 3) L (.inr (k + 8) :: sk) S Q) : Ev ks m pc L (.inr k :: sk) S Q := ev_getf hm fkX0_33 rfl igX0 (rfl : cls3[0]? = some (RX0, TX0, 14)) (by decide) hk (fun g => ⟨_, ct_W h96 h12, rfl⟩) hd kk
theorem fkX0_36 : Cond.fieldLink RX0 36 RX0 (TX0 11).2.1 (TX0 11).2.2.1 ∈ gw := gw_mem 89 (by decide +kernel) (by decide +kernel)
theorem gfX0_36 (hm : m.1 = RX0) (hk : 0 ∈ ks) (hd : decode m.2.1 pc = .ok (.getfield 36, 3)) (kk : Ev ks m (pc + 3) L (.inr 9 :: sk) S Q) : Ev ks m pc L (.inr 0 :: sk) S Q := ev_getf hm fkX0_36 rfl igX0 (rfl : cls3[0]? = some (RX0, TX0, 14)) (by decide) hk (fun g => ⟨_, rfl, rfl⟩) hd kk
theorem gkX0_36 {k : Nat} (h96 : k < 96) (h12 : k % 12 = 0) (hm : m.1 = RX0) (hk : k ∈ ks) (hd : decode m.2.1 pc = .ok (.getfield 36, 3)) (kk : Ev ks m (pc + 3) L (.inr (k + 9) :: sk) S Q) : Ev ks m pc L (.inr k :: sk) S Q := ev_getf hm fkX0_36 rfl igX0 (rfl : cls3[0]? = some (RX0, TX0, 14)) (by decide) hk (fun g => ⟨_, ct_W h96 h12, rfl⟩) hd kk
theorem fkX0_39 : Cond.fieldLink RX0 39 RX0 (TX0 12).2.1 (TX0 12).2.2.1 ∈ gw := gw_mem 91 (by decide +kernel) (by decide +kernel)
theorem gfX0_39 (hm : m.1 = RX0) (hk : 0 ∈ ks) (hd : decode m.2.1 pc = .ok (.getfield 39, 3)) (kk : Ev ks m (pc + 3) L (.inr 10 :: sk) S Q) : Ev ks m pc L (.inr 0 :: sk) S Q := ev_getf hm fkX0_39 rfl igX0 (rfl : cls3[0]? = some (RX0, TX0, 14)) (by decide) hk (fun g => ⟨_, rfl, rfl⟩) hd kk
theorem gkX0_39 {k : Nat} (h96 : k < 96) (h12 : k % 12 = 0) (hm : m.1 = RX0) (hk : k ∈ ks) (hd : decode m.2.1 pc = .ok (.getfield 39, 3)) (kk : Ev ks m (pc + 3) L (.inr (k + 10) :: sk) S Q) : Ev ks m pc L (.inr k :: sk) S Q := ev_getf hm fkX0_39 rfl igX0 (rfl : cls3[0]? = some (RX0, TX0, 14)) (by decide) hk (fun g => ⟨_, ct_W h96 h12, rfl⟩) hd kk
theorem fkX0_42 : Cond.fieldLink RX0 42 RX0 (TX0 13).2.1 (TX0 13).2.2.1 ∈ gw := gw_mem 92 (by decide +kernel) (by decide +kernel)
theorem gfX0_42 (hm : m.1 = RX0) (hk : 0 ∈ ks) (hd : decode m.2.1 pc = .ok (.getfield 42, 3)) (kk : Ev ks m (pc + 3) L (.inr 11 :: sk) S Q) : Ev ks m pc L (.inr 0 :: sk) S Q := ev_getf hm fkX0_42 rfl igX0 (rfl : cls3[0]? = some (RX0, TX0, 14)) (by decide) hk (fun g => ⟨_, rfl, rfl⟩) hd kk
theorem gkX0_42 {k : Nat} (h96 : k < 96) (h12 : k % 12 = 0) (hm : m.1 = RX0) (hk : k ∈ ks) (hd : decode m.2.1 pc = .ok (.getfield 42, 3)) (kk : Ev ks m (pc + 3) L (.inr (k + 11) :: sk) S Q) : Ev ks m pc L (.inr k :: sk) S Q := ev_getf hm fkX0_42 rfl igX0 (rfl : cls3[0]? = some (RX0, TX0, 14)) (by decide) hk (fun g => ⟨_, ct_W h96 h12, rfl⟩) hd kk
theorem fkX0_49 : Cond.fieldLink RX0 49 RX0 (TX0 0).2.1 (TX0 0).2.2.1 ∈ gw := gw_mem 68 (by decide +kernel) (by decide +kernel)
theorem gfX0_49 (hm : m.1 = RX0) (hk : 0 ∈ ks) (hd : decode m.2.1 pc = .ok (.getfield 49, 3)) (kk : Ev ks m (pc + 3) L (.inl (S 0 0) :: sk) S Q) : Ev ks m pc L (.inr 0 :: sk) S Q := ev_getf hm fkX0_49 rfl igX0 (rfl : cls3[0]? = some (RX0, TX0, 14)) (by decide) hk (fun g => ⟨_, rfl, rfl⟩) hd kk
theorem pfX0_49 {x : Int32} (hm : m.1 = RX0) (hk : 0 ∈ ks) (hd : decode m.2.1 pc = .ok (.putfield 49, 3)) (kk : Ev ks m (pc + 3) L sk (st S 0 0 x) Q) : Ev ks m pc L (.inl x :: .inr 0 :: sk) S Q := ev_putf hm fkX0_49 rfl igX0 (rfl : cls3[0]? = some (RX0, TX0, 14)) tyX0_ok nmX0 rfl rfl (by decide) hk (fun g => ⟨_, rfl, Nat.le_of_ble_eq_true rfl, rfl⟩) hd kk
theorem gkX0_49 {k : Nat} (h96 : k < 96) (h12 : k % 12 = 0) (hm : m.1 = RX0) (hk : k ∈ ks) (hd : decode m.2.1 pc = .ok (.getfield 49, 3)) (kk : Ev ks m (pc + 3) L (.inl (S k 0) :: sk) S Q) : Ev ks m pc L (.inr k :: sk) S Q := ev_getf hm fkX0_49 rfl igX0 (rfl : cls3[0]? = some (RX0, TX0, 14)) (by decide) hk (fun g => ⟨_, ct_W h96 h12, rfl⟩) hd kk
theorem pkX0_49 {k : Nat} {x : Int32} (h96 : k < 96) (h12 : k % 12 = 0) (hm : m.1 = RX0) (hk : k ∈ ks) (hd : decode m.2.1 pc = .ok (.putfield 49, 3)) (kk : Ev ks m (pc + 3) L sk (st S k 0 x) Q) : Ev ks m pc L (.inl x :: .inr k :: sk) S Q := ev_putf hm fkX0_49 rfl igX0 (rfl : cls3[0]? = some (RX0, TX0, 14)) tyX0_ok nmX0 rfl rfl (by decide) hk (fun g => ⟨_, ct_W h96 h12, Nat.le_of_ble_eq_true rfl, ct_W h96 h12⟩) hd kk
theorem fkX0_53 : Cond.fieldLink RX0 53 RX0 (TX0 1).2.1 (TX0 1).2.2.1 ∈ gw := gw_mem 70 (by decide +kernel) (by decide +kernel)
theorem gfX0_53 (hm : m.1 = RX0) (hk : 0 ∈ ks) (hd : decode m.2.1 pc = .ok (.getfield 53, 3)) (kk : Ev ks m (pc + 3) L (.inl (S 0 1) :: sk) S Q) : Ev ks m pc L (.inr 0 :: sk) S Q := ev_getf hm fkX0_53 rfl igX0 (rfl : cls3[0]? = some (RX0, TX0, 14)) (by decide) hk (fun g => ⟨_, rfl, rfl⟩) hd kk
theorem pfX0_53 {x : Int32} (hm : m.1 = RX0) (hk : 0 ∈ ks) (hd : decode m.2.1 pc = .ok (.putfield 53, 3)) (kk : Ev ks m (pc + 3) L sk (st S 0 1 x) Q) : Ev ks m pc L (.inl x :: .inr 0 :: sk) S Q := ev_putf hm fkX0_53 rfl igX0 (rfl : cls3[0]? = some (RX0, TX0, 14)) tyX0_ok nmX0 rfl rfl (by decide) hk (fun g => ⟨_, rfl, Nat.le_of_ble_eq_true rfl, rfl⟩) hd kk
theorem gkX0_53 {k : Nat} (h96 : k < 96) (h12 : k % 12 = 0) (hm : m.1 = RX0) (hk : k ∈ ks) (hd : decode m.2.1 pc = .ok (.getfield 53, 3)) (kk : Ev ks m (pc + 3) L (.inl (S k 1) :: sk) S Q) : Ev ks m pc L (.inr k :: sk) S Q := ev_getf hm fkX0_53 rfl igX0 (rfl : cls3[0]? = some (RX0, TX0, 14)) (by decide) hk (fun g => ⟨_, ct_W h96 h12, rfl⟩) hd kk
theorem pkX0_53 {k : Nat} {x : Int32} (h96 : k < 96) (h12 : k % 12 = 0) (hm : m.1 = RX0) (hk : k ∈ ks) (hd : decode m.2.1 pc = .ok (.putfield 53, 3)) (kk : Ev ks m (pc + 3) L sk (st S k 1 x) Q) : Ev ks m pc L (.inl x :: .inr k :: sk) S Q := ev_putf hm fkX0_53 rfl igX0 (rfl : cls3[0]? = some (RX0, TX0, 14)) tyX0_ok nmX0 rfl rfl (by decide) hk (fun g => ⟨_, ct_W h96 h12, Nat.le_of_ble_eq_true rfl, ct_W h96 h12⟩) hd kk
theorem fkX0_56 : Cond.fieldLink RX0 56 RX0 (TX0 2).2.1 (TX0 2).2.2.1 ∈ gw := gw_mem 72 (by decide +kernel) (by decide +kernel)
theorem gfX0_56 (hm : m.1 = RX0) (hk : 0 ∈ ks) (hd : decode m.2.1 pc = .ok (.getfield 56, 3)) (kk : Ev ks m (pc + 3) L (.inl (S 0 2) :: sk) S Q) : Ev ks m pc L (.inr 0 :: sk) S Q := ev_getf hm fkX0_56 rfl igX0 (rfl : cls3[0]? = some (RX0, TX0, 14)) (by decide) hk (fun g => ⟨_, rfl, rfl⟩) hd kk
theorem pfX0_56 {x : Int32} (hm : m.1 = RX0) (hk : 0 ∈ ks) (hd : decode m.2.1 pc = .ok (.putfield 56, 3)) (kk : Ev ks m (pc + 3) L sk (st S 0 2 x) Q) : Ev ks m pc L (.inl x :: .inr 0 :: sk) S Q := ev_putf hm fkX0_56 rfl igX0 (rfl : cls3[0]? = some (RX0, TX0, 14)) tyX0_ok nmX0 rfl rfl (by decide) hk (fun g => ⟨_, rfl, Nat.le_of_ble_eq_true rfl, rfl⟩) hd kk
theorem gkX0_56 {k : Nat} (h96 : k < 96) (h12 : k % 12 = 0) (hm : m.1 = RX0) (hk : k ∈ ks) (hd : decode m.2.1 pc = .ok (.getfield 56, 3)) (kk : Ev ks m (pc + 3) L (.inl (S k 2) :: sk) S Q) : Ev ks m pc L (.inr k :: sk) S Q := ev_getf hm fkX0_56 rfl igX0 (rfl : cls3[0]? = some (RX0, TX0, 14)) (by decide) hk (fun g => ⟨_, ct_W h96 h12, rfl⟩) hd kk
theorem pkX0_56 {k : Nat} {x : Int32} (h96 : k < 96) (h12 : k % 12 = 0) (hm : m.1 = RX0) (hk : k ∈ ks) (hd : decode m.2.1 pc = .ok (.putfield 56, 3)) (kk : Ev ks m (pc + 3) L sk (st S k 2 x) Q) : Ev ks m pc L (.inl x :: .inr k :: sk) S Q := ev_putf hm fkX0_56 rfl igX0 (rfl : cls3[0]? = some (RX0, TX0, 14)) tyX0_ok nmX0 rfl rfl (by decide) hk (fun g => ⟨_, ct_W h96 h12, Nat.le_of_ble_eq_true rfl, ct_W h96 h12⟩) hd kk
theorem fkX2_7 : Cond.fieldLink RX2 7 RX2 (TX2 0).2.1 (TX2 0).2.2.1 ∈ gw := gw_mem 457 (by decide +kernel) (by decide +kernel)
theorem gfX2_7 (hm : m.1 = RX2) (hk : 103 ∈ ks) (hd : decode m.2.1 pc = .ok (.getfield 7, 3)) (kk : Ev ks m (pc + 3) L (.inr 104 :: sk) S Q) : Ev ks m pc L (.inr 103 :: sk) S Q := ev_getf hm fkX2_7 rfl igX2 (rfl : cls3[2]? = some (RX2, TX2, 10)) (by decide) hk (fun g => ⟨_, rfl, rfl⟩) hd kk
theorem fkX2_13 : Cond.fieldLink RX2 13 RX2 (TX2 1).2.1 (TX2 1).2.2.1 ∈ gw := gw_mem 458 (by decide +kernel) (by decide +kernel)
theorem gfX2_13 (hm : m.1 = RX2) (hk : 103 ∈ ks) (hd : decode m.2.1 pc = .ok (.getfield 13, 3)) (kk : Ev ks m (pc + 3) L (.inr 105 :: sk) S Q) : Ev ks m pc L (.inr 103 :: sk) S Q := ev_getf hm fkX2_13 rfl igX2 (rfl : cls3[2]? = some (RX2, TX2, 10)) (by decide) hk (fun g => ⟨_, rfl, rfl⟩) hd kk
theorem fkX2_16 : Cond.fieldLink RX2 16 RX2 (TX2 3).2.1 (TX2 3).2.2.1 ∈ gw := gw_mem 460 (by decide +kernel) (by decide +kernel)
theorem gfX2_16 (hm : m.1 = RX2) (hk : 103 ∈ ks) (hd : decode m.2.1 pc = .ok (.getfield 16, 3)) (kk : Ev ks m (pc + 3) L (.inr 106 :: sk) S Q) : Ev ks m pc L (.inr 103 :: sk) S Q := ev_getf hm fkX2_16 rfl igX2 (rfl : cls3[2]? = some (RX2, TX2, 10)) (by decide) hk (fun g => ⟨_, rfl, rfl⟩) hd kk
theorem fkX2_19 : Cond.fieldLink RX2 19 RX2 (TX2 4).2.1 (TX2 4).2.2.1 ∈ gw := gw_mem 461 (by decide +kernel) (by decide +kernel)
theorem gfX2_19 (hm : m.1 = RX2) (hk : 103 ∈ ks) (hd : decode m.2.1 pc = .ok (.getfield 19, 3)) (kk : Ev ks m (pc + 3) L (.inr 107 :: sk) S Q) : Ev ks m pc L (.inr 103 :: sk) S Q := ev_getf hm fkX2_19 rfl igX2 (rfl : cls3[2]? = some (RX2, TX2, 10)) (by decide) hk (fun g => ⟨_, rfl, rfl⟩) hd kk
theorem fkX2_23 : Cond.fieldLink RX2 23 RX2 (TX2 6).2.1 (TX2 6).2.2.1 ∈ gw := gw_mem 463 (by decide +kernel) (by decide +kernel)
theorem gfX2_23 (hm : m.1 = RX2) (hk : 103 ∈ ks) (hd : decode m.2.1 pc = .ok (.getfield 23, 3)) (kk : Ev ks m (pc + 3) L (.inr 108 :: sk) S Q) : Ev ks m pc L (.inr 103 :: sk) S Q := ev_getf hm fkX2_23 rfl igX2 (rfl : cls3[2]? = some (RX2, TX2, 10)) (by decide) hk (fun g => ⟨_, rfl, rfl⟩) hd kk
theorem fkX2_26 : Cond.fieldLink RX2 26 RX2 (TX2 7).2.1 (TX2 7).2.2.1 ∈ gw := gw_mem 464 (by decide +kernel) (by decide +kernel)
theorem gfX2_26 (hm : m.1 = RX2) (hk : 103 ∈ ks) (hd : decode m.2.1 pc = .ok (.getfield 26, 3)) (kk : Ev ks m (pc + 3) L (.inr 109 :: sk) S Q) : Ev ks m pc L (.inr 103 :: sk) S Q := ev_getf hm fkX2_26 rfl igX2 (rfl : cls3[2]? = some (RX2, TX2, 10)) (by decide) hk (fun g => ⟨_, rfl, rfl⟩) hd kk
theorem fkX2_29 : Cond.fieldLink RX2 29 RX2 (TX2 8).2.1 (TX2 8).2.2.1 ∈ gw := gw_mem 465 (by decide +kernel) (by decide +kernel)
theorem gfX2_29 (hm : m.1 = RX2) (hk : 103 ∈ ks) (hd : decode m.2.1 pc = .ok (.getfield 29, 3)) (kk : Ev ks m (pc + 3) L (.inr 110 :: sk) S Q) : Ev ks m pc L (.inr 103 :: sk) S Q := ev_getf hm fkX2_29 rfl igX2 (rfl : cls3[2]? = some (RX2, TX2, 10)) (by decide) hk (fun g => ⟨_, rfl, rfl⟩) hd kk
theorem fkX2_32 : Cond.fieldLink RX2 32 RX2 (TX2 9).2.1 (TX2 9).2.2.1 ∈ gw := gw_mem 466 (by decide +kernel) (by decide +kernel)
theorem gfX2_32 (hm : m.1 = RX2) (hk : 103 ∈ ks) (hd : decode m.2.1 pc = .ok (.getfield 32, 3)) (kk : Ev ks m (pc + 3) L (.inr 111 :: sk) S Q) : Ev ks m pc L (.inr 103 :: sk) S Q := ev_getf hm fkX2_32 rfl igX2 (rfl : cls3[2]? = some (RX2, TX2, 10)) (by decide) hk (fun g => ⟨_, rfl, rfl⟩) hd kk
theorem fkX2_68 : Cond.fieldLink RX2 68 RX2 (TX2 2).2.1 (TX2 2).2.2.1 ∈ gw := gw_mem 459 (by decide +kernel) (by decide +kernel)
theorem gfX2_68 (hm : m.1 = RX2) (hk : 103 ∈ ks) (hd : decode m.2.1 pc = .ok (.getfield 68, 3)) (kk : Ev ks m (pc + 3) L (.inl (S 103 2) :: sk) S Q) : Ev ks m pc L (.inr 103 :: sk) S Q := ev_getf hm fkX2_68 rfl igX2 (rfl : cls3[2]? = some (RX2, TX2, 10)) (by decide) hk (fun g => ⟨_, rfl, rfl⟩) hd kk
theorem pfX2_68 {x : Int32} (hm : m.1 = RX2) (hk : 103 ∈ ks) (hd : decode m.2.1 pc = .ok (.putfield 68, 3)) (kk : Ev ks m (pc + 3) L sk (st S 103 2 x) Q) : Ev ks m pc L (.inl x :: .inr 103 :: sk) S Q := ev_putf hm fkX2_68 rfl igX2 (rfl : cls3[2]? = some (RX2, TX2, 10)) tyX2_ok nmX2 rfl rfl (by decide) hk (fun g => ⟨_, rfl, Nat.le_of_ble_eq_true rfl, rfl⟩) hd kk
theorem fkX2_75 : Cond.fieldLink RX2 75 RX2 (TX2 5).2.1 (TX2 5).2.2.1 ∈ gw := gw_mem 462 (by decide +kernel) (by decide +kernel)
theorem gfX2_75 (hm : m.1 = RX2) (hk : 103 ∈ ks) (hd : decode m.2.1 pc = .ok (.getfield 75, 3)) (kk : Ev ks m (pc + 3) L (.inl (S 103 5) :: sk) S Q) : Ev ks m pc L (.inr 103 :: sk) S Q := ev_getf hm fkX2_75 rfl igX2 (rfl : cls3[2]? = some (RX2, TX2, 10)) (by decide) hk (fun g => ⟨_, rfl, rfl⟩) hd kk
theorem pfX2_75 {x : Int32} (hm : m.1 = RX2) (hk : 103 ∈ ks) (hd : decode m.2.1 pc = .ok (.putfield 75, 3)) (kk : Ev ks m (pc + 3) L sk (st S 103 5 x) Q) : Ev ks m pc L (.inl x :: .inr 103 :: sk) S Q := ev_putf hm fkX2_75 rfl igX2 (rfl : cls3[2]? = some (RX2, TX2, 10)) tyX2_ok nmX2 rfl rfl (by decide) hk (fun g => ⟨_, rfl, Nat.le_of_ble_eq_true rfl, rfl⟩) hd kk
end EV
theorem kb_m2 : (Int8.ofInt (-2)).toInt32 = (-2 : Int32) := by decide +kernel
theorem kb_m3 : (Int8.ofInt (-3)).toInt32 = (-3 : Int32) := by decide +kernel
theorem kb_m9 : (Int8.ofInt (-9)).toInt32 = (-9 : Int32) := by decide +kernel
theorem kb_100 : (Int8.ofInt 100).toInt32 = nI 100 := by decide +kernel
theorem kb_103 : (Int8.ofInt 103).toInt32 = nI 103 := by decide +kernel
theorem kb_107 : (Int8.ofInt 107).toInt32 = nI 107 := by decide +kernel
theorem kb_123 : (Int8.ofInt 123).toInt32 = nI 123 := by decide +kernel
theorem kb_15 : (Int8.ofInt 15).toInt32 = nI 15 := by decide +kernel
theorem kb_16 : (Int8.ofInt 16).toInt32 = nI 16 := by decide +kernel
theorem kb_20 : (Int8.ofInt 20).toInt32 = nI 20 := by decide +kernel
theorem kb_24 : (Int8.ofInt 24).toInt32 = nI 24 := by decide +kernel
theorem kb_31 : (Int8.ofInt 31).toInt32 = nI 31 := by decide +kernel
theorem kb_32 : (Int8.ofInt 32).toInt32 = nI 32 := by decide +kernel
theorem kb_6 : (Int8.ofInt 6).toInt32 = nI 6 := by decide +kernel
theorem kb_63 : (Int8.ofInt 63).toInt32 = nI 63 := by decide +kernel
theorem kb_7 : (Int8.ofInt 7).toInt32 = nI 7 := by decide +kernel
theorem kb_8 : (Int8.ofInt 8).toInt32 = nI 8 := by decide +kernel
theorem kb_9 : (Int8.ofInt 9).toInt32 = nI 9 := by decide +kernel
theorem kb_99 : (Int8.ofInt 99).toInt32 = nI 99 := by decide +kernel
theorem kh_1263 : (Int16.ofInt 1263).toInt32 = nI 1263 := by decide +kernel
theorem kh_143 : (Int16.ofInt 143).toInt32 = nI 143 := by decide +kernel
theorem kh_160 : (Int16.ofInt 160).toInt32 = nI 160 := by decide +kernel
theorem kh_2526 : (Int16.ofInt 2526).toInt32 = nI 2526 := by decide +kernel
theorem kh_255 : (Int16.ofInt 255).toInt32 = nI 255 := by decide +kernel
theorem kh_5052 : (Int16.ofInt 5052).toInt32 = nI 5052 := by decide +kernel
theorem kh_6315 : (Int16.ofInt 6315).toInt32 = nI 6315 := by decide +kernel
theorem kh_640 : (Int16.ofInt 640).toInt32 = nI 640 := by decide +kernel
theorem kh_997 : (Int16.ofInt 997).toInt32 = nI 997 := by decide +kernel
theorem kw_265 : Cond.constant RJ6 265 1431655765 ∈ gw := gw_mem 260 (by decide +kernel) (by decide +kernel)
theorem kw_266 : Cond.constant RJ6 266 858993459 ∈ gw := gw_mem 261 (by decide +kernel) (by decide +kernel)
theorem kw_267 : Cond.constant RJ6 267 252645135 ∈ gw := gw_mem 262 (by decide +kernel) (by decide +kernel)
def InW (ks : List Nat) : Prop := ∀ k, Nat.blt k 12 = true → k ∈ ks
def InC (ks : List Nat) : Prop := ∀ k, Nat.blt k 103 = true → k ∈ ks
def InM (ks : List Nat) : Prop := ∀ k, (Nat.ble 103 k && Nat.blt k 112) = true → k ∈ ks
theorem InC.w {ks : List Nat} (h : InC ks) : InW ks := fun k hk => h k (by rw [Nat.blt, Nat.ble_eq] at hk ⊢; omega)
theorem lkX1_172 : Cond.methodLink RX1 172 Lib.Math.max.name ∈ gw := gw_mem 383 (by decide +kernel) (by decide +kernel)
theorem lkX1_198 : Cond.methodLink RX1 198 Lib.Math.min.name ∈ gw := gw_mem 173 (by decide +kernel) (by decide +kernel)
theorem lkX0_65 : Cond.methodLink RX0 65 arraycopyName ∈ gw := gw_mem 170 (by decide +kernel) (by decide +kernel)
theorem kx_s : Cond.static Lib.Math.max.name ∈ gw := gw_mem 384 (by decide +kernel) (by decide +kernel)
theorem kx_i : Cond.initialized "java/lang/Math" ∈ gw := gw_mem 45 (by decide +kernel) (by decide +kernel)
theorem kx_c : Cond.code Lib.Math.max.name Lib.Math.max.code 2 (some .int) ∈ gw := gw_mem 385 (by decide +kernel) (by decide +kernel)
theorem kn_s : Cond.static Lib.Math.min.name ∈ gw := gw_mem 174 (by decide +kernel) (by decide +kernel)
theorem kn_c : Cond.code Lib.Math.min.name Lib.Math.min.code 2 (some .int) ∈ gw := gw_mem 175 (by decide +kernel) (by decide +kernel)
theorem kp_n : Cond.native arraycopyName ∈ gw := gw_mem 172 (by decide +kernel) (by decide +kernel)
theorem kp_s : Cond.static arraycopyName ∈ gw := gw_mem 171 (by decide +kernel) (by decide +kernel)
theorem kp_i : Cond.initialized "java/lang/System" ∈ gw := gw_mem 44 (by decide +kernel) (by decide +kernel)
