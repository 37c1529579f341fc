theorem dL_law__0 : decode cL_law_ 0 = .ok (.new 8, 3) := by decide +kernel
theorem dL_law__3 : decode cL_law_ 3 = .ok (.dup, 1) := by decide +kernel
theorem dL_law__4 : decode cL_law_ 4 = .ok (.invokespecial 120, 3) := by decide +kernel
theorem dL_law__7 : decode cL_law_ 7 = .ok (.astore_n 1, 1) := by decide +kernel
theorem dL_law__8 : decode cL_law_ 8 = .ok (.new 121, 3) := by decide +kernel
theorem dL_law__11 : decode cL_law_ 11 = .ok (.dup, 1) := by decide +kernel
theorem dL_law__12 : decode cL_law_ 12 = .ok (.invokespecial 123, 3) := by decide +kernel
theorem dL_law__15 : decode cL_law_ 15 = .ok (.astore_n 2, 1) := by decide +kernel
theorem dL_law__16 : decode cL_law_ 16 = .ok (.iconst 1, 1) := by decide +kernel
theorem dL_law__17 : decode cL_law_ 17 = .ok (.newarray .long, 2) := by decide +kernel
theorem dL_law__19 : decode cL_law_ 19 = .ok (.astore_n 3, 1) := by decide +kernel
theorem dL_law__20 : decode cL_law_ 20 = .ok (.iconst 0, 1) := by decide +kernel
theorem dL_law__21 : decode cL_law_ 21 = .ok (.istore 4, 2) := by decide +kernel
theorem dL_law__23 : decode cL_law_ 23 = .ok (.iload 4, 2) := by decide +kernel
theorem dL_law__25 : decode cL_law_ 25 = .ok (.aload_n 0, 1) := by decide +kernel
theorem dL_law__26 : decode cL_law_ 26 = .ok (.arraylength, 1) := by decide +kernel
theorem dL_law__27 : decode cL_law_ 27 = .ok (.bipush 9, 2) := by decide +kernel
theorem dL_law__29 : decode cL_law_ 29 = .ok (.isub, 1) := by decide +kernel
theorem dL_law__30 : decode cL_law_ 30 = .ok (.if_icmp .gt 2783, 3) := by decide +kernel
theorem dL_law__33 : decode cL_law_ 33 = .ok (.aload_n 0, 1) := by decide +kernel
theorem dL_law__34 : decode cL_law_ 34 = .ok (.iload 4, 2) := by decide +kernel
theorem dL_law__36 : decode cL_law_ 36 = .ok (.iaload, 1) := by decide +kernel
theorem dL_law__37 : decode cL_law_ 37 = .ok (.bipush 63, 2) := by decide +kernel
theorem dL_law__39 : decode cL_law_ 39 = .ok (.iand, 1) := by decide +kernel
theorem dL_law__40 : decode cL_law_ 40 = .ok (.tableswitch 2767 0 39 #[176, 249, 305, 361, 417, 430, 443, 499, 567, 635, 703, 771, 839, 907, 1053, 1128, 1208, 1276, 1356, 1424, 1492, 1560, 1616, 1684, 1752, 1832, 1923, 2003, 2083, 2151, 2219, 2275, 2331, 2387, 2455, 2559, 2691, 2704, 2717, 2742], 176) := by decide +kernel
theorem dL_law__216 : decode cL_law_ 216 = .ok (.aload_n 1, 1) := by decide +kernel
theorem dL_law__217 : decode cL_law_ 217 = .ok (.aload_n 0, 1) := by decide +kernel
theorem dL_law__218 : decode cL_law_ 218 = .ok (.iload 4, 2) := by decide +kernel
theorem dL_law__220 : decode cL_law_ 220 = .ok (.iconst 1, 1) := by decide +kernel
theorem dL_law__221 : decode cL_law_ 221 = .ok (.iadd, 1) := by decide +kernel
theorem dL_law__222 : decode cL_law_ 222 = .ok (.iaload, 1) := by decide +kernel
theorem dL_law__223 : decode cL_law_ 223 = .ok (.aload_n 0, 1) := by decide +kernel
theorem dL_law__224 : decode cL_law_ 224 = .ok (.iload 4, 2) := by decide +kernel
theorem dL_law__226 : decode cL_law_ 226 = .ok (.iconst 2, 1) := by decide +kernel
theorem dL_law__227 : decode cL_law_ 227 = .ok (.iadd, 1) := by decide +kernel
theorem dL_law__228 : decode cL_law_ 228 = .ok (.iaload, 1) := by decide +kernel
theorem dL_law__229 : decode cL_law_ 229 = .ok (.aload_n 0, 1) := by decide +kernel
theorem dL_law__230 : decode cL_law_ 230 = .ok (.iload 4, 2) := by decide +kernel
theorem dL_law__232 : decode cL_law_ 232 = .ok (.iconst 3, 1) := by decide +kernel
theorem dL_law__233 : decode cL_law_ 233 = .ok (.iadd, 1) := by decide +kernel
theorem dL_law__234 : decode cL_law_ 234 = .ok (.iaload, 1) := by decide +kernel
theorem dL_law__235 : decode cL_law_ 235 = .ok (.aload_n 0, 1) := by decide +kernel
theorem dL_law__236 : decode cL_law_ 236 = .ok (.iload 4, 2) := by decide +kernel
theorem dL_law__238 : decode cL_law_ 238 = .ok (.iconst 4, 1) := by decide +kernel
theorem dL_law__239 : decode cL_law_ 239 = .ok (.iadd, 1) := by decide +kernel
theorem dL_law__240 : decode cL_law_ 240 = .ok (.iaload, 1) := by decide +kernel
theorem dL_law__241 : decode cL_law_ 241 = .ok (.aload_n 0, 1) := by decide +kernel
theorem dL_law__242 : decode cL_law_ 242 = .ok (.iload 4, 2) := by decide +kernel
theorem dL_law__244 : decode cL_law_ 244 = .ok (.iconst 5, 1) := by decide +kernel
theorem dL_law__245 : decode cL_law_ 245 = .ok (.iadd, 1) := by decide +kernel
theorem dL_law__246 : decode cL_law_ 246 = .ok (.iaload, 1) := by decide +kernel
theorem dL_law__247 : decode cL_law_ 247 = .ok (.invokevirtual 124, 3) := by decide +kernel
theorem dL_law__250 : decode cL_law_ 250 = .ok (.aload_n 2, 1) := by decide +kernel
theorem dL_law__251 : decode cL_law_ 251 = .ok (.aload_n 0, 1) := by decide +kernel
theorem dL_law__252 : decode cL_law_ 252 = .ok (.iload 4, 2) := by decide +kernel
theorem dL_law__254 : decode cL_law_ 254 = .ok (.iconst 1, 1) := by decide +kernel
theorem dL_law__255 : decode cL_law_ 255 = .ok (.iadd, 1) := by decide +kernel
theorem dL_law__256 : decode cL_law_ 256 = .ok (.iaload, 1) := by decide +kernel
theorem dL_law__257 : decode cL_law_ 257 = .ok (.aload_n 0, 1) := by decide +kernel
theorem dL_law__258 : decode cL_law_ 258 = .ok (.iload 4, 2) := by decide +kernel
theorem dL_law__260 : decode cL_law_ 260 = .ok (.iconst 2, 1) := by decide +kernel
theorem dL_law__261 : decode cL_law_ 261 = .ok (.iadd, 1) := by decide +kernel
theorem dL_law__262 : decode cL_law_ 262 = .ok (.iaload, 1) := by decide +kernel
theorem dL_law__263 : decode cL_law_ 263 = .ok (.aload_n 0, 1) := by decide +kernel
theorem dL_law__264 : decode cL_law_ 264 = .ok (.iload 4, 2) := by decide +kernel
theorem dL_law__266 : decode cL_law_ 266 = .ok (.iconst 3, 1) := by decide +kernel
theorem dL_law__267 : decode cL_law_ 267 = .ok (.iadd, 1) := by decide +kernel
theorem dL_law__268 : decode cL_law_ 268 = .ok (.iaload, 1) := by decide +kernel
theorem dL_law__269 : decode cL_law_ 269 = .ok (.aload_n 0, 1) := by decide +kernel
theorem dL_law__270 : decode cL_law_ 270 = .ok (.iload 4, 2) := by decide +kernel
theorem dL_law__272 : decode cL_law_ 272 = .ok (.iconst 4, 1) := by decide +kernel
theorem dL_law__273 : decode cL_law_ 273 = .ok (.iadd, 1) := by decide +kernel
theorem dL_law__274 : decode cL_law_ 274 = .ok (.iaload, 1) := by decide +kernel
theorem dL_law__275 : decode cL_law_ 275 = .ok (.aload_n 0, 1) := by decide +kernel
theorem dL_law__276 : decode cL_law_ 276 = .ok (.iload 4, 2) := by decide +kernel
theorem dL_law__278 : decode cL_law_ 278 = .ok (.iconst 5, 1) := by decide +kernel
theorem dL_law__279 : decode cL_law_ 279 = .ok (.iadd, 1) := by decide +kernel
theorem dL_law__280 : decode cL_law_ 280 = .ok (.iaload, 1) := by decide +kernel
theorem dL_law__281 : decode cL_law_ 281 = .ok (.invokevirtual 127, 3) := by decide +kernel
theorem dL_law__284 : decode cL_law_ 284 = .ok (.if_icmp .eq 2523, 3) := by decide +kernel
theorem dL_law__287 : decode cL_law_ 287 = .ok (.iconst 0, 1) := by decide +kernel
theorem dL_law__288 : decode cL_law_ 288 = .ok (.ireturn, 1) := by decide +kernel
theorem dL_law__289 : decode cL_law_ 289 = .ok (.aload_n 1, 1) := by decide +kernel
theorem dL_law__290 : decode cL_law_ 290 = .ok (.aload_n 0, 1) := by decide +kernel
theorem dL_law__291 : decode cL_law_ 291 = .ok (.iload 4, 2) := by decide +kernel
theorem dL_law__293 : decode cL_law_ 293 = .ok (.iconst 1, 1) := by decide +kernel
theorem dL_law__294 : decode cL_law_ 294 = .ok (.iadd, 1) := by decide +kernel
theorem dL_law__295 : decode cL_law_ 295 = .ok (.iaload, 1) := by decide +kernel
theorem dL_law__296 : decode cL_law_ 296 = .ok (.aload_n 3, 1) := by decide +kernel
theorem dL_law__297 : decode cL_law_ 297 = .ok (.invokestatic 128, 3) := by decide +kernel
theorem dL_law__300 : decode cL_law_ 300 = .ok (.istore 5, 2) := by decide +kernel
theorem dL_law__302 : decode cL_law_ 302 = .ok (.aload_n 2, 1) := by decide +kernel
theorem dL_law__303 : decode cL_law_ 303 = .ok (.aload_n 0, 1) := by decide +kernel
theorem dL_law__304 : decode cL_law_ 304 = .ok (.iload 4, 2) := by decide +kernel
theorem dL_law__306 : decode cL_law_ 306 = .ok (.iconst 1, 1) := by decide +kernel
theorem dL_law__307 : decode cL_law_ 307 = .ok (.iadd, 1) := by decide +kernel
theorem dL_law__308 : decode cL_law_ 308 = .ok (.iaload, 1) := by decide +kernel
theorem dL_law__309 : decode cL_law_ 309 = .ok (.invokevirtual 133, 3) := by decide +kernel
theorem dL_law__312 : decode cL_law_ 312 = .ok (.istore 6, 2) := by decide +kernel
theorem dL_law__314 : decode cL_law_ 314 = .ok (.aload_n 2, 1) := by decide +kernel
theorem dL_law__315 : decode cL_law_ 315 = .ok (.invokevirtual 134, 3) := by decide +kernel
theorem dL_law__318 : decode cL_law_ 318 = .ok (.iload 5, 2) := by decide +kernel
theorem dL_law__320 : decode cL_law_ 320 = .ok (.if_icmp .eq 5, 3) := by decide +kernel
theorem dL_law__323 : decode cL_law_ 323 = .ok (.iconst 0, 1) := by decide +kernel
theorem dL_law__324 : decode cL_law_ 324 = .ok (.ireturn, 1) := by decide +kernel
theorem dL_law__325 : decode cL_law_ 325 = .ok (.iload 5, 2) := by decide +kernel
theorem dL_law__327 : decode cL_law_ 327 = .ok (.ifCond .ne 15, 3) := by decide +kernel
theorem dL_law__330 : decode cL_law_ 330 = .ok (.aload_n 3, 1) := by decide +kernel
theorem dL_law__331 : decode cL_law_ 331 = .ok (.iconst 0, 1) := by decide +kernel
theorem dL_law__332 : decode cL_law_ 332 = .ok (.laload, 1) := by decide +kernel
theorem dL_law__333 : decode cL_law_ 333 = .ok (.iload 6, 2) := by decide +kernel
theorem dL_law__335 : decode cL_law_ 335 = .ok (.i2l, 1) := by decide +kernel
theorem dL_law__336 : decode cL_law_ 336 = .ok (.lcmp, 1) := by decide +kernel
theorem dL_law__337 : decode cL_law_ 337 = .ok (.ifCond .eq 5, 3) := by decide +kernel
theorem dL_law__340 : decode cL_law_ 340 = .ok (.iconst 0, 1) := by decide +kernel
theorem dL_law__341 : decode cL_law_ 341 = .ok (.ireturn, 1) := by decide +kernel
theorem dL_law__342 : decode cL_law_ 342 = .ok (.goto 2465, 3) := by decide +kernel
theorem dL_law__345 : decode cL_law_ 345 = .ok (.aload_n 1, 1) := by decide +kernel
theorem dL_law__346 : decode cL_law_ 346 = .ok (.aload_n 0, 1) := by decide +kernel
theorem dL_law__347 : decode cL_law_ 347 = .ok (.iload 4, 2) := by decide +kernel
theorem dL_law__349 : decode cL_law_ 349 = .ok (.iconst 1, 1) := by decide +kernel
theorem dL_law__350 : decode cL_law_ 350 = .ok (.iadd, 1) := by decide +kernel
theorem dL_law__351 : decode cL_law_ 351 = .ok (.iaload, 1) := by decide +kernel
theorem dL_law__352 : decode cL_law_ 352 = .ok (.aload_n 3, 1) := by decide +kernel
theorem dL_law__353 : decode cL_law_ 353 = .ok (.invokestatic 138, 3) := by decide +kernel
theorem dL_law__356 : decode cL_law_ 356 = .ok (.istore 5, 2) := by decide +kernel
theorem dL_law__358 : decode cL_law_ 358 = .ok (.aload_n 2, 1) := by decide +kernel
theorem dL_law__359 : decode cL_law_ 359 = .ok (.aload_n 0, 1) := by decide +kernel
theorem dL_law__360 : decode cL_law_ 360 = .ok (.iload 4, 2) := by decide +kernel
theorem dL_law__362 : decode cL_law_ 362 = .ok (.iconst 1, 1) := by decide +kernel
theorem dL_law__363 : decode cL_law_ 363 = .ok (.iadd, 1) := by decide +kernel
theorem dL_law__364 : decode cL_law_ 364 = .ok (.iaload, 1) := by decide +kernel
theorem dL_law__365 : decode cL_law_ 365 = .ok (.invokevirtual 140, 3) := by decide +kernel
theorem dL_law__368 : decode cL_law_ 368 = .ok (.istore 6, 2) := by decide +kernel
theorem dL_law__370 : decode cL_law_ 370 = .ok (.aload_n 2, 1) := by decide +kernel
theorem dL_law__371 : decode cL_law_ 371 = .ok (.invokevirtual 134, 3) := by decide +kernel
theorem dL_law__374 : decode cL_law_ 374 = .ok (.iload 5, 2) := by decide +kernel
theorem dL_law__376 : decode cL_law_ 376 = .ok (.if_icmp .eq 5, 3) := by decide +kernel
theorem dL_law__379 : decode cL_law_ 379 = .ok (.iconst 0, 1) := by decide +kernel
theorem dL_law__380 : decode cL_law_ 380 = .ok (.ireturn, 1) := by decide +kernel
theorem dL_law__381 : decode cL_law_ 381 = .ok (.iload 5, 2) := by decide +kernel
theorem dL_law__383 : decode cL_law_ 383 = .ok (.ifCond .ne 15, 3) := by decide +kernel
theorem dL_law__386 : decode cL_law_ 386 = .ok (.aload_n 3, 1) := by decide +kernel
theorem dL_law__387 : decode cL_law_ 387 = .ok (.iconst 0, 1) := by decide +kernel
theorem dL_law__388 : decode cL_law_ 388 = .ok (.laload, 1) := by decide +kernel
theorem dL_law__389 : decode cL_law_ 389 = .ok (.iload 6, 2) := by decide +kernel
theorem dL_law__391 : decode cL_law_ 391 = .ok (.i2l, 1) := by decide +kernel
theorem dL_law__392 : decode cL_law_ 392 = .ok (.lcmp, 1) := by decide +kernel
theorem dL_law__393 : decode cL_law_ 393 = .ok (.ifCond .eq 5, 3) := by decide +kernel
theorem dL_law__396 : decode cL_law_ 396 = .ok (.iconst 0, 1) := by decide +kernel
theorem dL_law__397 : decode cL_law_ 397 = .ok (.ireturn, 1) := by decide +kernel
theorem dL_law__398 : decode cL_law_ 398 = .ok (.goto 2409, 3) := by decide +kernel
theorem dL_law__401 : decode cL_law_ 401 = .ok (.aload_n 1, 1) := by decide +kernel
theorem dL_law__402 : decode cL_law_ 402 = .ok (.aload_n 0, 1) := by decide +kernel
theorem dL_law__403 : decode cL_law_ 403 = .ok (.iload 4, 2) := by decide +kernel
theorem dL_law__405 : decode cL_law_ 405 = .ok (.iconst 1, 1) := by decide +kernel
theorem dL_law__406 : decode cL_law_ 406 = .ok (.iadd, 1) := by decide +kernel
theorem dL_law__407 : decode cL_law_ 407 = .ok (.iaload, 1) := by decide +kernel
theorem dL_law__408 : decode cL_law_ 408 = .ok (.aload_n 3, 1) := by decide +kernel
theorem dL_law__409 : decode cL_law_ 409 = .ok (.invokestatic 141, 3) := by decide +kernel
theorem dL_law__412 : decode cL_law_ 412 = .ok (.istore 5, 2) := by decide +kernel
theorem dL_law__414 : decode cL_law_ 414 = .ok (.aload_n 2, 1) := by decide +kernel
theorem dL_law__415 : decode cL_law_ 415 = .ok (.aload_n 0, 1) := by decide +kernel
theorem dL_law__416 : decode cL_law_ 416 = .ok (.iload 4, 2) := by decide +kernel
theorem dL_law__418 : decode cL_law_ 418 = .ok (.iconst 1, 1) := by decide +kernel
theorem dL_law__419 : decode cL_law_ 419 = .ok (.iadd, 1) := by decide +kernel
theorem dL_law__420 : decode cL_law_ 420 = .ok (.iaload, 1) := by decide +kernel
theorem dL_law__421 : decode cL_law_ 421 = .ok (.invokevirtual 143, 3) := by decide +kernel
theorem dL_law__424 : decode cL_law_ 424 = .ok (.istore 6, 2) := by decide +kernel
theorem dL_law__426 : decode cL_law_ 426 = .ok (.aload_n 2, 1) := by decide +kernel
theorem dL_law__427 : decode cL_law_ 427 = .ok (.invokevirtual 134, 3) := by decide +kernel
theorem dL_law__430 : decode cL_law_ 430 = .ok (.iload 5, 2) := by decide +kernel
theorem dL_law__432 : decode cL_law_ 432 = .ok (.if_icmp .eq 5, 3) := by decide +kernel
theorem dL_law__435 : decode cL_law_ 435 = .ok (.iconst 0, 1) := by decide +kernel
theorem dL_law__436 : decode cL_law_ 436 = .ok (.ireturn, 1) := by decide +kernel
theorem dL_law__437 : decode cL_law_ 437 = .ok (.iload 5, 2) := by decide +kernel
theorem dL_law__439 : decode cL_law_ 439 = .ok (.ifCond .ne 15, 3) := by decide +kernel
theorem dL_law__442 : decode cL_law_ 442 = .ok (.aload_n 3, 1) := by decide +kernel
theorem dL_law__443 : decode cL_law_ 443 = .ok (.iconst 0, 1) := by decide +kernel
theorem dL_law__444 : decode cL_law_ 444 = .ok (.laload, 1) := by decide +kernel
theorem dL_law__445 : decode cL_law_ 445 = .ok (.iload 6, 2) := by decide +kernel
theorem dL_law__447 : decode cL_law_ 447 = .ok (.i2l, 1) := by decide +kernel
theorem dL_law__448 : decode cL_law_ 448 = .ok (.lcmp, 1) := by decide +kernel
theorem dL_law__449 : decode cL_law_ 449 = .ok (.ifCond .eq 5, 3) := by decide +kernel
theorem dL_law__452 : decode cL_law_ 452 = .ok (.iconst 0, 1) := by decide +kernel
theorem dL_law__453 : decode cL_law_ 453 = .ok (.ireturn, 1) := by decide +kernel
theorem dL_law__454 : decode cL_law_ 454 = .ok (.goto 2353, 3) := by decide +kernel
theorem dL_law__457 : decode cL_law_ 457 = .ok (.aload_n 1, 1) := by decide +kernel
theorem dL_law__458 : decode cL_law_ 458 = .ok (.invokevirtual 144, 3) := by decide +kernel
theorem dL_law__461 : decode cL_law_ 461 = .ok (.aload_n 2, 1) := by decide +kernel
theorem dL_law__462 : decode cL_law_ 462 = .ok (.invokevirtual 147, 3) := by decide +kernel
theorem dL_law__465 : decode cL_law_ 465 = .ok (.if_icmp .eq 2342, 3) := by decide +kernel
theorem dL_law__468 : decode cL_law_ 468 = .ok (.iconst 0, 1) := by decide +kernel
theorem dL_law__469 : decode cL_law_ 469 = .ok (.ireturn, 1) := by decide +kernel
theorem dL_law__470 : decode cL_law_ 470 = .ok (.aload_n 1, 1) := by decide +kernel
theorem dL_law__471 : decode cL_law_ 471 = .ok (.invokevirtual 148, 3) := by decide +kernel
theorem dL_law__474 : decode cL_law_ 474 = .ok (.aload_n 2, 1) := by decide +kernel
theorem dL_law__475 : decode cL_law_ 475 = .ok (.invokevirtual 151, 3) := by decide +kernel
theorem dL_law__478 : decode cL_law_ 478 = .ok (.if_icmp .eq 2329, 3) := by decide +kernel
theorem dL_law__481 : decode cL_law_ 481 = .ok (.iconst 0, 1) := by decide +kernel
theorem dL_law__482 : decode cL_law_ 482 = .ok (.ireturn, 1) := by decide +kernel
theorem dL_law__483 : decode cL_law_ 483 = .ok (.aload_n 1, 1) := by decide +kernel
theorem dL_law__484 : decode cL_law_ 484 = .ok (.aload_n 0, 1) := by decide +kernel
theorem dL_law__485 : decode cL_law_ 485 = .ok (.iload 4, 2) := by decide +kernel
theorem dL_law__487 : decode cL_law_ 487 = .ok (.iconst 1, 1) := by decide +kernel
theorem dL_law__488 : decode cL_law_ 488 = .ok (.iadd, 1) := by decide +kernel
theorem dL_law__489 : decode cL_law_ 489 = .ok (.iaload, 1) := by decide +kernel
theorem dL_law__490 : decode cL_law_ 490 = .ok (.aload_n 3, 1) := by decide +kernel
theorem dL_law__491 : decode cL_law_ 491 = .ok (.invokestatic 152, 3) := by decide +kernel
theorem dL_law__494 : decode cL_law_ 494 = .ok (.istore 5, 2) := by decide +kernel
theorem dL_law__496 : decode cL_law_ 496 = .ok (.aload_n 2, 1) := by decide +kernel
theorem dL_law__497 : decode cL_law_ 497 = .ok (.aload_n 0, 1) := by decide +kernel
theorem dL_law__498 : decode cL_law_ 498 = .ok (.iload 4, 2) := by decide +kernel
theorem dL_law__500 : decode cL_law_ 500 = .ok (.iconst 1, 1) := by decide +kernel
theorem dL_law__501 : decode cL_law_ 501 = .ok (.iadd, 1) := by decide +kernel
theorem dL_law__502 : decode cL_law_ 502 = .ok (.iaload, 1) := by decide +kernel
theorem dL_law__503 : decode cL_law_ 503 = .ok (.invokevirtual 154, 3) := by decide +kernel
theorem dL_law__506 : decode cL_law_ 506 = .ok (.istore 6, 2) := by decide +kernel
theorem dL_law__508 : decode cL_law_ 508 = .ok (.aload_n 2, 1) := by decide +kernel
theorem dL_law__509 : decode cL_law_ 509 = .ok (.invokevirtual 134, 3) := by decide +kernel
theorem dL_law__512 : decode cL_law_ 512 = .ok (.iload 5, 2) := by decide +kernel
theorem dL_law__514 : decode cL_law_ 514 = .ok (.if_icmp .eq 5, 3) := by decide +kernel
theorem dL_law__517 : decode cL_law_ 517 = .ok (.iconst 0, 1) := by decide +kernel
theorem dL_law__518 : decode cL_law_ 518 = .ok (.ireturn, 1) := by decide +kernel
theorem dL_law__519 : decode cL_law_ 519 = .ok (.iload 5, 2) := by decide +kernel
theorem dL_law__521 : decode cL_law_ 521 = .ok (.ifCond .ne 15, 3) := by decide +kernel
theorem dL_law__524 : decode cL_law_ 524 = .ok (.aload_n 3, 1) := by decide +kernel
theorem dL_law__525 : decode cL_law_ 525 = .ok (.iconst 0, 1) := by decide +kernel
theorem dL_law__526 : decode cL_law_ 526 = .ok (.laload, 1) := by decide +kernel
theorem dL_law__527 : decode cL_law_ 527 = .ok (.iload 6, 2) := by decide +kernel
theorem dL_law__529 : decode cL_law_ 529 = .ok (.i2l, 1) := by decide +kernel
theorem dL_law__530 : decode cL_law_ 530 = .ok (.lcmp, 1) := by decide +kernel
theorem dL_law__531 : decode cL_law_ 531 = .ok (.ifCond .eq 5, 3) := by decide +kernel
theorem dL_law__534 : decode cL_law_ 534 = .ok (.iconst 0, 1) := by decide +kernel
theorem dL_law__535 : decode cL_law_ 535 = .ok (.ireturn, 1) := by decide +kernel
theorem dL_law__536 : decode cL_law_ 536 = .ok (.goto 2271, 3) := by decide +kernel
theorem dL_law__539 : decode cL_law_ 539 = .ok (.aload_n 1, 1) := by decide +kernel
theorem dL_law__540 : decode cL_law_ 540 = .ok (.aload_n 0, 1) := by decide +kernel
theorem dL_law__541 : decode cL_law_ 541 = .ok (.iload 4, 2) := by decide +kernel
theorem dL_law__543 : decode cL_law_ 543 = .ok (.iconst 1, 1) := by decide +kernel
theorem dL_law__544 : decode cL_law_ 544 = .ok (.iadd, 1) := by decide +kernel
theorem dL_law__545 : decode cL_law_ 545 = .ok (.iaload, 1) := by decide +kernel
theorem dL_law__546 : decode cL_law_ 546 = .ok (.aload_n 0, 1) := by decide +kernel
theorem dL_law__547 : decode cL_law_ 547 = .ok (.iload 4, 2) := by decide +kernel
theorem dL_law__549 : decode cL_law_ 549 = .ok (.iconst 2, 1) := by decide +kernel
theorem dL_law__550 : decode cL_law_ 550 = .ok (.iadd, 1) := by decide +kernel
theorem dL_law__551 : decode cL_law_ 551 = .ok (.iaload, 1) := by decide +kernel
theorem dL_law__552 : decode cL_law_ 552 = .ok (.aload_n 3, 1) := by decide +kernel
theorem dL_law__553 : decode cL_law_ 553 = .ok (.invokestatic 155, 3) := by decide +kernel
theorem dL_law__556 : decode cL_law_ 556 = .ok (.istore 5, 2) := by decide +kernel
