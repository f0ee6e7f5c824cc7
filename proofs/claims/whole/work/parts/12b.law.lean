def fL_law (len : Nat) (xs : Nat → Int32) (M : zM) : Option Bool :=
  zlp (α := Int32 × zM) (fun rec164 => (fun (u478 : Int32 × zM) => match u478 with | (x162, M163) => if ((Int32.ofNat len) - (6 : Int32)) < x162 then (some true) else (grd (zix x162 len) (lt (((xs (zn x162)) &&& (63 : Int32))) (fun (x167 : Int32) => jn (α := zM) (fun (M322 : zM) => rec164 ((x162 + (6 : Int32)), M322)) (fun k323 => if x167 = (0 : Int32) then (grd (zix (x162 + (1 : Int32)) len) (grd (zix (x162 + (2 : Int32)) len) (bi (fX10_feed ((((xs (zn (x162 + (1 : Int32))))).toInt64 <<< ((32 : Int32).toInt64 &&& 63)) ||| (((xs (zn (x162 + (2 : Int32))))).toInt64 &&& (4294967295 : Int64))) M163) (fun (x325 : Int32) (M324 : zM) => grd (zix (x162 + (1 : Int32)) len) (grd (zix (x162 + (2 : Int32)) len) (bi (fX11_feed ((((xs (zn (x162 + (1 : Int32))))).toInt64 <<< ((32 : Int32).toInt64 &&& 63)) ||| (((xs (zn (x162 + (2 : Int32))))).toInt64 &&& (4294967295 : Int64))) M324) (fun (x327 : Int32) (M326 : zM) => if x325 = x327 then (k323 M326) else (some false)))))))) else (if x167 = (1 : Int32) then (grd (zix (x162 + (1 : Int32)) len) (bi (fX10_end (xs (zn (x162 + (1 : Int32)))) M163) (fun (x329 : Int32) (M328 : zM) => grd (zix (x162 + (1 : Int32)) len) (bi (fX11_end (xs (zn (x162 + (1 : Int32)))) M328) (fun (x331 : Int32) (M330 : zM) => if x329 = x331 then (k323 M330) else (some false)))))) else (if x167 = (2 : Int32) then (bi (fX10_road M163) (fun (x333 : Int32) (M332 : zM) => bi (fX11_road M332) (fun (x335 : Int32) (M334 : zM) => if x333 = x335 then (k323 M334) else (some false)))) else (if x167 = (3 : Int32) then (lt (fX10_fault M163) (fun (x336 : Int32) => lt (fX11_fault M163) (fun (x337 : Int32) => if x336 = x337 then (k323 M163) else (some false)))) else (if x167 = (4 : Int32) then (grd (zix (x162 + (1 : Int32)) len) (sq (fX10_rule (xs (zn (x162 + (1 : Int32)))) M163) (fun (x338 : Int32) => grd (zix (x162 + (1 : Int32)) len) (sq (fX11_rule (xs (zn (x162 + (1 : Int32)))) M163) (fun (x339 : Int32) => if x338 = x339 then (k323 M163) else (some false)))))) else (if x167 = (5 : Int32) then (grd (zix (x162 + (1 : Int32)) len) (grd (zix (x162 + (2 : Int32)) len) (sq (fX10_mixed (xs (zn (x162 + (1 : Int32)))) (xs (zn (x162 + (2 : Int32)))) M163) (fun (x340 : Int32) => grd (zix (x162 + (1 : Int32)) len) (grd (zix (x162 + (2 : Int32)) len) (sq (fX11_mixed (xs (zn (x162 + (1 : Int32)))) (xs (zn (x162 + (2 : Int32)))) M163) (fun (x341 : Int32) => if x340 = x341 then (k323 M163) else (some false)))))))) else (if x167 = (6 : Int32) then (grd (zix (x162 + (1 : Int32)) len) (bi (fX10_setClock (xs (zn (x162 + (1 : Int32)))) M163) (fun (x343 : Int32) (M342 : zM) => grd (zix (x162 + (1 : Int32)) len) (bi (fX11_setClock (xs (zn (x162 + (1 : Int32)))) M342) (fun (x345 : Int32) (M344 : zM) => if x343 = x345 then (k323 M344) else (some false)))))) else (if x167 = (7 : Int32) then (grd (zix (x162 + (1 : Int32)) len) (grd (zix (x162 + (2 : Int32)) len) (grd (zix (x162 + (3 : Int32)) len) (grd (zix (x162 + (4 : Int32)) len) (bi (fX10_line (xs (zn (x162 + (1 : Int32)))) (xs (zn (x162 + (2 : Int32)))) (xs (zn (x162 + (3 : Int32)))) (xs (zn (x162 + (4 : Int32)))) M163) (fun (x347 : Int32) (M346 : zM) => grd (zix (x162 + (1 : Int32)) len) (grd (zix (x162 + (2 : Int32)) len) (grd (zix (x162 + (3 : Int32)) len) (grd (zix (x162 + (4 : Int32)) len) (bi (fX11_line (xs (zn (x162 + (1 : Int32)))) (xs (zn (x162 + (2 : Int32)))) (xs (zn (x162 + (3 : Int32)))) (xs (zn (x162 + (4 : Int32)))) M346) (fun (x349 : Int32) (M348 : zM) => if x347 = x349 then (k323 M348) else (some false)))))))))))) else (if x167 = (8 : Int32) then (grd (zix (x162 + (1 : Int32)) len) (grd (zix (x162 + (2 : Int32)) len) (bi (fX10_drop (xs (zn (x162 + (1 : Int32)))) (xs (zn (x162 + (2 : Int32)))) M163) (fun (x351 : Int32) (M350 : zM) => grd (zix (x162 + (1 : Int32)) len) (grd (zix (x162 + (2 : Int32)) len) (bi (fX11_drop (xs (zn (x162 + (1 : Int32)))) (xs (zn (x162 + (2 : Int32)))) M350) (fun (x353 : Int32) (M352 : zM) => if x351 = x353 then (k323 M352) else (some false)))))))) else (if x167 = (9 : Int32) then (grd (zix (x162 + (1 : Int32)) len) (grd (zix (x162 + (2 : Int32)) len) (grd (zix (x162 + (3 : Int32)) len) (sq (fX10_of (xs (zn (x162 + (1 : Int32)))) (xs (zn (x162 + (2 : Int32)))) (xs (zn (x162 + (3 : Int32)))) M163) (fun (x354 : Int32) => grd (zix (x162 + (1 : Int32)) len) (grd (zix (x162 + (2 : Int32)) len) (grd (zix (x162 + (3 : Int32)) len) (sq (fX11_of (xs (zn (x162 + (1 : Int32)))) (xs (zn (x162 + (2 : Int32)))) (xs (zn (x162 + (3 : Int32)))) M163) (fun (x355 : Int32) => if x354 = x355 then (k323 M163) else (some false)))))))))) else (if x167 = (10 : Int32) then (grd (zix (x162 + (1 : Int32)) len) (grd (zix (x162 + (2 : Int32)) len) (grd (zix (x162 + (3 : Int32)) len) (grd (zix (x162 + (4 : Int32)) len) (bi (fX10_sign (xs (zn (x162 + (1 : Int32)))) (xs (zn (x162 + (2 : Int32)))) (xs (zn (x162 + (3 : Int32)))) (xs (zn (x162 + (4 : Int32)))) M163) (fun (x357 : Int32) (M356 : zM) => grd (zix (x162 + (1 : Int32)) len) (grd (zix (x162 + (2 : Int32)) len) (grd (zix (x162 + (3 : Int32)) len) (grd (zix (x162 + (4 : Int32)) len) (bi (fX11_sign (xs (zn (x162 + (1 : Int32)))) (xs (zn (x162 + (2 : Int32)))) (xs (zn (x162 + (3 : Int32)))) (xs (zn (x162 + (4 : Int32)))) M356) (fun (x359 : Int32) (M358 : zM) => if x357 = x359 then (k323 M358) else (some false)))))))))))) else (if x167 = (11 : Int32) then (grd (zix (x162 + (1 : Int32)) len) (grd (zix (x162 + (2 : Int32)) len) (sq (fX10_took (xs (zn (x162 + (1 : Int32)))) (xs (zn (x162 + (2 : Int32)))) M163) (fun (x360 : Int32) => grd (zix (x162 + (1 : Int32)) len) (grd (zix (x162 + (2 : Int32)) len) (sq (fX11_took (xs (zn (x162 + (1 : Int32)))) (xs (zn (x162 + (2 : Int32)))) M163) (fun (x361 : Int32) => if x360 = x361 then (k323 M163) else (some false)))))))) else (if x167 = (12 : Int32) then (grd (zix (x162 + (1 : Int32)) len) (grd (zix (x162 + (2 : Int32)) len) (bi (fX10_cost (xs (zn (x162 + (1 : Int32)))) (xs (zn (x162 + (2 : Int32)))) M163) (fun (x363 : Int32) (M362 : zM) => grd (zix (x162 + (1 : Int32)) len) (grd (zix (x162 + (2 : Int32)) len) (sq (fX11_cost (xs (zn (x162 + (1 : Int32)))) (xs (zn (x162 + (2 : Int32)))) M362) (fun (x364 : Int32) => if x363 = x364 then (k323 M362) else (some false)))))))) else (if x167 = (13 : Int32) then (grd (zix (x162 + (1 : Int32)) len) (grd (zix (x162 + (2 : Int32)) len) (sq (fX10_why (xs (zn (x162 + (1 : Int32)))) (xs (zn (x162 + (2 : Int32)))) M163) (fun (x365 : Int32) => grd (zix (x162 + (1 : Int32)) len) (grd (zix (x162 + (2 : Int32)) len) (sq (fX11_why (xs (zn (x162 + (1 : Int32)))) (xs (zn (x162 + (2 : Int32)))) M163) (fun (x366 : Int32) => if x365 = x366 then (k323 M163) else (some false)))))))) else (if x167 = (14 : Int32) then (grd (zix (x162 + (1 : Int32)) len) (bi (fX10_best (xs (zn (x162 + (1 : Int32)))) M163) (fun (x368 : Int64) (M367 : zM) => grd (zix (x162 + (1 : Int32)) len) (bi (fX11_best (xs (zn (x162 + (1 : Int32)))) M367) (fun (x370 : Int64) (M369 : zM) => if x368 = x370 then (k323 M369) else (some false)))))) else (if x167 = (15 : Int32) then (grd (zix (x162 + (1 : Int32)) len) (bi (fX10_first (xs (zn (x162 + (1 : Int32)))) M163) (fun (x372 : Int32) (M371 : zM) => grd (zix (x162 + (1 : Int32)) len) (bi (fX11_first (xs (zn (x162 + (1 : Int32)))) M371) (fun (x374 : Int32) (M373 : zM) => if x372 = x374 then (k323 M373) else (some false)))))) else (if x167 = (16 : Int32) then (grd (zix (x162 + (1 : Int32)) len) (grd (zix (x162 + (2 : Int32)) len) (bi (fX10_sure (xs (zn (x162 + (1 : Int32)))) (xs (zn (x162 + (2 : Int32)))) M163) (fun (x376 : Int32) (M375 : zM) => grd (zix (x162 + (1 : Int32)) len) (grd (zix (x162 + (2 : Int32)) len) (bi (fX11_sure (xs (zn (x162 + (1 : Int32)))) (xs (zn (x162 + (2 : Int32)))) M375) (fun (x378 : Int32) (M377 : zM) => if x376 = x378 then (k323 M377) else (some false)))))))) else (if x167 = (17 : Int32) then (grd (zix (x162 + (1 : Int32)) len) (grd (zix (x162 + (2 : Int32)) len) (grd (zix (x162 + (3 : Int32)) len) (bi (fX10_share (xs (zn (x162 + (1 : Int32)))) (xs (zn (x162 + (2 : Int32)))) (xs (zn (x162 + (3 : Int32)))) M163) (fun (x380 : Int64) (M379 : zM) => grd (zix (x162 + (1 : Int32)) len) (grd (zix (x162 + (2 : Int32)) len) (grd (zix (x162 + (3 : Int32)) len) (bi (fX11_share (xs (zn (x162 + (1 : Int32)))) (xs (zn (x162 + (2 : Int32)))) (xs (zn (x162 + (3 : Int32)))) M379) (fun (x382 : Int64) (M381 : zM) => if x380 = x382 then (k323 M381) else (some false)))))))))) else (if x167 = (18 : Int32) then (grd (zix (x162 + (1 : Int32)) len) (grd (zix (x162 + (2 : Int32)) len) (grd (zix (x162 + (3 : Int32)) len) (lt (if (xs (zn (x162 + (3 : Int32)))) = 0 then (false) else (true)) (fun (b383 : Bool) => bi (fX10_ifMust (xs (zn (x162 + (1 : Int32)))) (xs (zn (x162 + (2 : Int32)))) (zb b383) M163) (fun (x385 : Int32) (M384 : zM) => grd (zix (x162 + (1 : Int32)) len) (grd (zix (x162 + (2 : Int32)) len) (grd (zix (x162 + (3 : Int32)) len) (lt (if (xs (zn (x162 + (3 : Int32)))) = 0 then (false) else (true)) (fun (b386 : Bool) => bi (fX11_ifMust (xs (zn (x162 + (1 : Int32)))) (xs (zn (x162 + (2 : Int32)))) (zb b386) M384) (fun (x388 : Int32) (M387 : zM) => if x385 = x388 then (k323 M387) else (some false)))))))))))) else (if x167 = (19 : Int32) then (grd (zix (x162 + (1 : Int32)) len) (grd (zix (x162 + (2 : Int32)) len) (bi (fX10_alone (xs (zn (x162 + (1 : Int32)))) (xs (zn (x162 + (2 : Int32)))) M163) (fun (x392 : Int32) (M391 : zM) => grd (zix (x162 + (1 : Int32)) len) (grd (zix (x162 + (2 : Int32)) len) (bi (fX11_alone (xs (zn (x162 + (1 : Int32)))) (xs (zn (x162 + (2 : Int32)))) M391) (fun (x394 : Int32) (M393 : zM) => if x392 = x394 then (k323 M393) else (some false)))))))) else (if x167 = (20 : Int32) then (grd (zix (x162 + (1 : Int32)) len) (bi (fX10_many (xs (zn (x162 + (1 : Int32)))) M163) (fun (x396 : Int32) (M395 : zM) => grd (zix (x162 + (1 : Int32)) len) (bi (fX11_many (xs (zn (x162 + (1 : Int32)))) M395) (fun (x398 : Int32) (M397 : zM) => if x396 = x398 then (k323 M397) else (some false)))))) else (if x167 = (21 : Int32) then (grd (zix (x162 + (1 : Int32)) len) (bi (fX10_ways (xs (zn (x162 + (1 : Int32)))) M163) (fun (x400 : Int64) (M399 : zM) => grd (zix (x162 + (1 : Int32)) len) (bi (fX11_ways (xs (zn (x162 + (1 : Int32)))) M399) (fun (x402 : Int64) (M401 : zM) => if x400 = x402 then (k323 M401) else (some false)))))) else (if x167 = (22 : Int32) then (grd (zix (x162 + (1 : Int32)) len) (grd (zix (x162 + (2 : Int32)) len) (bi (fX10_tell (xs (zn (x162 + (1 : Int32)))) (xs (zn (x162 + (2 : Int32)))) M163) (fun (x404 : Int32) (M403 : zM) => grd (zix (x162 + (1 : Int32)) len) (grd (zix (x162 + (2 : Int32)) len) (bi (fX11_tell (xs (zn (x162 + (1 : Int32)))) (xs (zn (x162 + (2 : Int32)))) M403) (fun (x406 : Int32) (M405 : zM) => if x404 = x406 then (k323 M405) else (some false)))))))) else (if x167 = (23 : Int32) then (bi (fX10_adopt M163) (fun (x408 : Int32) (M407 : zM) => bi (fX11_adopt M407) (fun (x410 : Int32) (M409 : zM) => if x408 = x410 then (k323 M409) else (some false)))) else (if x167 = (24 : Int32) then (grd (zix (x162 + (1 : Int32)) len) (bi (fX10_judge (xs (zn (x162 + (1 : Int32)))) M163) (fun (x412 : Int32) (M411 : zM) => grd (zix (x162 + (1 : Int32)) len) (bi (fX11_judge (xs (zn (x162 + (1 : Int32)))) M411) (fun (x414 : Int32) (M413 : zM) => if x412 = x414 then (k323 M413) else (some false)))))) else (if x167 = (25 : Int32) then (grd (zix (x162 + (1 : Int32)) len) (grd (zix (x162 + (2 : Int32)) len) (grd (zix (x162 + (3 : Int32)) len) (grd (zix (x162 + (4 : Int32)) len) (bi (fX10_prices (xs (zn (x162 + (1 : Int32)))) (xs (zn (x162 + (2 : Int32)))) (xs (zn (x162 + (3 : Int32)))) (xs (zn (x162 + (4 : Int32)))) M163) (fun (x416 : Int32) (M415 : zM) => grd (zix (x162 + (1 : Int32)) len) (grd (zix (x162 + (2 : Int32)) len) (grd (zix (x162 + (3 : Int32)) len) (grd (zix (x162 + (4 : Int32)) len) (bi (fX11_prices (xs (zn (x162 + (1 : Int32)))) (xs (zn (x162 + (2 : Int32)))) (xs (zn (x162 + (3 : Int32)))) (xs (zn (x162 + (4 : Int32)))) M415) (fun (x418 : Int32) (M417 : zM) => if x416 = x418 then (k323 M417) else (some false)))))))))))) else (if x167 = (26 : Int32) then (grd (zix (x162 + (1 : Int32)) len) (bi (fX10_times (xs (zn (x162 + (1 : Int32)))) M163) (fun (x420 : Int32) (M419 : zM) => grd (zix (x162 + (1 : Int32)) len) (bi (fX11_times (xs (zn (x162 + (1 : Int32)))) M419) (fun (x422 : Int32) (M421 : zM) => if x420 = x422 then (k323 M421) else (some false)))))) else (if x167 = (27 : Int32) then (grd (zix (x162 + (1 : Int32)) len) (bi (fX10_clock (xs (zn (x162 + (1 : Int32)))) M163) (fun (x424 : Int32) (M423 : zM) => grd (zix (x162 + (1 : Int32)) len) (bi (fX11_clock (xs (zn (x162 + (1 : Int32)))) M423) (fun (x426 : Int32) (M425 : zM) => if x424 = x426 then (k323 M425) else (some false)))))) else (if x167 = (28 : Int32) then (grd (zix (x162 + (1 : Int32)) len) (bi (fX10_passed (xs (zn (x162 + (1 : Int32)))) M163) (fun (x428 : Int32) (M427 : zM) => grd (zix (x162 + (1 : Int32)) len) (bi (fX11_passed (xs (zn (x162 + (1 : Int32)))) M427) (fun (x430 : Int32) (M429 : zM) => if x428 = x430 then (k323 M429) else (some false)))))) else (if x167 = (29 : Int32) then (grd (zix (x162 + (1 : Int32)) len) (grd (zix (x162 + (2 : Int32)) len) (bi (fX10_reads (xs (zn (x162 + (1 : Int32)))) (xs (zn (x162 + (2 : Int32)))) M163) (fun (x432 : Int32) (M431 : zM) => grd (zix (x162 + (1 : Int32)) len) (grd (zix (x162 + (2 : Int32)) len) (bi (fX11_reads (xs (zn (x162 + (1 : Int32)))) (xs (zn (x162 + (2 : Int32)))) M431) (fun (x434 : Int32) (M433 : zM) => if x432 = x434 then (k323 M433) else (some false)))))))) else (if x167 = (30 : Int32) then (grd (zix (x162 + (1 : Int32)) len) (bi (fX10_blame (xs (zn (x162 + (1 : Int32)))) M163) (fun (x436 : Int32) (M435 : zM) => grd (zix (x162 + (1 : Int32)) len) (bi (fX11_blame (xs (zn (x162 + (1 : Int32)))) M435) (fun (x438 : Int32) (M437 : zM) => if x436 = x438 then (k323 M437) else (some false)))))) else (if x167 = (31 : Int32) then (grd (zix (x162 + (1 : Int32)) len) (bi (fX10_learn (xs (zn (x162 + (1 : Int32)))) M163) (fun (x440 : Int32) (M439 : zM) => grd (zix (x162 + (1 : Int32)) len) (bi (fX11_learn (xs (zn (x162 + (1 : Int32)))) M439) (fun (x442 : Int32) (M441 : zM) => if x440 = x442 then (k323 M441) else (some false)))))) else (if x167 = (32 : Int32) then (grd (zix (x162 + (1 : Int32)) len) (bi (fX10_enough (xs (zn (x162 + (1 : Int32)))) M163) (fun (x444 : Int32) (M443 : zM) => grd (zix (x162 + (1 : Int32)) len) (bi (fX11_enough (xs (zn (x162 + (1 : Int32)))) M443) (fun (x446 : Int32) (M445 : zM) => if x444 = x446 then (k323 M445) else (some false)))))) else (if x167 = (33 : Int32) then (grd (zix (x162 + (1 : Int32)) len) (grd (zix (x162 + (2 : Int32)) len) (grd (zix (x162 + (3 : Int32)) len) (sq (fX10_round (xs (zn (x162 + (1 : Int32)))) (xs (zn (x162 + (2 : Int32)))) (xs (zn (x162 + (3 : Int32)))) M163) (fun (x447 : Int32) => grd (zix (x162 + (1 : Int32)) len) (grd (zix (x162 + (2 : Int32)) len) (grd (zix (x162 + (3 : Int32)) len) (sq (fX11_round (xs (zn (x162 + (1 : Int32)))) (xs (zn (x162 + (2 : Int32)))) (xs (zn (x162 + (3 : Int32)))) M163) (fun (x448 : Int32) => if x447 = x448 then (k323 M163) else (some false)))))))))) else (if x167 = (34 : Int32) then (grd (zix (x162 + (1 : Int32)) len) (grd (zix (x162 + (2 : Int32)) len) (bi (fX10_cars (xs (zn (x162 + (1 : Int32)))) (xs (zn (x162 + (2 : Int32)))) M163) (fun (x450 : Int32) (M449 : zM) => grd (zix (x162 + (1 : Int32)) len) (grd (zix (x162 + (2 : Int32)) len) (bi (fX11_cars (xs (zn (x162 + (1 : Int32)))) (xs (zn (x162 + (2 : Int32)))) M449) (fun (x452 : Int32) (M451 : zM) => if x450 = x452 then (k323 M451) else (some false)))))))) else (if x167 = (35 : Int32) then (grd (zix (x162 + (1 : Int32)) len) (bi (fX10_keep (xs (zn (x162 + (1 : Int32)))) M163) (fun (x454 : Int32) (M453 : zM) => grd (zix (x162 + (1 : Int32)) len) (bi (fX11_keep (xs (zn (x162 + (1 : Int32)))) M453) (fun (x456 : Int32) (M455 : zM) => if x454 = x456 then (k323 M455) else (some false)))))) else (if x167 = (36 : Int32) then (grd (zix (x162 + (1 : Int32)) len) (bi (fX10_back (xs (zn (x162 + (1 : Int32)))) M163) (fun (x458 : Int32) (M457 : zM) => grd (zix (x162 + (1 : Int32)) len) (bi (fX11_back (xs (zn (x162 + (1 : Int32)))) M457) (fun (x460 : Int32) (M459 : zM) => if x458 = x460 then (k323 M459) else (some false)))))) else (if x167 = (37 : Int32) then (grd (zix (x162 + (1 : Int32)) len) (grd (zix (x162 + (2 : Int32)) len) (grd (zix (x162 + (3 : Int32)) len) (bi (fX10_sheet (xs (zn (x162 + (1 : Int32)))) (xs (zn (x162 + (2 : Int32)))) (xs (zn (x162 + (3 : Int32)))) M163) (fun (x462 : Int32) (M461 : zM) => grd (zix (x162 + (1 : Int32)) len) (grd (zix (x162 + (2 : Int32)) len) (grd (zix (x162 + (3 : Int32)) len) (bi (fX11_sheet (xs (zn (x162 + (1 : Int32)))) (xs (zn (x162 + (2 : Int32)))) (xs (zn (x162 + (3 : Int32)))) M461) (fun (x464 : Int32) (M463 : zM) => if x462 = x464 then (k323 M463) else (some false)))))))))) else (if x167 = (38 : Int32) then (grd (zix (x162 + (1 : Int32)) len) (grd (zix (x162 + (2 : Int32)) len) (grd (zix (x162 + (3 : Int32)) len) (bi (fX10_lay (xs (zn (x162 + (1 : Int32)))) (xs (zn (x162 + (2 : Int32)))) (xs (zn (x162 + (3 : Int32)))) M163) (fun (x466 : Int32) (M465 : zM) => grd (zix (x162 + (1 : Int32)) len) (grd (zix (x162 + (2 : Int32)) len) (grd (zix (x162 + (3 : Int32)) len) (bi (fX11_lay (xs (zn (x162 + (1 : Int32)))) (xs (zn (x162 + (2 : Int32)))) (xs (zn (x162 + (3 : Int32)))) M465) (fun (x468 : Int32) (M467 : zM) => if x466 = x468 then (k323 M467) else (some false)))))))))) else (if x167 = (39 : Int32) then (grd (zix (x162 + (1 : Int32)) len) (grd (zix (x162 + (2 : Int32)) len) (grd (zix (x162 + (3 : Int32)) len) (grd (zix (x162 + (4 : Int32)) len) (grd (zix (x162 + (5 : Int32)) len) (bi (fX10_read (xs (zn (x162 + (1 : Int32)))) (xs (zn (x162 + (2 : Int32)))) (xs (zn (x162 + (3 : Int32)))) (xs (zn (x162 + (4 : Int32)))) (xs (zn (x162 + (5 : Int32)))) M163) (fun (x470 : Int32) (M469 : zM) => grd (zix (x162 + (1 : Int32)) len) (grd (zix (x162 + (2 : Int32)) len) (grd (zix (x162 + (3 : Int32)) len) (grd (zix (x162 + (4 : Int32)) len) (grd (zix (x162 + (5 : Int32)) len) (bi (fX11_read (xs (zn (x162 + (1 : Int32)))) (xs (zn (x162 + (2 : Int32)))) (xs (zn (x162 + (3 : Int32)))) (xs (zn (x162 + (4 : Int32)))) (xs (zn (x162 + (5 : Int32)))) M469) (fun (x472 : Int32) (M471 : zM) => if x470 = x472 then (k323 M471) else (some false)))))))))))))) else (if x167 = (40 : Int32) then (lt (fX10_torn M163) (fun (x473 : Int32) => lt (fX11_torn M163) (fun (x474 : Int32) => if x473 = x474 then (k323 M163) else (some false)))) else (if x167 = (41 : Int32) then (grd (zix (x162 + (1 : Int32)) len) (bi (fX10_count (xs (zn (x162 + (1 : Int32)))) M163) (fun (x476 : Int32) (M475 : zM) => grd (zix (x162 + (1 : Int32)) len) (sq (fX11_count (xs (zn (x162 + (1 : Int32)))) M475) (fun (x477 : Int32) => if x476 = x477 then (k323 M475) else (some false)))))) else (k323 M163)))))))))))))))))))))))))))))))))))))))))))))))) zFu ((0 : Int32), M)
set_option maxHeartbeats 40000000 in
set_option maxRecDepth 100000 in
theorem tL_law (E : zE) (M : zM) (post : Option Value → zS → Prop) : zK E mL_law post 16 [some (.ref 1000), some (.ref 0), some (.ref 76), none] [] (zY0, M) (fL_law E.2.2.2.2.2.1 E.2.2.2.2.2.2 M) (fun b => ∀ st, post (some (.int (zb b))) st) := by
  unfold fL_law
  refine z_iconst 16 dL_law_16 zci_0 ?_
  refine z_istore_n 17 (L' := [some (.ref 1000), some (.ref 0), some (.ref 76), some (.int (0 : Int32))]) dL_law_17 (by decide) rfl ?_
  refine zk_weak (L' := [some (.ref 1000), some (.ref 0), some (.ref 76), some (.int (0 : Int32))]) (zLe_s (zLe_s (zLe_s (zLe_s zLe_nl)))) (zk_lp (α := Int32 × zM) 18 (fun (u165 : Int32 × zM) => match u165 with | (x162, M163) => [some (.ref 1000), some (.ref 0), some (.ref 76), some (.int x162)]) (fun (u166 : Int32 × zM) => match u166 with | (x162, M163) => (zY0, M163)) ?_ zFu ((0 : Int32), M))
  intro rec164 hrec164
  intro u479
  obtain ⟨x162, M163⟩ := u479
  try dsimp only
  refine z_iload_n 18 dL_law_18 rfl ?_
  refine z_aload_n 19 dL_law_19 rfl ?_
  refine z_slen 20 dL_law_20 ?_
  refine z_bipush 21 dL_law_21 zbp_6 ?_
  refine z_isub 23 dL_law_23 ?_
  refine z_icgt 24 1547 dL_law_24 (by decide) (fun _ => ?_) (fun _ => ?_)
  · refine z_iconst 1547 dL_law_1547 zci_1 ?_
    exact z_ireturn 1548 (v := zb true) dL_law_1548 rfl (zput_b true).1 (fun h => h _)
  · refine z_aload_n 27 dL_law_27 rfl ?_
    refine z_iload_n 28 dL_law_28 rfl ?_
    refine z_sld 29 dL_law_29 ?_
    refine z_bipush 30 dL_law_30 zbp_63 ?_
    refine z_iand 32 dL_law_32 ?_
    refine zk_nmI (fun x167 => ?_)
    refine zk_jn (α := zM) 1541 (fun (M322 : zM) => [some (.ref 1000), some (.ref 0), some (.ref 76), some (.int x162)]) (fun (M322 : zM) => []) (fun (M322 : zM) => (zY0, M322)) ?_ ?_
    · intro M322
      refine z_iinc 1541 (v := (x162 + (6 : Int32))) (L' := [some (.ref 1000), some (.ref 0), some (.ref 76), some (.int (x162 + (6 : Int32)))]) dL_law_1541 rfl (zinc zci_6 _) (by decide) rfl ?_
      refine z_goto 1544 18 dL_law_1544 (by decide) ?_
      exact zk_weak (L' := [some (.ref 1000), some (.ref 0), some (.ref 76), some (.int (x162 + (6 : Int32)))]) (zLe_s (zLe_s (zLe_s (zLe_s zLe_nl)))) (hrec164 ((x162 + (6 : Int32)), M322))
    · intro k323 hk323
      refine z_tsc 33 216 (k := 0) (off := 183) dL_law_33 (by decide) (by decide) (by decide) (by decide) ?_ (fun n1 => ?_)
      · refine z_aload_n 216 dL_law_216 rfl ?_
        refine z_aload_n 217 dL_law_217 rfl ?_
        refine z_iload_n 218 dL_law_218 rfl ?_
        refine z_iconst 219 dL_law_219 zci_1 ?_
        refine z_iadd 220 dL_law_220 ?_
        refine z_sld 221 dL_law_221 ?_
        refine z_i2l 222 dL_law_222 ?_
        refine z_bipush 223 dL_law_223 zbp_32 ?_
        refine z_lshl 225 dL_law_225 ?_
        refine z_aload_n 226 dL_law_226 rfl ?_
        refine z_iload_n 227 dL_law_227 rfl ?_
        refine z_iconst 228 dL_law_228 zci_2 ?_
        refine z_iadd 229 dL_law_229 ?_
        refine z_sld 230 dL_law_230 ?_
        refine z_i2l 231 dL_law_231 ?_
        refine z_ldc2 232 dL_law_232 cw_L_13 ?_
        refine z_land 235 dL_law_235 ?_
        refine z_lor 236 dL_law_236 ?_
        refine z_cI (zat_V1 237 dL_law_237 lk_L_15 zy_0 rfl rfl ⟨Nat.le_of_ble_eq_true rfl, Nat.le_of_ble_eq_true rfl⟩ (Nat.le_of_ble_eq_true rfl)) (tX10_feed E ((((E.2.2.2.2.2.2 (zn (x162 + (1 : Int32))))).toInt64 <<< ((32 : Int32).toInt64 &&& 63)) ||| (((E.2.2.2.2.2.2 (zn (x162 + (2 : Int32))))).toInt64 &&& (4294967295 : Int64))) M163) (fun x325 M324 => ?_)
        refine z_aload_n 240 dL_law_240 rfl ?_
        refine z_aload_n 241 dL_law_241 rfl ?_
        refine z_iload_n 242 dL_law_242 rfl ?_
        refine z_iconst 243 dL_law_243 zci_1 ?_
        refine z_iadd 244 dL_law_244 ?_
        refine z_sld 245 dL_law_245 ?_
        refine z_i2l 246 dL_law_246 ?_
        refine z_bipush 247 dL_law_247 zbp_32 ?_
        refine z_lshl 249 dL_law_249 ?_
        refine z_aload_n 250 dL_law_250 rfl ?_
        refine z_iload_n 251 dL_law_251 rfl ?_
        refine z_iconst 252 dL_law_252 zci_2 ?_
        refine z_iadd 253 dL_law_253 ?_
        refine z_sld 254 dL_law_254 ?_
        refine z_i2l 255 dL_law_255 ?_
        refine z_ldc2 256 dL_law_256 cw_L_13 ?_
        refine z_land 259 dL_law_259 ?_
        refine z_lor 260 dL_law_260 ?_
        refine z_cI (zat_V1 261 dL_law_261 lk_L_19 zy_76 rfl rfl ⟨Nat.le_of_ble_eq_true rfl, Nat.le_of_ble_eq_true rfl⟩ (Nat.le_of_ble_eq_true rfl)) (tX11_feed E ((((E.2.2.2.2.2.2 (zn (x162 + (1 : Int32))))).toInt64 <<< ((32 : Int32).toInt64 &&& 63)) ||| (((E.2.2.2.2.2.2 (zn (x162 + (2 : Int32))))).toInt64 &&& (4294967295 : Int64))) M324) (fun x327 M326 => ?_)
        refine z_iceq 264 1541 dL_law_264 (by decide) (fun _ => ?_) (fun _ => ?_)
        · exact zk_weak (L' := [some (.ref 1000), some (.ref 0), some (.ref 76), some (.int x162)]) (zLe_s (zLe_s (zLe_s (zLe_s zLe_nl)))) (hk323 M326)
        · refine z_iconst 267 dL_law_267 zci_0 ?_
          exact z_ireturn 268 (v := zb false) dL_law_268 rfl (zput_b false).1 (fun h => h _)
      · refine z_tsc 33 269 (k := 1) (off := 236) dL_law_33 (by decide) (by decide) (by decide) (by decide) ?_ (fun n2 => ?_)
        · refine z_aload_n 269 dL_law_269 rfl ?_
          refine z_aload_n 270 dL_law_270 rfl ?_
          refine z_iload_n 271 dL_law_271 rfl ?_
          refine z_iconst 272 dL_law_272 zci_1 ?_
          refine z_iadd 273 dL_law_273 ?_
          refine z_sld 274 dL_law_274 ?_
          refine z_cI (zat_V1 275 dL_law_275 lk_L_20 zy_0 rfl rfl ⟨Nat.le_of_ble_eq_true rfl, Nat.le_of_ble_eq_true rfl⟩ (Nat.le_of_ble_eq_true rfl)) (tX10_end E (E.2.2.2.2.2.2 (zn (x162 + (1 : Int32)))) M163) (fun x329 M328 => ?_)
          refine z_aload_n 278 dL_law_278 rfl ?_
          refine z_aload_n 279 dL_law_279 rfl ?_
          refine z_iload_n 280 dL_law_280 rfl ?_
          refine z_iconst 281 dL_law_281 zci_1 ?_
          refine z_iadd 282 dL_law_282 ?_
          refine z_sld 283 dL_law_283 ?_
          refine z_cI (zat_V1 284 dL_law_284 lk_L_24 zy_76 rfl rfl ⟨Nat.le_of_ble_eq_true rfl, Nat.le_of_ble_eq_true rfl⟩ (Nat.le_of_ble_eq_true rfl)) (tX11_end E (E.2.2.2.2.2.2 (zn (x162 + (1 : Int32)))) M328) (fun x331 M330 => ?_)
          refine z_iceq 287 1541 dL_law_287 (by decide) (fun _ => ?_) (fun _ => ?_)
          · exact zk_weak (L' := [some (.ref 1000), some (.ref 0), some (.ref 76), some (.int x162)]) (zLe_s (zLe_s (zLe_s (zLe_s zLe_nl)))) (hk323 M330)
          · refine z_iconst 290 dL_law_290 zci_0 ?_
            exact z_ireturn 291 (v := zb false) dL_law_291 rfl (zput_b false).1 (fun h => h _)
        · refine z_tsc 33 292 (k := 2) (off := 259) dL_law_33 (by decide) (by decide) (by decide) (by decide) ?_ (fun n3 => ?_)
          · refine z_aload_n 292 dL_law_292 rfl ?_
            refine z_cI (zat_V0 293 dL_law_293 lk_L_25 zy_0 rfl rfl ⟨Nat.le_of_ble_eq_true rfl, Nat.le_of_ble_eq_true rfl⟩ (Nat.le_of_ble_eq_true rfl)) (tX10_road E M163) (fun x333 M332 => ?_)
            refine z_aload_n 296 dL_law_296 rfl ?_
            refine z_cI (zat_V0 297 dL_law_297 lk_L_29 zy_76 rfl rfl ⟨Nat.le_of_ble_eq_true rfl, Nat.le_of_ble_eq_true rfl⟩ (Nat.le_of_ble_eq_true rfl)) (tX11_road E M332) (fun x335 M334 => ?_)
            refine z_iceq 300 1541 dL_law_300 (by decide) (fun _ => ?_) (fun _ => ?_)
            · exact zk_weak (L' := [some (.ref 1000), some (.ref 0), some (.ref 76), some (.int x162)]) (zLe_s (zLe_s (zLe_s (zLe_s zLe_nl)))) (hk323 M334)
            · refine z_iconst 303 dL_law_303 zci_0 ?_
              exact z_ireturn 304 (v := zb false) dL_law_304 rfl (zput_b false).1 (fun h => h _)
          · refine z_tsc 33 305 (k := 3) (off := 272) dL_law_33 (by decide) (by decide) (by decide) (by decide) ?_ (fun n4 => ?_)
            · refine z_aload_n 305 dL_law_305 rfl ?_
              refine z_cti (zat_V0 306 dL_law_306 lk_L_30 zy_0 rfl rfl ⟨Nat.le_of_ble_eq_true rfl, Nat.le_of_ble_eq_true rfl⟩ (Nat.le_of_ble_eq_true rfl)) (tX10_fault E M163) (fun x336 => ?_)
              refine z_aload_n 309 dL_law_309 rfl ?_
              refine z_cti (zat_V0 310 dL_law_310 lk_L_33 zy_76 rfl rfl ⟨Nat.le_of_ble_eq_true rfl, Nat.le_of_ble_eq_true rfl⟩ (Nat.le_of_ble_eq_true rfl)) (tX11_fault E M163) (fun x337 => ?_)
              refine z_iceq 313 1541 dL_law_313 (by decide) (fun _ => ?_) (fun _ => ?_)
              · exact zk_weak (L' := [some (.ref 1000), some (.ref 0), some (.ref 76), some (.int x162)]) (zLe_s (zLe_s (zLe_s (zLe_s zLe_nl)))) (hk323 M163)
              · refine z_iconst 316 dL_law_316 zci_0 ?_
                exact z_ireturn 317 (v := zb false) dL_law_317 rfl (zput_b false).1 (fun h => h _)
            · refine z_tsc 33 318 (k := 4) (off := 285) dL_law_33 (by decide) (by decide) (by decide) (by decide) ?_ (fun n5 => ?_)
              · refine z_aload_n 318 dL_law_318 rfl ?_
                refine z_aload_n 319 dL_law_319 rfl ?_
                refine z_iload_n 320 dL_law_320 rfl ?_
                refine z_iconst 321 dL_law_321 zci_1 ?_
                refine z_iadd 322 dL_law_322 ?_
                refine z_sld 323 dL_law_323 ?_
                refine z_ci (zat_V1 324 dL_law_324 lk_L_34 zy_0 rfl rfl ⟨Nat.le_of_ble_eq_true rfl, Nat.le_of_ble_eq_true rfl⟩ (Nat.le_of_ble_eq_true rfl)) (tX10_rule E (E.2.2.2.2.2.2 (zn (x162 + (1 : Int32)))) M163) (fun x338 => ?_)
                refine z_aload_n 327 dL_law_327 rfl ?_
                refine z_aload_n 328 dL_law_328 rfl ?_
                refine z_iload_n 329 dL_law_329 rfl ?_
                refine z_iconst 330 dL_law_330 zci_1 ?_
                refine z_iadd 331 dL_law_331 ?_
                refine z_sld 332 dL_law_332 ?_
                refine z_ci (zat_V1 333 dL_law_333 lk_L_37 zy_76 rfl rfl ⟨Nat.le_of_ble_eq_true rfl, Nat.le_of_ble_eq_true rfl⟩ (Nat.le_of_ble_eq_true rfl)) (tX11_rule E (E.2.2.2.2.2.2 (zn (x162 + (1 : Int32)))) M163) (fun x339 => ?_)
                refine z_iceq 336 1541 dL_law_336 (by decide) (fun _ => ?_) (fun _ => ?_)
                · exact zk_weak (L' := [some (.ref 1000), some (.ref 0), some (.ref 76), some (.int x162)]) (zLe_s (zLe_s (zLe_s (zLe_s zLe_nl)))) (hk323 M163)
                · refine z_iconst 339 dL_law_339 zci_0 ?_
                  exact z_ireturn 340 (v := zb false) dL_law_340 rfl (zput_b false).1 (fun h => h _)
              · refine z_tsc 33 341 (k := 5) (off := 308) dL_law_33 (by decide) (by decide) (by decide) (by decide) ?_ (fun n6 => ?_)
                · refine z_aload_n 341 dL_law_341 rfl ?_
                  refine z_aload_n 342 dL_law_342 rfl ?_
                  refine z_iload_n 343 dL_law_343 rfl ?_
                  refine z_iconst 344 dL_law_344 zci_1 ?_
                  refine z_iadd 345 dL_law_345 ?_
                  refine z_sld 346 dL_law_346 ?_
                  refine z_aload_n 347 dL_law_347 rfl ?_
                  refine z_iload_n 348 dL_law_348 rfl ?_
                  refine z_iconst 349 dL_law_349 zci_2 ?_
                  refine z_iadd 350 dL_law_350 ?_
                  refine z_sld 351 dL_law_351 ?_
                  refine z_ci (zat_V2 352 dL_law_352 lk_L_38 zy_0 rfl rfl ⟨Nat.le_of_ble_eq_true rfl, Nat.le_of_ble_eq_true rfl⟩ (Nat.le_of_ble_eq_true rfl)) (tX10_mixed E (E.2.2.2.2.2.2 (zn (x162 + (1 : Int32)))) (E.2.2.2.2.2.2 (zn (x162 + (2 : Int32)))) M163) (fun x340 => ?_)
                  refine z_aload_n 355 dL_law_355 rfl ?_
                  refine z_aload_n 356 dL_law_356 rfl ?_
                  refine z_iload_n 357 dL_law_357 rfl ?_
                  refine z_iconst 358 dL_law_358 zci_1 ?_
                  refine z_iadd 359 dL_law_359 ?_
                  refine z_sld 360 dL_law_360 ?_
                  refine z_aload_n 361 dL_law_361 rfl ?_
                  refine z_iload_n 362 dL_law_362 rfl ?_
                  refine z_iconst 363 dL_law_363 zci_2 ?_
                  refine z_iadd 364 dL_law_364 ?_
                  refine z_sld 365 dL_law_365 ?_
                  refine z_ci (zat_V2 366 dL_law_366 lk_L_42 zy_76 rfl rfl ⟨Nat.le_of_ble_eq_true rfl, Nat.le_of_ble_eq_true rfl⟩ (Nat.le_of_ble_eq_true rfl)) (tX11_mixed E (E.2.2.2.2.2.2 (zn (x162 + (1 : Int32)))) (E.2.2.2.2.2.2 (zn (x162 + (2 : Int32)))) M163) (fun x341 => ?_)
                  refine z_iceq 369 1541 dL_law_369 (by decide) (fun _ => ?_) (fun _ => ?_)
                  · exact zk_weak (L' := [some (.ref 1000), some (.ref 0), some (.ref 76), some (.int x162)]) (zLe_s (zLe_s (zLe_s (zLe_s zLe_nl)))) (hk323 M163)
                  · refine z_iconst 372 dL_law_372 zci_0 ?_
                    exact z_ireturn 373 (v := zb false) dL_law_373 rfl (zput_b false).1 (fun h => h _)
                · refine z_tsc 33 374 (k := 6) (off := 341) dL_law_33 (by decide) (by decide) (by decide) (by decide) ?_ (fun n7 => ?_)
                  · refine z_aload_n 374 dL_law_374 rfl ?_
                    refine z_aload_n 375 dL_law_375 rfl ?_
                    refine z_iload_n 376 dL_law_376 rfl ?_
                    refine z_iconst 377 dL_law_377 zci_1 ?_
                    refine z_iadd 378 dL_law_378 ?_
                    refine z_sld 379 dL_law_379 ?_
                    refine z_cI (zat_V1 380 dL_law_380 lk_L_43 zy_0 rfl rfl ⟨Nat.le_of_ble_eq_true rfl, Nat.le_of_ble_eq_true rfl⟩ (Nat.le_of_ble_eq_true rfl)) (tX10_setClock E (E.2.2.2.2.2.2 (zn (x162 + (1 : Int32)))) M163) (fun x343 M342 => ?_)
                    refine z_aload_n 383 dL_law_383 rfl ?_
                    refine z_aload_n 384 dL_law_384 rfl ?_
                    refine z_iload_n 385 dL_law_385 rfl ?_
                    refine z_iconst 386 dL_law_386 zci_1 ?_
                    refine z_iadd 387 dL_law_387 ?_
                    refine z_sld 388 dL_law_388 ?_
                    refine z_cI (zat_V1 389 dL_law_389 lk_L_46 zy_76 rfl rfl ⟨Nat.le_of_ble_eq_true rfl, Nat.le_of_ble_eq_true rfl⟩ (Nat.le_of_ble_eq_true rfl)) (tX11_setClock E (E.2.2.2.2.2.2 (zn (x162 + (1 : Int32)))) M342) (fun x345 M344 => ?_)
                    refine z_iceq 392 1541 dL_law_392 (by decide) (fun _ => ?_) (fun _ => ?_)
                    · exact zk_weak (L' := [some (.ref 1000), some (.ref 0), some (.ref 76), some (.int x162)]) (zLe_s (zLe_s (zLe_s (zLe_s zLe_nl)))) (hk323 M344)
                    · refine z_iconst 395 dL_law_395 zci_0 ?_
                      exact z_ireturn 396 (v := zb false) dL_law_396 rfl (zput_b false).1 (fun h => h _)
                  · refine z_tsc 33 397 (k := 7) (off := 364) dL_law_33 (by decide) (by decide) (by decide) (by decide) ?_ (fun n8 => ?_)
                    · refine z_aload_n 397 dL_law_397 rfl ?_
                      refine z_aload_n 398 dL_law_398 rfl ?_
                      refine z_iload_n 399 dL_law_399 rfl ?_
                      refine z_iconst 400 dL_law_400 zci_1 ?_
                      refine z_iadd 401 dL_law_401 ?_
                      refine z_sld 402 dL_law_402 ?_
                      refine z_aload_n 403 dL_law_403 rfl ?_
                      refine z_iload_n 404 dL_law_404 rfl ?_
                      refine z_iconst 405 dL_law_405 zci_2 ?_
                      refine z_iadd 406 dL_law_406 ?_
                      refine z_sld 407 dL_law_407 ?_
                      refine z_aload_n 408 dL_law_408 rfl ?_
                      refine z_iload_n 409 dL_law_409 rfl ?_
                      refine z_iconst 410 dL_law_410 zci_3 ?_
                      refine z_iadd 411 dL_law_411 ?_
                      refine z_sld 412 dL_law_412 ?_
                      refine z_aload_n 413 dL_law_413 rfl ?_
                      refine z_iload_n 414 dL_law_414 rfl ?_
                      refine z_iconst 415 dL_law_415 zci_4 ?_
                      refine z_iadd 416 dL_law_416 ?_
                      refine z_sld 417 dL_law_417 ?_
                      refine z_cI (zat_V4 418 dL_law_418 lk_L_47 zy_0 rfl rfl ⟨Nat.le_of_ble_eq_true rfl, Nat.le_of_ble_eq_true rfl⟩ (Nat.le_of_ble_eq_true rfl)) (tX10_line E (E.2.2.2.2.2.2 (zn (x162 + (1 : Int32)))) (E.2.2.2.2.2.2 (zn (x162 + (2 : Int32)))) (E.2.2.2.2.2.2 (zn (x162 + (3 : Int32)))) (E.2.2.2.2.2.2 (zn (x162 + (4 : Int32)))) M163) (fun x347 M346 => ?_)
                      refine z_aload_n 421 dL_law_421 rfl ?_
                      refine z_aload_n 422 dL_law_422 rfl ?_
                      refine z_iload_n 423 dL_law_423 rfl ?_
                      refine z_iconst 424 dL_law_424 zci_1 ?_
                      refine z_iadd 425 dL_law_425 ?_
                      refine z_sld 426 dL_law_426 ?_
                      refine z_aload_n 427 dL_law_427 rfl ?_
                      refine z_iload_n 428 dL_law_428 rfl ?_
                      refine z_iconst 429 dL_law_429 zci_2 ?_
                      refine z_iadd 430 dL_law_430 ?_
                      refine z_sld 431 dL_law_431 ?_
                      refine z_aload_n 432 dL_law_432 rfl ?_
                      refine z_iload_n 433 dL_law_433 rfl ?_
                      refine z_iconst 434 dL_law_434 zci_3 ?_
                      refine z_iadd 435 dL_law_435 ?_
                      refine z_sld 436 dL_law_436 ?_
                      refine z_aload_n 437 dL_law_437 rfl ?_
                      refine z_iload_n 438 dL_law_438 rfl ?_
                      refine z_iconst 439 dL_law_439 zci_4 ?_
                      refine z_iadd 440 dL_law_440 ?_
                      refine z_sld 441 dL_law_441 ?_
                      refine z_cI (zat_V4 442 dL_law_442 lk_L_51 zy_76 rfl rfl ⟨Nat.le_of_ble_eq_true rfl, Nat.le_of_ble_eq_true rfl⟩ (Nat.le_of_ble_eq_true rfl)) (tX11_line E (E.2.2.2.2.2.2 (zn (x162 + (1 : Int32)))) (E.2.2.2.2.2.2 (zn (x162 + (2 : Int32)))) (E.2.2.2.2.2.2 (zn (x162 + (3 : Int32)))) (E.2.2.2.2.2.2 (zn (x162 + (4 : Int32)))) M346) (fun x349 M348 => ?_)
                      refine z_iceq 445 1541 dL_law_445 (by decide) (fun _ => ?_) (fun _ => ?_)
                      · exact zk_weak (L' := [some (.ref 1000), some (.ref 0), some (.ref 76), some (.int x162)]) (zLe_s (zLe_s (zLe_s (zLe_s zLe_nl)))) (hk323 M348)
                      · refine z_iconst 448 dL_law_448 zci_0 ?_
                        exact z_ireturn 449 (v := zb false) dL_law_449 rfl (zput_b false).1 (fun h => h _)
                    · refine z_tsc 33 450 (k := 8) (off := 417) dL_law_33 (by decide) (by decide) (by decide) (by decide) ?_ (fun n9 => ?_)
                      · refine z_aload_n 450 dL_law_450 rfl ?_
                        refine z_aload_n 451 dL_law_451 rfl ?_
                        refine z_iload_n 452 dL_law_452 rfl ?_
                        refine z_iconst 453 dL_law_453 zci_1 ?_
                        refine z_iadd 454 dL_law_454 ?_
                        refine z_sld 455 dL_law_455 ?_
                        refine z_aload_n 456 dL_law_456 rfl ?_
                        refine z_iload_n 457 dL_law_457 rfl ?_
                        refine z_iconst 458 dL_law_458 zci_2 ?_
                        refine z_iadd 459 dL_law_459 ?_
                        refine z_sld 460 dL_law_460 ?_
                        refine z_cI (zat_V2 461 dL_law_461 lk_L_52 zy_0 rfl rfl ⟨Nat.le_of_ble_eq_true rfl, Nat.le_of_ble_eq_true rfl⟩ (Nat.le_of_ble_eq_true rfl)) (tX10_drop E (E.2.2.2.2.2.2 (zn (x162 + (1 : Int32)))) (E.2.2.2.2.2.2 (zn (x162 + (2 : Int32)))) M163) (fun x351 M350 => ?_)
                        refine z_aload_n 464 dL_law_464 rfl ?_
                        refine z_aload_n 465 dL_law_465 rfl ?_
                        refine z_iload_n 466 dL_law_466 rfl ?_
                        refine z_iconst 467 dL_law_467 zci_1 ?_
                        refine z_iadd 468 dL_law_468 ?_
                        refine z_sld 469 dL_law_469 ?_
                        refine z_aload_n 470 dL_law_470 rfl ?_
                        refine z_iload_n 471 dL_law_471 rfl ?_
                        refine z_iconst 472 dL_law_472 zci_2 ?_
                        refine z_iadd 473 dL_law_473 ?_
                        refine z_sld 474 dL_law_474 ?_
                        refine z_cI (zat_V2 475 dL_law_475 lk_L_55 zy_76 rfl rfl ⟨Nat.le_of_ble_eq_true rfl, Nat.le_of_ble_eq_true rfl⟩ (Nat.le_of_ble_eq_true rfl)) (tX11_drop E (E.2.2.2.2.2.2 (zn (x162 + (1 : Int32)))) (E.2.2.2.2.2.2 (zn (x162 + (2 : Int32)))) M350) (fun x353 M352 => ?_)
                        refine z_iceq 478 1541 dL_law_478 (by decide) (fun _ => ?_) (fun _ => ?_)
                        · exact zk_weak (L' := [some (.ref 1000), some (.ref 0), some (.ref 76), some (.int x162)]) (zLe_s (zLe_s (zLe_s (zLe_s zLe_nl)))) (hk323 M352)
                        · refine z_iconst 481 dL_law_481 zci_0 ?_
                          exact z_ireturn 482 (v := zb false) dL_law_482 rfl (zput_b false).1 (fun h => h _)
                      · refine z_tsc 33 483 (k := 9) (off := 450) dL_law_33 (by decide) (by decide) (by decide) (by decide) ?_ (fun n10 => ?_)
                        · refine z_aload_n 483 dL_law_483 rfl ?_
                          refine z_aload_n 484 dL_law_484 rfl ?_
                          refine z_iload_n 485 dL_law_485 rfl ?_
                          refine z_iconst 486 dL_law_486 zci_1 ?_
                          refine z_iadd 487 dL_law_487 ?_
                          refine z_sld 488 dL_law_488 ?_
                          refine z_aload_n 489 dL_law_489 rfl ?_
                          refine z_iload_n 490 dL_law_490 rfl ?_
                          refine z_iconst 491 dL_law_491 zci_2 ?_
                          refine z_iadd 492 dL_law_492 ?_
                          refine z_sld 493 dL_law_493 ?_
                          refine z_aload_n 494 dL_law_494 rfl ?_
                          refine z_iload_n 495 dL_law_495 rfl ?_
                          refine z_iconst 496 dL_law_496 zci_3 ?_
                          refine z_iadd 497 dL_law_497 ?_
                          refine z_sld 498 dL_law_498 ?_
                          refine z_ci (zat_V3 499 dL_law_499 lk_L_56 zy_0 rfl rfl ⟨Nat.le_of_ble_eq_true rfl, Nat.le_of_ble_eq_true rfl⟩ (Nat.le_of_ble_eq_true rfl)) (tX10_of E (E.2.2.2.2.2.2 (zn (x162 + (1 : Int32)))) (E.2.2.2.2.2.2 (zn (x162 + (2 : Int32)))) (E.2.2.2.2.2.2 (zn (x162 + (3 : Int32)))) M163) (fun x354 => ?_)
                          refine z_aload_n 502 dL_law_502 rfl ?_
                          refine z_aload_n 503 dL_law_503 rfl ?_
                          refine z_iload_n 504 dL_law_504 rfl ?_
                          refine z_iconst 505 dL_law_505 zci_1 ?_
                          refine z_iadd 506 dL_law_506 ?_
                          refine z_sld 507 dL_law_507 ?_
                          refine z_aload_n 508 dL_law_508 rfl ?_
                          refine z_iload_n 509 dL_law_509 rfl ?_
                          refine z_iconst 510 dL_law_510 zci_2 ?_
                          refine z_iadd 511 dL_law_511 ?_
                          refine z_sld 512 dL_law_512 ?_
                          refine z_aload_n 513 dL_law_513 rfl ?_
                          refine z_iload_n 514 dL_law_514 rfl ?_
                          refine z_iconst 515 dL_law_515 zci_3 ?_
                          refine z_iadd 516 dL_law_516 ?_
                          refine z_sld 517 dL_law_517 ?_
                          refine z_ci (zat_V3 518 dL_law_518 lk_L_60 zy_76 rfl rfl ⟨Nat.le_of_ble_eq_true rfl, Nat.le_of_ble_eq_true rfl⟩ (Nat.le_of_ble_eq_true rfl)) (tX11_of E (E.2.2.2.2.2.2 (zn (x162 + (1 : Int32)))) (E.2.2.2.2.2.2 (zn (x162 + (2 : Int32)))) (E.2.2.2.2.2.2 (zn (x162 + (3 : Int32)))) M163) (fun x355 => ?_)
                          refine z_iceq 521 1541 dL_law_521 (by decide) (fun _ => ?_) (fun _ => ?_)
                          · exact zk_weak (L' := [some (.ref 1000), some (.ref 0), some (.ref 76), some (.int x162)]) (zLe_s (zLe_s (zLe_s (zLe_s zLe_nl)))) (hk323 M163)
                          · refine z_iconst 524 dL_law_524 zci_0 ?_
                            exact z_ireturn 525 (v := zb false) dL_law_525 rfl (zput_b false).1 (fun h => h _)
                        · refine z_tsc 33 526 (k := 10) (off := 493) dL_law_33 (by decide) (by decide) (by decide) (by decide) ?_ (fun n11 => ?_)
                          · refine z_aload_n 526 dL_law_526 rfl ?_
                            refine z_aload_n 527 dL_law_527 rfl ?_
                            refine z_iload_n 528 dL_law_528 rfl ?_
                            refine z_iconst 529 dL_law_529 zci_1 ?_
                            refine z_iadd 530 dL_law_530 ?_
                            refine z_sld 531 dL_law_531 ?_
                            refine z_aload_n 532 dL_law_532 rfl ?_
                            refine z_iload_n 533 dL_law_533 rfl ?_
                            refine z_iconst 534 dL_law_534 zci_2 ?_
                            refine z_iadd 535 dL_law_535 ?_
                            refine z_sld 536 dL_law_536 ?_
                            refine z_aload_n 537 dL_law_537 rfl ?_
                            refine z_iload_n 538 dL_law_538 rfl ?_
                            refine z_iconst 539 dL_law_539 zci_3 ?_
                            refine z_iadd 540 dL_law_540 ?_
                            refine z_sld 541 dL_law_541 ?_
                            refine z_aload_n 542 dL_law_542 rfl ?_
                            refine z_iload_n 543 dL_law_543 rfl ?_
                            refine z_iconst 544 dL_law_544 zci_4 ?_
                            refine z_iadd 545 dL_law_545 ?_
                            refine z_sld 546 dL_law_546 ?_
                            refine z_cI (zat_V4 547 dL_law_547 lk_L_61 zy_0 rfl rfl ⟨Nat.le_of_ble_eq_true rfl, Nat.le_of_ble_eq_true rfl⟩ (Nat.le_of_ble_eq_true rfl)) (tX10_sign E (E.2.2.2.2.2.2 (zn (x162 + (1 : Int32)))) (E.2.2.2.2.2.2 (zn (x162 + (2 : Int32)))) (E.2.2.2.2.2.2 (zn (x162 + (3 : Int32)))) (E.2.2.2.2.2.2 (zn (x162 + (4 : Int32)))) M163) (fun x357 M356 => ?_)
                            refine z_aload_n 550 dL_law_550 rfl ?_
                            refine z_aload_n 551 dL_law_551 rfl ?_
                            refine z_iload_n 552 dL_law_552 rfl ?_
                            refine z_iconst 553 dL_law_553 zci_1 ?_
                            refine z_iadd 554 dL_law_554 ?_
                            refine z_sld 555 dL_law_555 ?_
                            refine z_aload_n 556 dL_law_556 rfl ?_
                            refine z_iload_n 557 dL_law_557 rfl ?_
                            refine z_iconst 558 dL_law_558 zci_2 ?_
                            refine z_iadd 559 dL_law_559 ?_
                            refine z_sld 560 dL_law_560 ?_
                            refine z_aload_n 561 dL_law_561 rfl ?_
                            refine z_iload_n 562 dL_law_562 rfl ?_
                            refine z_iconst 563 dL_law_563 zci_3 ?_
                            refine z_iadd 564 dL_law_564 ?_
                            refine z_sld 565 dL_law_565 ?_
                            refine z_aload_n 566 dL_law_566 rfl ?_
                            refine z_iload_n 567 dL_law_567 rfl ?_
                            refine z_iconst 568 dL_law_568 zci_4 ?_
                            refine z_iadd 569 dL_law_569 ?_
                            refine z_sld 570 dL_law_570 ?_
                            refine z_cI (zat_V4 571 dL_law_571 lk_L_64 zy_76 rfl rfl ⟨Nat.le_of_ble_eq_true rfl, Nat.le_of_ble_eq_true rfl⟩ (Nat.le_of_ble_eq_true rfl)) (tX11_sign E (E.2.2.2.2.2.2 (zn (x162 + (1 : Int32)))) (E.2.2.2.2.2.2 (zn (x162 + (2 : Int32)))) (E.2.2.2.2.2.2 (zn (x162 + (3 : Int32)))) (E.2.2.2.2.2.2 (zn (x162 + (4 : Int32)))) M356) (fun x359 M358 => ?_)
                            refine z_iceq 574 1541 dL_law_574 (by decide) (fun _ => ?_) (fun _ => ?_)
                            · exact zk_weak (L' := [some (.ref 1000), some (.ref 0), some (.ref 76), some (.int x162)]) (zLe_s (zLe_s (zLe_s (zLe_s zLe_nl)))) (hk323 M358)
                            · refine z_iconst 577 dL_law_577 zci_0 ?_
                              exact z_ireturn 578 (v := zb false) dL_law_578 rfl (zput_b false).1 (fun h => h _)
                          · refine z_tsc 33 579 (k := 11) (off := 546) dL_law_33 (by decide) (by decide) (by decide) (by decide) ?_ (fun n12 => ?_)
                            · refine z_aload_n 579 dL_law_579 rfl ?_
                              refine z_aload_n 580 dL_law_580 rfl ?_
                              refine z_iload_n 581 dL_law_581 rfl ?_
                              refine z_iconst 582 dL_law_582 zci_1 ?_
                              refine z_iadd 583 dL_law_583 ?_
                              refine z_sld 584 dL_law_584 ?_
                              refine z_aload_n 585 dL_law_585 rfl ?_
                              refine z_iload_n 586 dL_law_586 rfl ?_
                              refine z_iconst 587 dL_law_587 zci_2 ?_
                              refine z_iadd 588 dL_law_588 ?_
                              refine z_sld 589 dL_law_589 ?_
                              refine z_ci (zat_V2 590 dL_law_590 lk_L_65 zy_0 rfl rfl ⟨Nat.le_of_ble_eq_true rfl, Nat.le_of_ble_eq_true rfl⟩ (Nat.le_of_ble_eq_true rfl)) (tX10_took E (E.2.2.2.2.2.2 (zn (x162 + (1 : Int32)))) (E.2.2.2.2.2.2 (zn (x162 + (2 : Int32)))) M163) (fun x360 => ?_)
                              refine z_aload_n 593 dL_law_593 rfl ?_
                              refine z_aload_n 594 dL_law_594 rfl ?_
                              refine z_iload_n 595 dL_law_595 rfl ?_
                              refine z_iconst 596 dL_law_596 zci_1 ?_
                              refine z_iadd 597 dL_law_597 ?_
                              refine z_sld 598 dL_law_598 ?_
                              refine z_aload_n 599 dL_law_599 rfl ?_
                              refine z_iload_n 600 dL_law_600 rfl ?_
                              refine z_iconst 601 dL_law_601 zci_2 ?_
                              refine z_iadd 602 dL_law_602 ?_
                              refine z_sld 603 dL_law_603 ?_
                              refine z_ci (zat_V2 604 dL_law_604 lk_L_68 zy_76 rfl rfl ⟨Nat.le_of_ble_eq_true rfl, Nat.le_of_ble_eq_true rfl⟩ (Nat.le_of_ble_eq_true rfl)) (tX11_took E (E.2.2.2.2.2.2 (zn (x162 + (1 : Int32)))) (E.2.2.2.2.2.2 (zn (x162 + (2 : Int32)))) M163) (fun x361 => ?_)
                              refine z_iceq 607 1541 dL_law_607 (by decide) (fun _ => ?_) (fun _ => ?_)
                              · exact zk_weak (L' := [some (.ref 1000), some (.ref 0), some (.ref 76), some (.int x162)]) (zLe_s (zLe_s (zLe_s (zLe_s zLe_nl)))) (hk323 M163)
                              · refine z_iconst 610 dL_law_610 zci_0 ?_
                                exact z_ireturn 611 (v := zb false) dL_law_611 rfl (zput_b false).1 (fun h => h _)
                            · refine z_tsc 33 612 (k := 12) (off := 579) dL_law_33 (by decide) (by decide) (by decide) (by decide) ?_ (fun n13 => ?_)
                              · refine z_aload_n 612 dL_law_612 rfl ?_
                                refine z_aload_n 613 dL_law_613 rfl ?_
                                refine z_iload_n 614 dL_law_614 rfl ?_
                                refine z_iconst 615 dL_law_615 zci_1 ?_
                                refine z_iadd 616 dL_law_616 ?_
                                refine z_sld 617 dL_law_617 ?_
                                refine z_aload_n 618 dL_law_618 rfl ?_
                                refine z_iload_n 619 dL_law_619 rfl ?_
                                refine z_iconst 620 dL_law_620 zci_2 ?_
                                refine z_iadd 621 dL_law_621 ?_
                                refine z_sld 622 dL_law_622 ?_
                                refine z_cI (zat_V2 623 dL_law_623 lk_L_69 zy_0 rfl rfl ⟨Nat.le_of_ble_eq_true rfl, Nat.le_of_ble_eq_true rfl⟩ (Nat.le_of_ble_eq_true rfl)) (tX10_cost E (E.2.2.2.2.2.2 (zn (x162 + (1 : Int32)))) (E.2.2.2.2.2.2 (zn (x162 + (2 : Int32)))) M163) (fun x363 M362 => ?_)
                                refine z_aload_n 626 dL_law_626 rfl ?_
                                refine z_aload_n 627 dL_law_627 rfl ?_
                                refine z_iload_n 628 dL_law_628 rfl ?_
                                refine z_iconst 629 dL_law_629 zci_1 ?_
                                refine z_iadd 630 dL_law_630 ?_
                                refine z_sld 631 dL_law_631 ?_
                                refine z_aload_n 632 dL_law_632 rfl ?_
                                refine z_iload_n 633 dL_law_633 rfl ?_
                                refine z_iconst 634 dL_law_634 zci_2 ?_
                                refine z_iadd 635 dL_law_635 ?_
                                refine z_sld 636 dL_law_636 ?_
                                refine z_ci (zat_V2 637 dL_law_637 lk_L_72 zy_76 rfl rfl ⟨Nat.le_of_ble_eq_true rfl, Nat.le_of_ble_eq_true rfl⟩ (Nat.le_of_ble_eq_true rfl)) (tX11_cost E (E.2.2.2.2.2.2 (zn (x162 + (1 : Int32)))) (E.2.2.2.2.2.2 (zn (x162 + (2 : Int32)))) M362) (fun x364 => ?_)
                                refine z_iceq 640 1541 dL_law_640 (by decide) (fun _ => ?_) (fun _ => ?_)
                                · exact zk_weak (L' := [some (.ref 1000), some (.ref 0), some (.ref 76), some (.int x162)]) (zLe_s (zLe_s (zLe_s (zLe_s zLe_nl)))) (hk323 M362)
                                · refine z_iconst 643 dL_law_643 zci_0 ?_
                                  exact z_ireturn 644 (v := zb false) dL_law_644 rfl (zput_b false).1 (fun h => h _)
                              · refine z_tsc 33 645 (k := 13) (off := 612) dL_law_33 (by decide) (by decide) (by decide) (by decide) ?_ (fun n14 => ?_)
                                · refine z_aload_n 645 dL_law_645 rfl ?_
                                  refine z_aload_n 646 dL_law_646 rfl ?_
                                  refine z_iload_n 647 dL_law_647 rfl ?_
                                  refine z_iconst 648 dL_law_648 zci_1 ?_
                                  refine z_iadd 649 dL_law_649 ?_
                                  refine z_sld 650 dL_law_650 ?_
                                  refine z_aload_n 651 dL_law_651 rfl ?_
                                  refine z_iload_n 652 dL_law_652 rfl ?_
                                  refine z_iconst 653 dL_law_653 zci_2 ?_
                                  refine z_iadd 654 dL_law_654 ?_
                                  refine z_sld 655 dL_law_655 ?_
                                  refine z_ci (zat_V2 656 dL_law_656 lk_L_73 zy_0 rfl rfl ⟨Nat.le_of_ble_eq_true rfl, Nat.le_of_ble_eq_true rfl⟩ (Nat.le_of_ble_eq_true rfl)) (tX10_why E (E.2.2.2.2.2.2 (zn (x162 + (1 : Int32)))) (E.2.2.2.2.2.2 (zn (x162 + (2 : Int32)))) M163) (fun x365 => ?_)
                                  refine z_aload_n 659 dL_law_659 rfl ?_
                                  refine z_aload_n 660 dL_law_660 rfl ?_
                                  refine z_iload_n 661 dL_law_661 rfl ?_
                                  refine z_iconst 662 dL_law_662 zci_1 ?_
                                  refine z_iadd 663 dL_law_663 ?_
                                  refine z_sld 664 dL_law_664 ?_
                                  refine z_aload_n 665 dL_law_665 rfl ?_
                                  refine z_iload_n 666 dL_law_666 rfl ?_
                                  refine z_iconst 667 dL_law_667 zci_2 ?_
                                  refine z_iadd 668 dL_law_668 ?_
                                  refine z_sld 669 dL_law_669 ?_
                                  refine z_ci (zat_V2 670 dL_law_670 lk_L_76 zy_76 rfl rfl ⟨Nat.le_of_ble_eq_true rfl, Nat.le_of_ble_eq_true rfl⟩ (Nat.le_of_ble_eq_true rfl)) (tX11_why E (E.2.2.2.2.2.2 (zn (x162 + (1 : Int32)))) (E.2.2.2.2.2.2 (zn (x162 + (2 : Int32)))) M163) (fun x366 => ?_)
                                  refine z_iceq 673 1541 dL_law_673 (by decide) (fun _ => ?_) (fun _ => ?_)
                                  · exact zk_weak (L' := [some (.ref 1000), some (.ref 0), some (.ref 76), some (.int x162)]) (zLe_s (zLe_s (zLe_s (zLe_s zLe_nl)))) (hk323 M163)
                                  · refine z_iconst 676 dL_law_676 zci_0 ?_
                                    exact z_ireturn 677 (v := zb false) dL_law_677 rfl (zput_b false).1 (fun h => h _)
                                · refine z_tsc 33 678 (k := 14) (off := 645) dL_law_33 (by decide) (by decide) (by decide) (by decide) ?_ (fun n15 => ?_)
                                  · refine z_aload_n 678 dL_law_678 rfl ?_
                                    refine z_aload_n 679 dL_law_679 rfl ?_
                                    refine z_iload_n 680 dL_law_680 rfl ?_
                                    refine z_iconst 681 dL_law_681 zci_1 ?_
                                    refine z_iadd 682 dL_law_682 ?_
                                    refine z_sld 683 dL_law_683 ?_
                                    refine z_cJ (zat_V1 684 dL_law_684 lk_L_77 zy_0 rfl rfl ⟨Nat.le_of_ble_eq_true rfl, Nat.le_of_ble_eq_true rfl⟩ (Nat.le_of_ble_eq_true rfl)) (tX10_best E (E.2.2.2.2.2.2 (zn (x162 + (1 : Int32)))) M163) (fun x368 M367 => ?_)
                                    refine z_aload_n 687 dL_law_687 rfl ?_
                                    refine z_aload_n 688 dL_law_688 rfl ?_
                                    refine z_iload_n 689 dL_law_689 rfl ?_
                                    refine z_iconst 690 dL_law_690 zci_1 ?_
                                    refine z_iadd 691 dL_law_691 ?_
                                    refine z_sld 692 dL_law_692 ?_
                                    refine z_cJ (zat_V1 693 dL_law_693 lk_L_81 zy_76 rfl rfl ⟨Nat.le_of_ble_eq_true rfl, Nat.le_of_ble_eq_true rfl⟩ (Nat.le_of_ble_eq_true rfl)) (tX11_best E (E.2.2.2.2.2.2 (zn (x162 + (1 : Int32)))) M367) (fun x370 M369 => ?_)
                                    refine z_lcmp 696 dL_law_696 ?_
                                    refine z_lceq 697 1541 dL_law_697 (by decide) (fun _ => ?_) (fun _ => ?_)
                                    · exact zk_weak (L' := [some (.ref 1000), some (.ref 0), some (.ref 76), some (.int x162)]) (zLe_s (zLe_s (zLe_s (zLe_s zLe_nl)))) (hk323 M369)
                                    · refine z_iconst 700 dL_law_700 zci_0 ?_
                                      exact z_ireturn 701 (v := zb false) dL_law_701 rfl (zput_b false).1 (fun h => h _)
                                  · refine z_tsc 33 702 (k := 15) (off := 669) dL_law_33 (by decide) (by decide) (by decide) (by decide) ?_ (fun n16 => ?_)
                                    · refine z_aload_n 702 dL_law_702 rfl ?_
                                      refine z_aload_n 703 dL_law_703 rfl ?_
                                      refine z_iload_n 704 dL_law_704 rfl ?_
                                      refine z_iconst 705 dL_law_705 zci_1 ?_
                                      refine z_iadd 706 dL_law_706 ?_
                                      refine z_sld 707 dL_law_707 ?_
                                      refine z_cI (zat_V1 708 dL_law_708 lk_L_82 zy_0 rfl rfl ⟨Nat.le_of_ble_eq_true rfl, Nat.le_of_ble_eq_true rfl⟩ (Nat.le_of_ble_eq_true rfl)) (tX10_first E (E.2.2.2.2.2.2 (zn (x162 + (1 : Int32)))) M163) (fun x372 M371 => ?_)
                                      refine z_aload_n 711 dL_law_711 rfl ?_
                                      refine z_aload_n 712 dL_law_712 rfl ?_
                                      refine z_iload_n 713 dL_law_713 rfl ?_
                                      refine z_iconst 714 dL_law_714 zci_1 ?_
                                      refine z_iadd 715 dL_law_715 ?_
                                      refine z_sld 716 dL_law_716 ?_
                                      refine z_cI (zat_V1 717 dL_law_717 lk_L_85 zy_76 rfl rfl ⟨Nat.le_of_ble_eq_true rfl, Nat.le_of_ble_eq_true rfl⟩ (Nat.le_of_ble_eq_true rfl)) (tX11_first E (E.2.2.2.2.2.2 (zn (x162 + (1 : Int32)))) M371) (fun x374 M373 => ?_)
                                      refine z_iceq 720 1541 dL_law_720 (by decide) (fun _ => ?_) (fun _ => ?_)
                                      · exact zk_weak (L' := [some (.ref 1000), some (.ref 0), some (.ref 76), some (.int x162)]) (zLe_s (zLe_s (zLe_s (zLe_s zLe_nl)))) (hk323 M373)
                                      · refine z_iconst 723 dL_law_723 zci_0 ?_
                                        exact z_ireturn 724 (v := zb false) dL_law_724 rfl (zput_b false).1 (fun h => h _)
                                    · refine z_tsc 33 725 (k := 16) (off := 692) dL_law_33 (by decide) (by decide) (by decide) (by decide) ?_ (fun n17 => ?_)
                                      · refine z_aload_n 725 dL_law_725 rfl ?_
                                        refine z_aload_n 726 dL_law_726 rfl ?_
                                        refine z_iload_n 727 dL_law_727 rfl ?_
                                        refine z_iconst 728 dL_law_728 zci_1 ?_
                                        refine z_iadd 729 dL_law_729 ?_
                                        refine z_sld 730 dL_law_730 ?_
                                        refine z_aload_n 731 dL_law_731 rfl ?_
                                        refine z_iload_n 732 dL_law_732 rfl ?_
                                        refine z_iconst 733 dL_law_733 zci_2 ?_
                                        refine z_iadd 734 dL_law_734 ?_
                                        refine z_sld 735 dL_law_735 ?_
                                        refine z_cI (zat_V2 736 dL_law_736 lk_L_86 zy_0 rfl rfl ⟨Nat.le_of_ble_eq_true rfl, Nat.le_of_ble_eq_true rfl⟩ (Nat.le_of_ble_eq_true rfl)) (tX10_sure E (E.2.2.2.2.2.2 (zn (x162 + (1 : Int32)))) (E.2.2.2.2.2.2 (zn (x162 + (2 : Int32)))) M163) (fun x376 M375 => ?_)
                                        refine z_aload_n 739 dL_law_739 rfl ?_
                                        refine z_aload_n 740 dL_law_740 rfl ?_
                                        refine z_iload_n 741 dL_law_741 rfl ?_
                                        refine z_iconst 742 dL_law_742 zci_1 ?_
                                        refine z_iadd 743 dL_law_743 ?_
                                        refine z_sld 744 dL_law_744 ?_
                                        refine z_aload_n 745 dL_law_745 rfl ?_
                                        refine z_iload_n 746 dL_law_746 rfl ?_
                                        refine z_iconst 747 dL_law_747 zci_2 ?_
                                        refine z_iadd 748 dL_law_748 ?_
                                        refine z_sld 749 dL_law_749 ?_
                                        refine z_cI (zat_V2 750 dL_law_750 lk_L_89 zy_76 rfl rfl ⟨Nat.le_of_ble_eq_true rfl, Nat.le_of_ble_eq_true rfl⟩ (Nat.le_of_ble_eq_true rfl)) (tX11_sure E (E.2.2.2.2.2.2 (zn (x162 + (1 : Int32)))) (E.2.2.2.2.2.2 (zn (x162 + (2 : Int32)))) M375) (fun x378 M377 => ?_)
                                        refine z_iceq 753 1541 dL_law_753 (by decide) (fun _ => ?_) (fun _ => ?_)
                                        · exact zk_weak (L' := [some (.ref 1000), some (.ref 0), some (.ref 76), some (.int x162)]) (zLe_s (zLe_s (zLe_s (zLe_s zLe_nl)))) (hk323 M377)
                                        · refine z_iconst 756 dL_law_756 zci_0 ?_
                                          exact z_ireturn 757 (v := zb false) dL_law_757 rfl (zput_b false).1 (fun h => h _)
                                      · refine z_tsc 33 758 (k := 17) (off := 725) dL_law_33 (by decide) (by decide) (by decide) (by decide) ?_ (fun n18 => ?_)
                                        · refine z_aload_n 758 dL_law_758 rfl ?_
                                          refine z_aload_n 759 dL_law_759 rfl ?_
                                          refine z_iload_n 760 dL_law_760 rfl ?_
                                          refine z_iconst 761 dL_law_761 zci_1 ?_
                                          refine z_iadd 762 dL_law_762 ?_
                                          refine z_sld 763 dL_law_763 ?_
                                          refine z_aload_n 764 dL_law_764 rfl ?_
                                          refine z_iload_n 765 dL_law_765 rfl ?_
                                          refine z_iconst 766 dL_law_766 zci_2 ?_
                                          refine z_iadd 767 dL_law_767 ?_
                                          refine z_sld 768 dL_law_768 ?_
                                          refine z_aload_n 769 dL_law_769 rfl ?_
                                          refine z_iload_n 770 dL_law_770 rfl ?_
                                          refine z_iconst 771 dL_law_771 zci_3 ?_
                                          refine z_iadd 772 dL_law_772 ?_
                                          refine z_sld 773 dL_law_773 ?_
                                          refine z_cJ (zat_V3 774 dL_law_774 lk_L_90 zy_0 rfl rfl ⟨Nat.le_of_ble_eq_true rfl, Nat.le_of_ble_eq_true rfl⟩ (Nat.le_of_ble_eq_true rfl)) (tX10_share E (E.2.2.2.2.2.2 (zn (x162 + (1 : Int32)))) (E.2.2.2.2.2.2 (zn (x162 + (2 : Int32)))) (E.2.2.2.2.2.2 (zn (x162 + (3 : Int32)))) M163) (fun x380 M379 => ?_)
                                          refine z_aload_n 777 dL_law_777 rfl ?_
                                          refine z_aload_n 778 dL_law_778 rfl ?_
                                          refine z_iload_n 779 dL_law_779 rfl ?_
                                          refine z_iconst 780 dL_law_780 zci_1 ?_
                                          refine z_iadd 781 dL_law_781 ?_
                                          refine z_sld 782 dL_law_782 ?_
                                          refine z_aload_n 783 dL_law_783 rfl ?_
                                          refine z_iload_n 784 dL_law_784 rfl ?_
                                          refine z_iconst 785 dL_law_785 zci_2 ?_
                                          refine z_iadd 786 dL_law_786 ?_
                                          refine z_sld 787 dL_law_787 ?_
                                          refine z_aload_n 788 dL_law_788 rfl ?_
                                          refine z_iload_n 789 dL_law_789 rfl ?_
                                          refine z_iconst 790 dL_law_790 zci_3 ?_
                                          refine z_iadd 791 dL_law_791 ?_
                                          refine z_sld 792 dL_law_792 ?_
                                          refine z_cJ (zat_V3 793 dL_law_793 lk_L_94 zy_76 rfl rfl ⟨Nat.le_of_ble_eq_true rfl, Nat.le_of_ble_eq_true rfl⟩ (Nat.le_of_ble_eq_true rfl)) (tX11_share E (E.2.2.2.2.2.2 (zn (x162 + (1 : Int32)))) (E.2.2.2.2.2.2 (zn (x162 + (2 : Int32)))) (E.2.2.2.2.2.2 (zn (x162 + (3 : Int32)))) M379) (fun x382 M381 => ?_)
                                          refine z_lcmp 796 dL_law_796 ?_
                                          refine z_lceq 797 1541 dL_law_797 (by decide) (fun _ => ?_) (fun _ => ?_)
                                          · exact zk_weak (L' := [some (.ref 1000), some (.ref 0), some (.ref 76), some (.int x162)]) (zLe_s (zLe_s (zLe_s (zLe_s zLe_nl)))) (hk323 M381)
                                          · refine z_iconst 800 dL_law_800 zci_0 ?_
                                            exact z_ireturn 801 (v := zb false) dL_law_801 rfl (zput_b false).1 (fun h => h _)
                                        · refine z_tsc 33 802 (k := 18) (off := 769) dL_law_33 (by decide) (by decide) (by decide) (by decide) ?_ (fun n19 => ?_)
                                          · refine z_aload_n 802 dL_law_802 rfl ?_
                                            refine z_aload_n 803 dL_law_803 rfl ?_
                                            refine z_iload_n 804 dL_law_804 rfl ?_
                                            refine z_iconst 805 dL_law_805 zci_1 ?_
                                            refine z_iadd 806 dL_law_806 ?_
                                            refine z_sld 807 dL_law_807 ?_
                                            refine z_aload_n 808 dL_law_808 rfl ?_
                                            refine z_iload_n 809 dL_law_809 rfl ?_
                                            refine z_iconst 810 dL_law_810 zci_2 ?_
                                            refine z_iadd 811 dL_law_811 ?_
                                            refine z_sld 812 dL_law_812 ?_
                                            refine z_aload_n 813 dL_law_813 rfl ?_
                                            refine z_iload_n 814 dL_law_814 rfl ?_
                                            refine z_iconst 815 dL_law_815 zci_3 ?_
                                            refine z_iadd 816 dL_law_816 ?_
                                            refine z_sld 817 dL_law_817 ?_
                                            refine zk_ltj (α := Bool) 826 (fun (b383 : Bool) => [some (.ref 1000), some (.ref 0), some (.ref 76), some (.int x162)]) (fun (b383 : Bool) => [.int (zb b383), .int (E.2.2.2.2.2.2 (zn (x162 + (2 : Int32)))), .int (E.2.2.2.2.2.2 (zn (x162 + (1 : Int32)))), .ref 0]) (fun (b383 : Bool) => (zY0, M163)) ?_ ?_
                                            · intro b383
                                              refine z_cI (zat_V3 826 dL_law_826 lk_L_95 zy_0 rfl rfl ⟨Nat.le_of_ble_eq_true rfl, Nat.le_of_ble_eq_true rfl⟩ (Nat.le_of_ble_eq_true rfl)) (tX10_ifMust E (E.2.2.2.2.2.2 (zn (x162 + (1 : Int32)))) (E.2.2.2.2.2.2 (zn (x162 + (2 : Int32)))) (zb b383) M163) (fun x385 M384 => ?_)
                                              refine z_aload_n 829 dL_law_829 rfl ?_
                                              refine z_aload_n 830 dL_law_830 rfl ?_
                                              refine z_iload_n 831 dL_law_831 rfl ?_
                                              refine z_iconst 832 dL_law_832 zci_1 ?_
                                              refine z_iadd 833 dL_law_833 ?_
                                              refine z_sld 834 dL_law_834 ?_
                                              refine z_aload_n 835 dL_law_835 rfl ?_
                                              refine z_iload_n 836 dL_law_836 rfl ?_
                                              refine z_iconst 837 dL_law_837 zci_2 ?_
                                              refine z_iadd 838 dL_law_838 ?_
                                              refine z_sld 839 dL_law_839 ?_
                                              refine z_aload_n 840 dL_law_840 rfl ?_
                                              refine z_iload_n 841 dL_law_841 rfl ?_
                                              refine z_iconst 842 dL_law_842 zci_3 ?_
                                              refine z_iadd 843 dL_law_843 ?_
                                              refine z_sld 844 dL_law_844 ?_
                                              refine zk_ltj (α := Bool) 853 (fun (b386 : Bool) => [some (.ref 1000), some (.ref 0), some (.ref 76), some (.int x162)]) (fun (b386 : Bool) => [.int (zb b386), .int (E.2.2.2.2.2.2 (zn (x162 + (2 : Int32)))), .int (E.2.2.2.2.2.2 (zn (x162 + (1 : Int32)))), .ref 76, .int x385]) (fun (b386 : Bool) => (zY0, M384)) ?_ ?_
                                              · intro b386
                                                refine z_cI (zat_V3 853 dL_law_853 lk_L_99 zy_76 rfl rfl ⟨Nat.le_of_ble_eq_true rfl, Nat.le_of_ble_eq_true rfl⟩ (Nat.le_of_ble_eq_true rfl)) (tX11_ifMust E (E.2.2.2.2.2.2 (zn (x162 + (1 : Int32)))) (E.2.2.2.2.2.2 (zn (x162 + (2 : Int32)))) (zb b386) M384) (fun x388 M387 => ?_)
                                                refine z_iceq 856 1541 dL_law_856 (by decide) (fun _ => ?_) (fun _ => ?_)
                                                · exact zk_weak (L' := [some (.ref 1000), some (.ref 0), some (.ref 76), some (.int x162)]) (zLe_s (zLe_s (zLe_s (zLe_s zLe_nl)))) (hk323 M387)
                                                · refine z_iconst 859 dL_law_859 zci_0 ?_
                                                  exact z_ireturn 860 (v := zb false) dL_law_860 rfl (zput_b false).1 (fun h => h _)
                                              · intro k389 hk389
                                                refine z_ifeqv 845 852 dL_law_845 (by decide) ?_ ?_
                                                · refine z_iconst 852 dL_law_852 zci_0 ?_
                                                  exact zk_weak (L' := [some (.ref 1000), some (.ref 0), some (.ref 76), some (.int x162)]) (zLe_s (zLe_s (zLe_s (zLe_s zLe_nl)))) (hk389 false)
                                                · refine z_iconst 848 dL_law_848 zci_1 ?_
                                                  refine z_goto 849 853 dL_law_849 (by decide) ?_
                                                  exact zk_weak (L' := [some (.ref 1000), some (.ref 0), some (.ref 76), some (.int x162)]) (zLe_s (zLe_s (zLe_s (zLe_s zLe_nl)))) (hk389 true)
                                            · intro k390 hk390
                                              refine z_ifeqv 818 825 dL_law_818 (by decide) ?_ ?_
                                              · refine z_iconst 825 dL_law_825 zci_0 ?_
                                                exact zk_weak (L' := [some (.ref 1000), some (.ref 0), some (.ref 76), some (.int x162)]) (zLe_s (zLe_s (zLe_s (zLe_s zLe_nl)))) (hk390 false)
                                              · refine z_iconst 821 dL_law_821 zci_1 ?_
                                                refine z_goto 822 826 dL_law_822 (by decide) ?_
                                                exact zk_weak (L' := [some (.ref 1000), some (.ref 0), some (.ref 76), some (.int x162)]) (zLe_s (zLe_s (zLe_s (zLe_s zLe_nl)))) (hk390 true)
                                          · refine z_tsc 33 861 (k := 19) (off := 828) dL_law_33 (by decide) (by decide) (by decide) (by decide) ?_ (fun n20 => ?_)
                                            · refine z_aload_n 861 dL_law_861 rfl ?_
                                              refine z_aload_n 862 dL_law_862 rfl ?_
                                              refine z_iload_n 863 dL_law_863 rfl ?_
                                              refine z_iconst 864 dL_law_864 zci_1 ?_
                                              refine z_iadd 865 dL_law_865 ?_
                                              refine z_sld 866 dL_law_866 ?_
                                              refine z_aload_n 867 dL_law_867 rfl ?_
                                              refine z_iload_n 868 dL_law_868 rfl ?_
                                              refine z_iconst 869 dL_law_869 zci_2 ?_
                                              refine z_iadd 870 dL_law_870 ?_
                                              refine z_sld 871 dL_law_871 ?_
                                              refine z_cI (zat_V2 872 dL_law_872 lk_L_100 zy_0 rfl rfl ⟨Nat.le_of_ble_eq_true rfl, Nat.le_of_ble_eq_true rfl⟩ (Nat.le_of_ble_eq_true rfl)) (tX10_alone E (E.2.2.2.2.2.2 (zn (x162 + (1 : Int32)))) (E.2.2.2.2.2.2 (zn (x162 + (2 : Int32)))) M163) (fun x392 M391 => ?_)
                                              refine z_aload_n 875 dL_law_875 rfl ?_
                                              refine z_aload_n 876 dL_law_876 rfl ?_
                                              refine z_iload_n 877 dL_law_877 rfl ?_
                                              refine z_iconst 878 dL_law_878 zci_1 ?_
                                              refine z_iadd 879 dL_law_879 ?_
                                              refine z_sld 880 dL_law_880 ?_
                                              refine z_aload_n 881 dL_law_881 rfl ?_
                                              refine z_iload_n 882 dL_law_882 rfl ?_
                                              refine z_iconst 883 dL_law_883 zci_2 ?_
                                              refine z_iadd 884 dL_law_884 ?_
                                              refine z_sld 885 dL_law_885 ?_
                                              refine z_cI (zat_V2 886 dL_law_886 lk_L_103 zy_76 rfl rfl ⟨Nat.le_of_ble_eq_true rfl, Nat.le_of_ble_eq_true rfl⟩ (Nat.le_of_ble_eq_true rfl)) (tX11_alone E (E.2.2.2.2.2.2 (zn (x162 + (1 : Int32)))) (E.2.2.2.2.2.2 (zn (x162 + (2 : Int32)))) M391) (fun x394 M393 => ?_)
                                              refine z_iceq 889 1541 dL_law_889 (by decide) (fun _ => ?_) (fun _ => ?_)
                                              · exact zk_weak (L' := [some (.ref 1000), some (.ref 0), some (.ref 76), some (.int x162)]) (zLe_s (zLe_s (zLe_s (zLe_s zLe_nl)))) (hk323 M393)
                                              · refine z_iconst 892 dL_law_892 zci_0 ?_
                                                exact z_ireturn 893 (v := zb false) dL_law_893 rfl (zput_b false).1 (fun h => h _)
                                            · refine z_tsc 33 894 (k := 20) (off := 861) dL_law_33 (by decide) (by decide) (by decide) (by decide) ?_ (fun n21 => ?_)
                                              · refine z_aload_n 894 dL_law_894 rfl ?_
                                                refine z_aload_n 895 dL_law_895 rfl ?_
                                                refine z_iload_n 896 dL_law_896 rfl ?_
                                                refine z_iconst 897 dL_law_897 zci_1 ?_
                                                refine z_iadd 898 dL_law_898 ?_
                                                refine z_sld 899 dL_law_899 ?_
                                                refine z_cI (zat_V1 900 dL_law_900 lk_L_104 zy_0 rfl rfl ⟨Nat.le_of_ble_eq_true rfl, Nat.le_of_ble_eq_true rfl⟩ (Nat.le_of_ble_eq_true rfl)) (tX10_many E (E.2.2.2.2.2.2 (zn (x162 + (1 : Int32)))) M163) (fun x396 M395 => ?_)
                                                refine z_aload_n 903 dL_law_903 rfl ?_
                                                refine z_aload_n 904 dL_law_904 rfl ?_
                                                refine z_iload_n 905 dL_law_905 rfl ?_
                                                refine z_iconst 906 dL_law_906 zci_1 ?_
                                                refine z_iadd 907 dL_law_907 ?_
                                                refine z_sld 908 dL_law_908 ?_
                                                refine z_cI (zat_V1 909 dL_law_909 lk_L_107 zy_76 rfl rfl ⟨Nat.le_of_ble_eq_true rfl, Nat.le_of_ble_eq_true rfl⟩ (Nat.le_of_ble_eq_true rfl)) (tX11_many E (E.2.2.2.2.2.2 (zn (x162 + (1 : Int32)))) M395) (fun x398 M397 => ?_)
                                                refine z_iceq 912 1541 dL_law_912 (by decide) (fun _ => ?_) (fun _ => ?_)
                                                · exact zk_weak (L' := [some (.ref 1000), some (.ref 0), some (.ref 76), some (.int x162)]) (zLe_s (zLe_s (zLe_s (zLe_s zLe_nl)))) (hk323 M397)
                                                · refine z_iconst 915 dL_law_915 zci_0 ?_
                                                  exact z_ireturn 916 (v := zb false) dL_law_916 rfl (zput_b false).1 (fun h => h _)
                                              · refine z_tsc 33 917 (k := 21) (off := 884) dL_law_33 (by decide) (by decide) (by decide) (by decide) ?_ (fun n22 => ?_)
                                                · refine z_aload_n 917 dL_law_917 rfl ?_
                                                  refine z_aload_n 918 dL_law_918 rfl ?_
                                                  refine z_iload_n 919 dL_law_919 rfl ?_
                                                  refine z_iconst 920 dL_law_920 zci_1 ?_
                                                  refine z_iadd 921 dL_law_921 ?_
                                                  refine z_sld 922 dL_law_922 ?_
                                                  refine z_cJ (zat_V1 923 dL_law_923 lk_L_108 zy_0 rfl rfl ⟨Nat.le_of_ble_eq_true rfl, Nat.le_of_ble_eq_true rfl⟩ (Nat.le_of_ble_eq_true rfl)) (tX10_ways E (E.2.2.2.2.2.2 (zn (x162 + (1 : Int32)))) M163) (fun x400 M399 => ?_)
                                                  refine z_aload_n 926 dL_law_926 rfl ?_
                                                  refine z_aload_n 927 dL_law_927 rfl ?_
                                                  refine z_iload_n 928 dL_law_928 rfl ?_
                                                  refine z_iconst 929 dL_law_929 zci_1 ?_
                                                  refine z_iadd 930 dL_law_930 ?_
                                                  refine z_sld 931 dL_law_931 ?_
                                                  refine z_cJ (zat_V1 932 dL_law_932 lk_L_111 zy_76 rfl rfl ⟨Nat.le_of_ble_eq_true rfl, Nat.le_of_ble_eq_true rfl⟩ (Nat.le_of_ble_eq_true rfl)) (tX11_ways E (E.2.2.2.2.2.2 (zn (x162 + (1 : Int32)))) M399) (fun x402 M401 => ?_)
                                                  refine z_lcmp 935 dL_law_935 ?_
                                                  refine z_lceq 936 1541 dL_law_936 (by decide) (fun _ => ?_) (fun _ => ?_)
                                                  · exact zk_weak (L' := [some (.ref 1000), some (.ref 0), some (.ref 76), some (.int x162)]) (zLe_s (zLe_s (zLe_s (zLe_s zLe_nl)))) (hk323 M401)
                                                  · refine z_iconst 939 dL_law_939 zci_0 ?_
                                                    exact z_ireturn 940 (v := zb false) dL_law_940 rfl (zput_b false).1 (fun h => h _)
                                                · refine z_tsc 33 941 (k := 22) (off := 908) dL_law_33 (by decide) (by decide) (by decide) (by decide) ?_ (fun n23 => ?_)
                                                  · refine z_aload_n 941 dL_law_941 rfl ?_
                                                    refine z_aload_n 942 dL_law_942 rfl ?_
                                                    refine z_iload_n 943 dL_law_943 rfl ?_
                                                    refine z_iconst 944 dL_law_944 zci_1 ?_
                                                    refine z_iadd 945 dL_law_945 ?_
                                                    refine z_sld 946 dL_law_946 ?_
                                                    refine z_aload_n 947 dL_law_947 rfl ?_
                                                    refine z_iload_n 948 dL_law_948 rfl ?_
                                                    refine z_iconst 949 dL_law_949 zci_2 ?_
                                                    refine z_iadd 950 dL_law_950 ?_
                                                    refine z_sld 951 dL_law_951 ?_
                                                    refine z_cI (zat_V2 952 dL_law_952 lk_L_112 zy_0 rfl rfl ⟨Nat.le_of_ble_eq_true rfl, Nat.le_of_ble_eq_true rfl⟩ (Nat.le_of_ble_eq_true rfl)) (tX10_tell E (E.2.2.2.2.2.2 (zn (x162 + (1 : Int32)))) (E.2.2.2.2.2.2 (zn (x162 + (2 : Int32)))) M163) (fun x404 M403 => ?_)
                                                    refine z_aload_n 955 dL_law_955 rfl ?_
                                                    refine z_aload_n 956 dL_law_956 rfl ?_
                                                    refine z_iload_n 957 dL_law_957 rfl ?_
                                                    refine z_iconst 958 dL_law_958 zci_1 ?_
                                                    refine z_iadd 959 dL_law_959 ?_
                                                    refine z_sld 960 dL_law_960 ?_
                                                    refine z_aload_n 961 dL_law_961 rfl ?_
                                                    refine z_iload_n 962 dL_law_962 rfl ?_
                                                    refine z_iconst 963 dL_law_963 zci_2 ?_
                                                    refine z_iadd 964 dL_law_964 ?_
                                                    refine z_sld 965 dL_law_965 ?_
                                                    refine z_cI (zat_V2 966 dL_law_966 lk_L_115 zy_76 rfl rfl ⟨Nat.le_of_ble_eq_true rfl, Nat.le_of_ble_eq_true rfl⟩ (Nat.le_of_ble_eq_true rfl)) (tX11_tell E (E.2.2.2.2.2.2 (zn (x162 + (1 : Int32)))) (E.2.2.2.2.2.2 (zn (x162 + (2 : Int32)))) M403) (fun x406 M405 => ?_)
                                                    refine z_iceq 969 1541 dL_law_969 (by decide) (fun _ => ?_) (fun _ => ?_)
                                                    · exact zk_weak (L' := [some (.ref 1000), some (.ref 0), some (.ref 76), some (.int x162)]) (zLe_s (zLe_s (zLe_s (zLe_s zLe_nl)))) (hk323 M405)
                                                    · refine z_iconst 972 dL_law_972 zci_0 ?_
                                                      exact z_ireturn 973 (v := zb false) dL_law_973 rfl (zput_b false).1 (fun h => h _)
                                                  · refine z_tsc 33 974 (k := 23) (off := 941) dL_law_33 (by decide) (by decide) (by decide) (by decide) ?_ (fun n24 => ?_)
                                                    · refine z_aload_n 974 dL_law_974 rfl ?_
                                                      refine z_cI (zat_V0 975 dL_law_975 lk_L_116 zy_0 rfl rfl ⟨Nat.le_of_ble_eq_true rfl, Nat.le_of_ble_eq_true rfl⟩ (Nat.le_of_ble_eq_true rfl)) (tX10_adopt E M163) (fun x408 M407 => ?_)
                                                      refine z_aload_n 978 dL_law_978 rfl ?_
                                                      refine z_cI (zat_V0 979 dL_law_979 lk_L_119 zy_76 rfl rfl ⟨Nat.le_of_ble_eq_true rfl, Nat.le_of_ble_eq_true rfl⟩ (Nat.le_of_ble_eq_true rfl)) (tX11_adopt E M407) (fun x410 M409 => ?_)
                                                      refine z_iceq 982 1541 dL_law_982 (by decide) (fun _ => ?_) (fun _ => ?_)
                                                      · exact zk_weak (L' := [some (.ref 1000), some (.ref 0), some (.ref 76), some (.int x162)]) (zLe_s (zLe_s (zLe_s (zLe_s zLe_nl)))) (hk323 M409)
                                                      · refine z_iconst 985 dL_law_985 zci_0 ?_
                                                        exact z_ireturn 986 (v := zb false) dL_law_986 rfl (zput_b false).1 (fun h => h _)
                                                    · refine z_tsc 33 987 (k := 24) (off := 954) dL_law_33 (by decide) (by decide) (by decide) (by decide) ?_ (fun n25 => ?_)
                                                      · refine z_aload_n 987 dL_law_987 rfl ?_
                                                        refine z_aload_n 988 dL_law_988 rfl ?_
                                                        refine z_iload_n 989 dL_law_989 rfl ?_
                                                        refine z_iconst 990 dL_law_990 zci_1 ?_
                                                        refine z_iadd 991 dL_law_991 ?_
                                                        refine z_sld 992 dL_law_992 ?_
                                                        refine z_cI (zat_V1 993 dL_law_993 lk_L_120 zy_0 rfl rfl ⟨Nat.le_of_ble_eq_true rfl, Nat.le_of_ble_eq_true rfl⟩ (Nat.le_of_ble_eq_true rfl)) (tX10_judge E (E.2.2.2.2.2.2 (zn (x162 + (1 : Int32)))) M163) (fun x412 M411 => ?_)
                                                        refine z_aload_n 996 dL_law_996 rfl ?_
                                                        refine z_aload_n 997 dL_law_997 rfl ?_
                                                        refine z_iload_n 998 dL_law_998 rfl ?_
                                                        refine z_iconst 999 dL_law_999 zci_1 ?_
                                                        refine z_iadd 1000 dL_law_1000 ?_
                                                        refine z_sld 1001 dL_law_1001 ?_
                                                        refine z_cI (zat_V1 1002 dL_law_1002 lk_L_123 zy_76 rfl rfl ⟨Nat.le_of_ble_eq_true rfl, Nat.le_of_ble_eq_true rfl⟩ (Nat.le_of_ble_eq_true rfl)) (tX11_judge E (E.2.2.2.2.2.2 (zn (x162 + (1 : Int32)))) M411) (fun x414 M413 => ?_)
                                                        refine z_iceq 1005 1541 dL_law_1005 (by decide) (fun _ => ?_) (fun _ => ?_)
                                                        · exact zk_weak (L' := [some (.ref 1000), some (.ref 0), some (.ref 76), some (.int x162)]) (zLe_s (zLe_s (zLe_s (zLe_s zLe_nl)))) (hk323 M413)
                                                        · refine z_iconst 1008 dL_law_1008 zci_0 ?_
                                                          exact z_ireturn 1009 (v := zb false) dL_law_1009 rfl (zput_b false).1 (fun h => h _)
                                                      · refine z_tsc 33 1010 (k := 25) (off := 977) dL_law_33 (by decide) (by decide) (by decide) (by decide) ?_ (fun n26 => ?_)
                                                        · refine z_aload_n 1010 dL_law_1010 rfl ?_
                                                          refine z_aload_n 1011 dL_law_1011 rfl ?_
                                                          refine z_iload_n 1012 dL_law_1012 rfl ?_
                                                          refine z_iconst 1013 dL_law_1013 zci_1 ?_
                                                          refine z_iadd 1014 dL_law_1014 ?_
                                                          refine z_sld 1015 dL_law_1015 ?_
                                                          refine z_aload_n 1016 dL_law_1016 rfl ?_
                                                          refine z_iload_n 1017 dL_law_1017 rfl ?_
                                                          refine z_iconst 1018 dL_law_1018 zci_2 ?_
                                                          refine z_iadd 1019 dL_law_1019 ?_
                                                          refine z_sld 1020 dL_law_1020 ?_
                                                          refine z_aload_n 1021 dL_law_1021 rfl ?_
                                                          refine z_iload_n 1022 dL_law_1022 rfl ?_
                                                          refine z_iconst 1023 dL_law_1023 zci_3 ?_
                                                          refine z_iadd 1024 dL_law_1024 ?_
                                                          refine z_sld 1025 dL_law_1025 ?_
                                                          refine z_aload_n 1026 dL_law_1026 rfl ?_
                                                          refine z_iload_n 1027 dL_law_1027 rfl ?_
                                                          refine z_iconst 1028 dL_law_1028 zci_4 ?_
                                                          refine z_iadd 1029 dL_law_1029 ?_
                                                          refine z_sld 1030 dL_law_1030 ?_
                                                          refine z_cI (zat_V4 1031 dL_law_1031 lk_L_124 zy_0 rfl rfl ⟨Nat.le_of_ble_eq_true rfl, Nat.le_of_ble_eq_true rfl⟩ (Nat.le_of_ble_eq_true rfl)) (tX10_prices E (E.2.2.2.2.2.2 (zn (x162 + (1 : Int32)))) (E.2.2.2.2.2.2 (zn (x162 + (2 : Int32)))) (E.2.2.2.2.2.2 (zn (x162 + (3 : Int32)))) (E.2.2.2.2.2.2 (zn (x162 + (4 : Int32)))) M163) (fun x416 M415 => ?_)
                                                          refine z_aload_n 1034 dL_law_1034 rfl ?_
                                                          refine z_aload_n 1035 dL_law_1035 rfl ?_
                                                          refine z_iload_n 1036 dL_law_1036 rfl ?_
                                                          refine z_iconst 1037 dL_law_1037 zci_1 ?_
                                                          refine z_iadd 1038 dL_law_1038 ?_
                                                          refine z_sld 1039 dL_law_1039 ?_
                                                          refine z_aload_n 1040 dL_law_1040 rfl ?_
                                                          refine z_iload_n 1041 dL_law_1041 rfl ?_
                                                          refine z_iconst 1042 dL_law_1042 zci_2 ?_
                                                          refine z_iadd 1043 dL_law_1043 ?_
                                                          refine z_sld 1044 dL_law_1044 ?_
                                                          refine z_aload_n 1045 dL_law_1045 rfl ?_
                                                          refine z_iload_n 1046 dL_law_1046 rfl ?_
                                                          refine z_iconst 1047 dL_law_1047 zci_3 ?_
                                                          refine z_iadd 1048 dL_law_1048 ?_
                                                          refine z_sld 1049 dL_law_1049 ?_
                                                          refine z_aload_n 1050 dL_law_1050 rfl ?_
                                                          refine z_iload_n 1051 dL_law_1051 rfl ?_
                                                          refine z_iconst 1052 dL_law_1052 zci_4 ?_
                                                          refine z_iadd 1053 dL_law_1053 ?_
                                                          refine z_sld 1054 dL_law_1054 ?_
                                                          refine z_cI (zat_V4 1055 dL_law_1055 lk_L_127 zy_76 rfl rfl ⟨Nat.le_of_ble_eq_true rfl, Nat.le_of_ble_eq_true rfl⟩ (Nat.le_of_ble_eq_true rfl)) (tX11_prices E (E.2.2.2.2.2.2 (zn (x162 + (1 : Int32)))) (E.2.2.2.2.2.2 (zn (x162 + (2 : Int32)))) (E.2.2.2.2.2.2 (zn (x162 + (3 : Int32)))) (E.2.2.2.2.2.2 (zn (x162 + (4 : Int32)))) M415) (fun x418 M417 => ?_)
                                                          refine z_iceq 1058 1541 dL_law_1058 (by decide) (fun _ => ?_) (fun _ => ?_)
                                                          · exact zk_weak (L' := [some (.ref 1000), some (.ref 0), some (.ref 76), some (.int x162)]) (zLe_s (zLe_s (zLe_s (zLe_s zLe_nl)))) (hk323 M417)
                                                          · refine z_iconst 1061 dL_law_1061 zci_0 ?_
                                                            exact z_ireturn 1062 (v := zb false) dL_law_1062 rfl (zput_b false).1 (fun h => h _)
                                                        · refine z_tsc 33 1063 (k := 26) (off := 1030) dL_law_33 (by decide) (by decide) (by decide) (by decide) ?_ (fun n27 => ?_)
                                                          · refine z_aload_n 1063 dL_law_1063 rfl ?_
                                                            refine z_aload_n 1064 dL_law_1064 rfl ?_
                                                            refine z_iload_n 1065 dL_law_1065 rfl ?_
                                                            refine z_iconst 1066 dL_law_1066 zci_1 ?_
                                                            refine z_iadd 1067 dL_law_1067 ?_
                                                            refine z_sld 1068 dL_law_1068 ?_
                                                            refine z_cI (zat_V1 1069 dL_law_1069 lk_L_128 zy_0 rfl rfl ⟨Nat.le_of_ble_eq_true rfl, Nat.le_of_ble_eq_true rfl⟩ (Nat.le_of_ble_eq_true rfl)) (tX10_times E (E.2.2.2.2.2.2 (zn (x162 + (1 : Int32)))) M163) (fun x420 M419 => ?_)
                                                            refine z_aload_n 1072 dL_law_1072 rfl ?_
                                                            refine z_aload_n 1073 dL_law_1073 rfl ?_
                                                            refine z_iload_n 1074 dL_law_1074 rfl ?_
                                                            refine z_iconst 1075 dL_law_1075 zci_1 ?_
                                                            refine z_iadd 1076 dL_law_1076 ?_
                                                            refine z_sld 1077 dL_law_1077 ?_
                                                            refine z_cI (zat_V1 1078 dL_law_1078 lk_L_131 zy_76 rfl rfl ⟨Nat.le_of_ble_eq_true rfl, Nat.le_of_ble_eq_true rfl⟩ (Nat.le_of_ble_eq_true rfl)) (tX11_times E (E.2.2.2.2.2.2 (zn (x162 + (1 : Int32)))) M419) (fun x422 M421 => ?_)
                                                            refine z_iceq 1081 1541 dL_law_1081 (by decide) (fun _ => ?_) (fun _ => ?_)
                                                            · exact zk_weak (L' := [some (.ref 1000), some (.ref 0), some (.ref 76), some (.int x162)]) (zLe_s (zLe_s (zLe_s (zLe_s zLe_nl)))) (hk323 M421)
                                                            · refine z_iconst 1084 dL_law_1084 zci_0 ?_
                                                              exact z_ireturn 1085 (v := zb false) dL_law_1085 rfl (zput_b false).1 (fun h => h _)
                                                          · refine z_tsc 33 1086 (k := 27) (off := 1053) dL_law_33 (by decide) (by decide) (by decide) (by decide) ?_ (fun n28 => ?_)
                                                            · refine z_aload_n 1086 dL_law_1086 rfl ?_
                                                              refine z_aload_n 1087 dL_law_1087 rfl ?_
                                                              refine z_iload_n 1088 dL_law_1088 rfl ?_
                                                              refine z_iconst 1089 dL_law_1089 zci_1 ?_
                                                              refine z_iadd 1090 dL_law_1090 ?_
                                                              refine z_sld 1091 dL_law_1091 ?_
                                                              refine z_cI (zat_V1 1092 dL_law_1092 lk_L_132 zy_0 rfl rfl ⟨Nat.le_of_ble_eq_true rfl, Nat.le_of_ble_eq_true rfl⟩ (Nat.le_of_ble_eq_true rfl)) (tX10_clock E (E.2.2.2.2.2.2 (zn (x162 + (1 : Int32)))) M163) (fun x424 M423 => ?_)
                                                              refine z_aload_n 1095 dL_law_1095 rfl ?_
                                                              refine z_aload_n 1096 dL_law_1096 rfl ?_
                                                              refine z_iload_n 1097 dL_law_1097 rfl ?_
                                                              refine z_iconst 1098 dL_law_1098 zci_1 ?_
                                                              refine z_iadd 1099 dL_law_1099 ?_
                                                              refine z_sld 1100 dL_law_1100 ?_
                                                              refine z_cI (zat_V1 1101 dL_law_1101 lk_L_135 zy_76 rfl rfl ⟨Nat.le_of_ble_eq_true rfl, Nat.le_of_ble_eq_true rfl⟩ (Nat.le_of_ble_eq_true rfl)) (tX11_clock E (E.2.2.2.2.2.2 (zn (x162 + (1 : Int32)))) M423) (fun x426 M425 => ?_)
                                                              refine z_iceq 1104 1541 dL_law_1104 (by decide) (fun _ => ?_) (fun _ => ?_)
                                                              · exact zk_weak (L' := [some (.ref 1000), some (.ref 0), some (.ref 76), some (.int x162)]) (zLe_s (zLe_s (zLe_s (zLe_s zLe_nl)))) (hk323 M425)
                                                              · refine z_iconst 1107 dL_law_1107 zci_0 ?_
                                                                exact z_ireturn 1108 (v := zb false) dL_law_1108 rfl (zput_b false).1 (fun h => h _)
                                                            · refine z_tsc 33 1109 (k := 28) (off := 1076) dL_law_33 (by decide) (by decide) (by decide) (by decide) ?_ (fun n29 => ?_)
                                                              · refine z_aload_n 1109 dL_law_1109 rfl ?_
                                                                refine z_aload_n 1110 dL_law_1110 rfl ?_
                                                                refine z_iload_n 1111 dL_law_1111 rfl ?_
                                                                refine z_iconst 1112 dL_law_1112 zci_1 ?_
                                                                refine z_iadd 1113 dL_law_1113 ?_
                                                                refine z_sld 1114 dL_law_1114 ?_
                                                                refine z_cI (zat_V1 1115 dL_law_1115 lk_L_136 zy_0 rfl rfl ⟨Nat.le_of_ble_eq_true rfl, Nat.le_of_ble_eq_true rfl⟩ (Nat.le_of_ble_eq_true rfl)) (tX10_passed E (E.2.2.2.2.2.2 (zn (x162 + (1 : Int32)))) M163) (fun x428 M427 => ?_)
                                                                refine z_aload_n 1118 dL_law_1118 rfl ?_
                                                                refine z_aload_n 1119 dL_law_1119 rfl ?_
                                                                refine z_iload_n 1120 dL_law_1120 rfl ?_
                                                                refine z_iconst 1121 dL_law_1121 zci_1 ?_
                                                                refine z_iadd 1122 dL_law_1122 ?_
                                                                refine z_sld 1123 dL_law_1123 ?_
                                                                refine z_cI (zat_V1 1124 dL_law_1124 lk_L_139 zy_76 rfl rfl ⟨Nat.le_of_ble_eq_true rfl, Nat.le_of_ble_eq_true rfl⟩ (Nat.le_of_ble_eq_true rfl)) (tX11_passed E (E.2.2.2.2.2.2 (zn (x162 + (1 : Int32)))) M427) (fun x430 M429 => ?_)
                                                                refine z_iceq 1127 1541 dL_law_1127 (by decide) (fun _ => ?_) (fun _ => ?_)
                                                                · exact zk_weak (L' := [some (.ref 1000), some (.ref 0), some (.ref 76), some (.int x162)]) (zLe_s (zLe_s (zLe_s (zLe_s zLe_nl)))) (hk323 M429)
                                                                · refine z_iconst 1130 dL_law_1130 zci_0 ?_
                                                                  exact z_ireturn 1131 (v := zb false) dL_law_1131 rfl (zput_b false).1 (fun h => h _)
                                                              · refine z_tsc 33 1132 (k := 29) (off := 1099) dL_law_33 (by decide) (by decide) (by decide) (by decide) ?_ (fun n30 => ?_)
                                                                · refine z_aload_n 1132 dL_law_1132 rfl ?_
                                                                  refine z_aload_n 1133 dL_law_1133 rfl ?_
                                                                  refine z_iload_n 1134 dL_law_1134 rfl ?_
                                                                  refine z_iconst 1135 dL_law_1135 zci_1 ?_
                                                                  refine z_iadd 1136 dL_law_1136 ?_
                                                                  refine z_sld 1137 dL_law_1137 ?_
                                                                  refine z_aload_n 1138 dL_law_1138 rfl ?_
                                                                  refine z_iload_n 1139 dL_law_1139 rfl ?_
                                                                  refine z_iconst 1140 dL_law_1140 zci_2 ?_
                                                                  refine z_iadd 1141 dL_law_1141 ?_
                                                                  refine z_sld 1142 dL_law_1142 ?_
                                                                  refine z_cI (zat_V2 1143 dL_law_1143 lk_L_140 zy_0 rfl rfl ⟨Nat.le_of_ble_eq_true rfl, Nat.le_of_ble_eq_true rfl⟩ (Nat.le_of_ble_eq_true rfl)) (tX10_reads E (E.2.2.2.2.2.2 (zn (x162 + (1 : Int32)))) (E.2.2.2.2.2.2 (zn (x162 + (2 : Int32)))) M163) (fun x432 M431 => ?_)
                                                                  refine z_aload_n 1146 dL_law_1146 rfl ?_
                                                                  refine z_aload_n 1147 dL_law_1147 rfl ?_
                                                                  refine z_iload_n 1148 dL_law_1148 rfl ?_
                                                                  refine z_iconst 1149 dL_law_1149 zci_1 ?_
                                                                  refine z_iadd 1150 dL_law_1150 ?_
                                                                  refine z_sld 1151 dL_law_1151 ?_
                                                                  refine z_aload_n 1152 dL_law_1152 rfl ?_
                                                                  refine z_iload_n 1153 dL_law_1153 rfl ?_
                                                                  refine z_iconst 1154 dL_law_1154 zci_2 ?_
                                                                  refine z_iadd 1155 dL_law_1155 ?_
                                                                  refine z_sld 1156 dL_law_1156 ?_
                                                                  refine z_cI (zat_V2 1157 dL_law_1157 lk_L_143 zy_76 rfl rfl ⟨Nat.le_of_ble_eq_true rfl, Nat.le_of_ble_eq_true rfl⟩ (Nat.le_of_ble_eq_true rfl)) (tX11_reads E (E.2.2.2.2.2.2 (zn (x162 + (1 : Int32)))) (E.2.2.2.2.2.2 (zn (x162 + (2 : Int32)))) M431) (fun x434 M433 => ?_)
                                                                  refine z_iceq 1160 1541 dL_law_1160 (by decide) (fun _ => ?_) (fun _ => ?_)
                                                                  · exact zk_weak (L' := [some (.ref 1000), some (.ref 0), some (.ref 76), some (.int x162)]) (zLe_s (zLe_s (zLe_s (zLe_s zLe_nl)))) (hk323 M433)
                                                                  · refine z_iconst 1163 dL_law_1163 zci_0 ?_
                                                                    exact z_ireturn 1164 (v := zb false) dL_law_1164 rfl (zput_b false).1 (fun h => h _)
                                                                · refine z_tsc 33 1165 (k := 30) (off := 1132) dL_law_33 (by decide) (by decide) (by decide) (by decide) ?_ (fun n31 => ?_)
                                                                  · refine z_aload_n 1165 dL_law_1165 rfl ?_
                                                                    refine z_aload_n 1166 dL_law_1166 rfl ?_
                                                                    refine z_iload_n 1167 dL_law_1167 rfl ?_
                                                                    refine z_iconst 1168 dL_law_1168 zci_1 ?_
                                                                    refine z_iadd 1169 dL_law_1169 ?_
                                                                    refine z_sld 1170 dL_law_1170 ?_
                                                                    refine z_cI (zat_V1 1171 dL_law_1171 lk_L_144 zy_0 rfl rfl ⟨Nat.le_of_ble_eq_true rfl, Nat.le_of_ble_eq_true rfl⟩ (Nat.le_of_ble_eq_true rfl)) (tX10_blame E (E.2.2.2.2.2.2 (zn (x162 + (1 : Int32)))) M163) (fun x436 M435 => ?_)
                                                                    refine z_aload_n 1174 dL_law_1174 rfl ?_
                                                                    refine z_aload_n 1175 dL_law_1175 rfl ?_
                                                                    refine z_iload_n 1176 dL_law_1176 rfl ?_
                                                                    refine z_iconst 1177 dL_law_1177 zci_1 ?_
                                                                    refine z_iadd 1178 dL_law_1178 ?_
                                                                    refine z_sld 1179 dL_law_1179 ?_
                                                                    refine z_cI (zat_V1 1180 dL_law_1180 lk_L_147 zy_76 rfl rfl ⟨Nat.le_of_ble_eq_true rfl, Nat.le_of_ble_eq_true rfl⟩ (Nat.le_of_ble_eq_true rfl)) (tX11_blame E (E.2.2.2.2.2.2 (zn (x162 + (1 : Int32)))) M435) (fun x438 M437 => ?_)
                                                                    refine z_iceq 1183 1541 dL_law_1183 (by decide) (fun _ => ?_) (fun _ => ?_)
                                                                    · exact zk_weak (L' := [some (.ref 1000), some (.ref 0), some (.ref 76), some (.int x162)]) (zLe_s (zLe_s (zLe_s (zLe_s zLe_nl)))) (hk323 M437)
                                                                    · refine z_iconst 1186 dL_law_1186 zci_0 ?_
                                                                      exact z_ireturn 1187 (v := zb false) dL_law_1187 rfl (zput_b false).1 (fun h => h _)
                                                                  · refine z_tsc 33 1188 (k := 31) (off := 1155) dL_law_33 (by decide) (by decide) (by decide) (by decide) ?_ (fun n32 => ?_)
                                                                    · refine z_aload_n 1188 dL_law_1188 rfl ?_
                                                                      refine z_aload_n 1189 dL_law_1189 rfl ?_
                                                                      refine z_iload_n 1190 dL_law_1190 rfl ?_
                                                                      refine z_iconst 1191 dL_law_1191 zci_1 ?_
                                                                      refine z_iadd 1192 dL_law_1192 ?_
                                                                      refine z_sld 1193 dL_law_1193 ?_
                                                                      refine z_cI (zat_V1 1194 dL_law_1194 lk_L_148 zy_0 rfl rfl ⟨Nat.le_of_ble_eq_true rfl, Nat.le_of_ble_eq_true rfl⟩ (Nat.le_of_ble_eq_true rfl)) (tX10_learn E (E.2.2.2.2.2.2 (zn (x162 + (1 : Int32)))) M163) (fun x440 M439 => ?_)
                                                                      refine z_aload_n 1197 dL_law_1197 rfl ?_
                                                                      refine z_aload_n 1198 dL_law_1198 rfl ?_
                                                                      refine z_iload_n 1199 dL_law_1199 rfl ?_
                                                                      refine z_iconst 1200 dL_law_1200 zci_1 ?_
                                                                      refine z_iadd 1201 dL_law_1201 ?_
                                                                      refine z_sld 1202 dL_law_1202 ?_
                                                                      refine z_cI (zat_V1 1203 dL_law_1203 lk_L_151 zy_76 rfl rfl ⟨Nat.le_of_ble_eq_true rfl, Nat.le_of_ble_eq_true rfl⟩ (Nat.le_of_ble_eq_true rfl)) (tX11_learn E (E.2.2.2.2.2.2 (zn (x162 + (1 : Int32)))) M439) (fun x442 M441 => ?_)
                                                                      refine z_iceq 1206 1541 dL_law_1206 (by decide) (fun _ => ?_) (fun _ => ?_)
                                                                      · exact zk_weak (L' := [some (.ref 1000), some (.ref 0), some (.ref 76), some (.int x162)]) (zLe_s (zLe_s (zLe_s (zLe_s zLe_nl)))) (hk323 M441)
                                                                      · refine z_iconst 1209 dL_law_1209 zci_0 ?_
                                                                        exact z_ireturn 1210 (v := zb false) dL_law_1210 rfl (zput_b false).1 (fun h => h _)
                                                                    · refine z_tsc 33 1211 (k := 32) (off := 1178) dL_law_33 (by decide) (by decide) (by decide) (by decide) ?_ (fun n33 => ?_)
                                                                      · refine z_aload_n 1211 dL_law_1211 rfl ?_
                                                                        refine z_aload_n 1212 dL_law_1212 rfl ?_
                                                                        refine z_iload_n 1213 dL_law_1213 rfl ?_
                                                                        refine z_iconst 1214 dL_law_1214 zci_1 ?_
                                                                        refine z_iadd 1215 dL_law_1215 ?_
                                                                        refine z_sld 1216 dL_law_1216 ?_
                                                                        refine z_cI (zat_V1 1217 dL_law_1217 lk_L_152 zy_0 rfl rfl ⟨Nat.le_of_ble_eq_true rfl, Nat.le_of_ble_eq_true rfl⟩ (Nat.le_of_ble_eq_true rfl)) (tX10_enough E (E.2.2.2.2.2.2 (zn (x162 + (1 : Int32)))) M163) (fun x444 M443 => ?_)
                                                                        refine z_aload_n 1220 dL_law_1220 rfl ?_
                                                                        refine z_aload_n 1221 dL_law_1221 rfl ?_
                                                                        refine z_iload_n 1222 dL_law_1222 rfl ?_
                                                                        refine z_iconst 1223 dL_law_1223 zci_1 ?_
                                                                        refine z_iadd 1224 dL_law_1224 ?_
                                                                        refine z_sld 1225 dL_law_1225 ?_
                                                                        refine z_cI (zat_V1 1226 dL_law_1226 lk_L_155 zy_76 rfl rfl ⟨Nat.le_of_ble_eq_true rfl, Nat.le_of_ble_eq_true rfl⟩ (Nat.le_of_ble_eq_true rfl)) (tX11_enough E (E.2.2.2.2.2.2 (zn (x162 + (1 : Int32)))) M443) (fun x446 M445 => ?_)
                                                                        refine z_iceq 1229 1541 dL_law_1229 (by decide) (fun _ => ?_) (fun _ => ?_)
                                                                        · exact zk_weak (L' := [some (.ref 1000), some (.ref 0), some (.ref 76), some (.int x162)]) (zLe_s (zLe_s (zLe_s (zLe_s zLe_nl)))) (hk323 M445)
                                                                        · refine z_iconst 1232 dL_law_1232 zci_0 ?_
                                                                          exact z_ireturn 1233 (v := zb false) dL_law_1233 rfl (zput_b false).1 (fun h => h _)
                                                                      · refine z_tsc 33 1234 (k := 33) (off := 1201) dL_law_33 (by decide) (by decide) (by decide) (by decide) ?_ (fun n34 => ?_)
                                                                        · refine z_aload_n 1234 dL_law_1234 rfl ?_
                                                                          refine z_aload_n 1235 dL_law_1235 rfl ?_
                                                                          refine z_iload_n 1236 dL_law_1236 rfl ?_
                                                                          refine z_iconst 1237 dL_law_1237 zci_1 ?_
                                                                          refine z_iadd 1238 dL_law_1238 ?_
                                                                          refine z_sld 1239 dL_law_1239 ?_
                                                                          refine z_aload_n 1240 dL_law_1240 rfl ?_
                                                                          refine z_iload_n 1241 dL_law_1241 rfl ?_
                                                                          refine z_iconst 1242 dL_law_1242 zci_2 ?_
                                                                          refine z_iadd 1243 dL_law_1243 ?_
                                                                          refine z_sld 1244 dL_law_1244 ?_
                                                                          refine z_aload_n 1245 dL_law_1245 rfl ?_
                                                                          refine z_iload_n 1246 dL_law_1246 rfl ?_
                                                                          refine z_iconst 1247 dL_law_1247 zci_3 ?_
                                                                          refine z_iadd 1248 dL_law_1248 ?_
                                                                          refine z_sld 1249 dL_law_1249 ?_
                                                                          refine z_ci (zat_V3 1250 dL_law_1250 lk_L_156 zy_0 rfl rfl ⟨Nat.le_of_ble_eq_true rfl, Nat.le_of_ble_eq_true rfl⟩ (Nat.le_of_ble_eq_true rfl)) (tX10_round E (E.2.2.2.2.2.2 (zn (x162 + (1 : Int32)))) (E.2.2.2.2.2.2 (zn (x162 + (2 : Int32)))) (E.2.2.2.2.2.2 (zn (x162 + (3 : Int32)))) M163) (fun x447 => ?_)
                                                                          refine z_aload_n 1253 dL_law_1253 rfl ?_
                                                                          refine z_aload_n 1254 dL_law_1254 rfl ?_
                                                                          refine z_iload_n 1255 dL_law_1255 rfl ?_
                                                                          refine z_iconst 1256 dL_law_1256 zci_1 ?_
                                                                          refine z_iadd 1257 dL_law_1257 ?_
                                                                          refine z_sld 1258 dL_law_1258 ?_
                                                                          refine z_aload_n 1259 dL_law_1259 rfl ?_
                                                                          refine z_iload_n 1260 dL_law_1260 rfl ?_
                                                                          refine z_iconst 1261 dL_law_1261 zci_2 ?_
                                                                          refine z_iadd 1262 dL_law_1262 ?_
                                                                          refine z_sld 1263 dL_law_1263 ?_
                                                                          refine z_aload_n 1264 dL_law_1264 rfl ?_
                                                                          refine z_iload_n 1265 dL_law_1265 rfl ?_
                                                                          refine z_iconst 1266 dL_law_1266 zci_3 ?_
                                                                          refine z_iadd 1267 dL_law_1267 ?_
                                                                          refine z_sld 1268 dL_law_1268 ?_
                                                                          refine z_ci (zat_V3 1269 dL_law_1269 lk_L_159 zy_76 rfl rfl ⟨Nat.le_of_ble_eq_true rfl, Nat.le_of_ble_eq_true rfl⟩ (Nat.le_of_ble_eq_true rfl)) (tX11_round E (E.2.2.2.2.2.2 (zn (x162 + (1 : Int32)))) (E.2.2.2.2.2.2 (zn (x162 + (2 : Int32)))) (E.2.2.2.2.2.2 (zn (x162 + (3 : Int32)))) M163) (fun x448 => ?_)
                                                                          refine z_iceq 1272 1541 dL_law_1272 (by decide) (fun _ => ?_) (fun _ => ?_)
                                                                          · exact zk_weak (L' := [some (.ref 1000), some (.ref 0), some (.ref 76), some (.int x162)]) (zLe_s (zLe_s (zLe_s (zLe_s zLe_nl)))) (hk323 M163)
                                                                          · refine z_iconst 1275 dL_law_1275 zci_0 ?_
                                                                            exact z_ireturn 1276 (v := zb false) dL_law_1276 rfl (zput_b false).1 (fun h => h _)
                                                                        · refine z_tsc 33 1277 (k := 34) (off := 1244) dL_law_33 (by decide) (by decide) (by decide) (by decide) ?_ (fun n35 => ?_)
                                                                          · refine z_aload_n 1277 dL_law_1277 rfl ?_
                                                                            refine z_aload_n 1278 dL_law_1278 rfl ?_
                                                                            refine z_iload_n 1279 dL_law_1279 rfl ?_
                                                                            refine z_iconst 1280 dL_law_1280 zci_1 ?_
                                                                            refine z_iadd 1281 dL_law_1281 ?_
                                                                            refine z_sld 1282 dL_law_1282 ?_
                                                                            refine z_aload_n 1283 dL_law_1283 rfl ?_
                                                                            refine z_iload_n 1284 dL_law_1284 rfl ?_
                                                                            refine z_iconst 1285 dL_law_1285 zci_2 ?_
                                                                            refine z_iadd 1286 dL_law_1286 ?_
                                                                            refine z_sld 1287 dL_law_1287 ?_
                                                                            refine z_cI (zat_V2 1288 dL_law_1288 lk_L_160 zy_0 rfl rfl ⟨Nat.le_of_ble_eq_true rfl, Nat.le_of_ble_eq_true rfl⟩ (Nat.le_of_ble_eq_true rfl)) (tX10_cars E (E.2.2.2.2.2.2 (zn (x162 + (1 : Int32)))) (E.2.2.2.2.2.2 (zn (x162 + (2 : Int32)))) M163) (fun x450 M449 => ?_)
                                                                            refine z_aload_n 1291 dL_law_1291 rfl ?_
                                                                            refine z_aload_n 1292 dL_law_1292 rfl ?_
                                                                            refine z_iload_n 1293 dL_law_1293 rfl ?_
                                                                            refine z_iconst 1294 dL_law_1294 zci_1 ?_
                                                                            refine z_iadd 1295 dL_law_1295 ?_
                                                                            refine z_sld 1296 dL_law_1296 ?_
                                                                            refine z_aload_n 1297 dL_law_1297 rfl ?_
                                                                            refine z_iload_n 1298 dL_law_1298 rfl ?_
                                                                            refine z_iconst 1299 dL_law_1299 zci_2 ?_
                                                                            refine z_iadd 1300 dL_law_1300 ?_
                                                                            refine z_sld 1301 dL_law_1301 ?_
                                                                            refine z_cI (zat_V2 1302 dL_law_1302 lk_L_163 zy_76 rfl rfl ⟨Nat.le_of_ble_eq_true rfl, Nat.le_of_ble_eq_true rfl⟩ (Nat.le_of_ble_eq_true rfl)) (tX11_cars E (E.2.2.2.2.2.2 (zn (x162 + (1 : Int32)))) (E.2.2.2.2.2.2 (zn (x162 + (2 : Int32)))) M449) (fun x452 M451 => ?_)
                                                                            refine z_iceq 1305 1541 dL_law_1305 (by decide) (fun _ => ?_) (fun _ => ?_)
                                                                            · exact zk_weak (L' := [some (.ref 1000), some (.ref 0), some (.ref 76), some (.int x162)]) (zLe_s (zLe_s (zLe_s (zLe_s zLe_nl)))) (hk323 M451)
                                                                            · refine z_iconst 1308 dL_law_1308 zci_0 ?_
                                                                              exact z_ireturn 1309 (v := zb false) dL_law_1309 rfl (zput_b false).1 (fun h => h _)
                                                                          · refine z_tsc 33 1310 (k := 35) (off := 1277) dL_law_33 (by decide) (by decide) (by decide) (by decide) ?_ (fun n36 => ?_)
                                                                            · refine z_aload_n 1310 dL_law_1310 rfl ?_
                                                                              refine z_aload_n 1311 dL_law_1311 rfl ?_
                                                                              refine z_iload_n 1312 dL_law_1312 rfl ?_
                                                                              refine z_iconst 1313 dL_law_1313 zci_1 ?_
                                                                              refine z_iadd 1314 dL_law_1314 ?_
                                                                              refine z_sld 1315 dL_law_1315 ?_
                                                                              refine z_cI (zat_V1 1316 dL_law_1316 lk_L_164 zy_0 rfl rfl ⟨Nat.le_of_ble_eq_true rfl, Nat.le_of_ble_eq_true rfl⟩ (Nat.le_of_ble_eq_true rfl)) (tX10_keep E (E.2.2.2.2.2.2 (zn (x162 + (1 : Int32)))) M163) (fun x454 M453 => ?_)
                                                                              refine z_aload_n 1319 dL_law_1319 rfl ?_
                                                                              refine z_aload_n 1320 dL_law_1320 rfl ?_
                                                                              refine z_iload_n 1321 dL_law_1321 rfl ?_
                                                                              refine z_iconst 1322 dL_law_1322 zci_1 ?_
                                                                              refine z_iadd 1323 dL_law_1323 ?_
                                                                              refine z_sld 1324 dL_law_1324 ?_
                                                                              refine z_cI (zat_V1 1325 dL_law_1325 lk_L_167 zy_76 rfl rfl ⟨Nat.le_of_ble_eq_true rfl, Nat.le_of_ble_eq_true rfl⟩ (Nat.le_of_ble_eq_true rfl)) (tX11_keep E (E.2.2.2.2.2.2 (zn (x162 + (1 : Int32)))) M453) (fun x456 M455 => ?_)
                                                                              refine z_iceq 1328 1541 dL_law_1328 (by decide) (fun _ => ?_) (fun _ => ?_)
                                                                              · exact zk_weak (L' := [some (.ref 1000), some (.ref 0), some (.ref 76), some (.int x162)]) (zLe_s (zLe_s (zLe_s (zLe_s zLe_nl)))) (hk323 M455)
                                                                              · refine z_iconst 1331 dL_law_1331 zci_0 ?_
                                                                                exact z_ireturn 1332 (v := zb false) dL_law_1332 rfl (zput_b false).1 (fun h => h _)
                                                                            · refine z_tsc 33 1333 (k := 36) (off := 1300) dL_law_33 (by decide) (by decide) (by decide) (by decide) ?_ (fun n37 => ?_)
                                                                              · refine z_aload_n 1333 dL_law_1333 rfl ?_
                                                                                refine z_aload_n 1334 dL_law_1334 rfl ?_
                                                                                refine z_iload_n 1335 dL_law_1335 rfl ?_
                                                                                refine z_iconst 1336 dL_law_1336 zci_1 ?_
                                                                                refine z_iadd 1337 dL_law_1337 ?_
                                                                                refine z_sld 1338 dL_law_1338 ?_
                                                                                refine z_cI (zat_V1 1339 dL_law_1339 lk_L_168 zy_0 rfl rfl ⟨Nat.le_of_ble_eq_true rfl, Nat.le_of_ble_eq_true rfl⟩ (Nat.le_of_ble_eq_true rfl)) (tX10_back E (E.2.2.2.2.2.2 (zn (x162 + (1 : Int32)))) M163) (fun x458 M457 => ?_)
                                                                                refine z_aload_n 1342 dL_law_1342 rfl ?_
                                                                                refine z_aload_n 1343 dL_law_1343 rfl ?_
                                                                                refine z_iload_n 1344 dL_law_1344 rfl ?_
                                                                                refine z_iconst 1345 dL_law_1345 zci_1 ?_
                                                                                refine z_iadd 1346 dL_law_1346 ?_
                                                                                refine z_sld 1347 dL_law_1347 ?_
                                                                                refine z_cI (zat_V1 1348 dL_law_1348 lk_L_171 zy_76 rfl rfl ⟨Nat.le_of_ble_eq_true rfl, Nat.le_of_ble_eq_true rfl⟩ (Nat.le_of_ble_eq_true rfl)) (tX11_back E (E.2.2.2.2.2.2 (zn (x162 + (1 : Int32)))) M457) (fun x460 M459 => ?_)
                                                                                refine z_iceq 1351 1541 dL_law_1351 (by decide) (fun _ => ?_) (fun _ => ?_)
                                                                                · exact zk_weak (L' := [some (.ref 1000), some (.ref 0), some (.ref 76), some (.int x162)]) (zLe_s (zLe_s (zLe_s (zLe_s zLe_nl)))) (hk323 M459)
                                                                                · refine z_iconst 1354 dL_law_1354 zci_0 ?_
                                                                                  exact z_ireturn 1355 (v := zb false) dL_law_1355 rfl (zput_b false).1 (fun h => h _)
                                                                              · refine z_tsc 33 1356 (k := 37) (off := 1323) dL_law_33 (by decide) (by decide) (by decide) (by decide) ?_ (fun n38 => ?_)
                                                                                · refine z_aload_n 1356 dL_law_1356 rfl ?_
                                                                                  refine z_aload_n 1357 dL_law_1357 rfl ?_
                                                                                  refine z_iload_n 1358 dL_law_1358 rfl ?_
                                                                                  refine z_iconst 1359 dL_law_1359 zci_1 ?_
                                                                                  refine z_iadd 1360 dL_law_1360 ?_
                                                                                  refine z_sld 1361 dL_law_1361 ?_
                                                                                  refine z_aload_n 1362 dL_law_1362 rfl ?_
                                                                                  refine z_iload_n 1363 dL_law_1363 rfl ?_
                                                                                  refine z_iconst 1364 dL_law_1364 zci_2 ?_
                                                                                  refine z_iadd 1365 dL_law_1365 ?_
                                                                                  refine z_sld 1366 dL_law_1366 ?_
                                                                                  refine z_aload_n 1367 dL_law_1367 rfl ?_
                                                                                  refine z_iload_n 1368 dL_law_1368 rfl ?_
                                                                                  refine z_iconst 1369 dL_law_1369 zci_3 ?_
                                                                                  refine z_iadd 1370 dL_law_1370 ?_
                                                                                  refine z_sld 1371 dL_law_1371 ?_
                                                                                  refine z_cI (zat_V3 1372 dL_law_1372 lk_L_172 zy_0 rfl rfl ⟨Nat.le_of_ble_eq_true rfl, Nat.le_of_ble_eq_true rfl⟩ (Nat.le_of_ble_eq_true rfl)) (tX10_sheet E (E.2.2.2.2.2.2 (zn (x162 + (1 : Int32)))) (E.2.2.2.2.2.2 (zn (x162 + (2 : Int32)))) (E.2.2.2.2.2.2 (zn (x162 + (3 : Int32)))) M163) (fun x462 M461 => ?_)
                                                                                  refine z_aload_n 1375 dL_law_1375 rfl ?_
                                                                                  refine z_aload_n 1376 dL_law_1376 rfl ?_
                                                                                  refine z_iload_n 1377 dL_law_1377 rfl ?_
                                                                                  refine z_iconst 1378 dL_law_1378 zci_1 ?_
                                                                                  refine z_iadd 1379 dL_law_1379 ?_
                                                                                  refine z_sld 1380 dL_law_1380 ?_
                                                                                  refine z_aload_n 1381 dL_law_1381 rfl ?_
                                                                                  refine z_iload_n 1382 dL_law_1382 rfl ?_
                                                                                  refine z_iconst 1383 dL_law_1383 zci_2 ?_
                                                                                  refine z_iadd 1384 dL_law_1384 ?_
                                                                                  refine z_sld 1385 dL_law_1385 ?_
                                                                                  refine z_aload_n 1386 dL_law_1386 rfl ?_
                                                                                  refine z_iload_n 1387 dL_law_1387 rfl ?_
                                                                                  refine z_iconst 1388 dL_law_1388 zci_3 ?_
                                                                                  refine z_iadd 1389 dL_law_1389 ?_
                                                                                  refine z_sld 1390 dL_law_1390 ?_
                                                                                  refine z_cI (zat_V3 1391 dL_law_1391 lk_L_175 zy_76 rfl rfl ⟨Nat.le_of_ble_eq_true rfl, Nat.le_of_ble_eq_true rfl⟩ (Nat.le_of_ble_eq_true rfl)) (tX11_sheet E (E.2.2.2.2.2.2 (zn (x162 + (1 : Int32)))) (E.2.2.2.2.2.2 (zn (x162 + (2 : Int32)))) (E.2.2.2.2.2.2 (zn (x162 + (3 : Int32)))) M461) (fun x464 M463 => ?_)
                                                                                  refine z_iceq 1394 1541 dL_law_1394 (by decide) (fun _ => ?_) (fun _ => ?_)
                                                                                  · exact zk_weak (L' := [some (.ref 1000), some (.ref 0), some (.ref 76), some (.int x162)]) (zLe_s (zLe_s (zLe_s (zLe_s zLe_nl)))) (hk323 M463)
                                                                                  · refine z_iconst 1397 dL_law_1397 zci_0 ?_
                                                                                    exact z_ireturn 1398 (v := zb false) dL_law_1398 rfl (zput_b false).1 (fun h => h _)
                                                                                · refine z_tsc 33 1399 (k := 38) (off := 1366) dL_law_33 (by decide) (by decide) (by decide) (by decide) ?_ (fun n39 => ?_)
                                                                                  · refine z_aload_n 1399 dL_law_1399 rfl ?_
                                                                                    refine z_aload_n 1400 dL_law_1400 rfl ?_
                                                                                    refine z_iload_n 1401 dL_law_1401 rfl ?_
                                                                                    refine z_iconst 1402 dL_law_1402 zci_1 ?_
                                                                                    refine z_iadd 1403 dL_law_1403 ?_
                                                                                    refine z_sld 1404 dL_law_1404 ?_
                                                                                    refine z_aload_n 1405 dL_law_1405 rfl ?_
                                                                                    refine z_iload_n 1406 dL_law_1406 rfl ?_
                                                                                    refine z_iconst 1407 dL_law_1407 zci_2 ?_
                                                                                    refine z_iadd 1408 dL_law_1408 ?_
                                                                                    refine z_sld 1409 dL_law_1409 ?_
                                                                                    refine z_aload_n 1410 dL_law_1410 rfl ?_
                                                                                    refine z_iload_n 1411 dL_law_1411 rfl ?_
                                                                                    refine z_iconst 1412 dL_law_1412 zci_3 ?_
                                                                                    refine z_iadd 1413 dL_law_1413 ?_
                                                                                    refine z_sld 1414 dL_law_1414 ?_
                                                                                    refine z_cI (zat_V3 1415 dL_law_1415 lk_L_176 zy_0 rfl rfl ⟨Nat.le_of_ble_eq_true rfl, Nat.le_of_ble_eq_true rfl⟩ (Nat.le_of_ble_eq_true rfl)) (tX10_lay E (E.2.2.2.2.2.2 (zn (x162 + (1 : Int32)))) (E.2.2.2.2.2.2 (zn (x162 + (2 : Int32)))) (E.2.2.2.2.2.2 (zn (x162 + (3 : Int32)))) M163) (fun x466 M465 => ?_)
                                                                                    refine z_aload_n 1418 dL_law_1418 rfl ?_
                                                                                    refine z_aload_n 1419 dL_law_1419 rfl ?_
                                                                                    refine z_iload_n 1420 dL_law_1420 rfl ?_
                                                                                    refine z_iconst 1421 dL_law_1421 zci_1 ?_
                                                                                    refine z_iadd 1422 dL_law_1422 ?_
                                                                                    refine z_sld 1423 dL_law_1423 ?_
                                                                                    refine z_aload_n 1424 dL_law_1424 rfl ?_
                                                                                    refine z_iload_n 1425 dL_law_1425 rfl ?_
                                                                                    refine z_iconst 1426 dL_law_1426 zci_2 ?_
                                                                                    refine z_iadd 1427 dL_law_1427 ?_
                                                                                    refine z_sld 1428 dL_law_1428 ?_
                                                                                    refine z_aload_n 1429 dL_law_1429 rfl ?_
                                                                                    refine z_iload_n 1430 dL_law_1430 rfl ?_
                                                                                    refine z_iconst 1431 dL_law_1431 zci_3 ?_
                                                                                    refine z_iadd 1432 dL_law_1432 ?_
                                                                                    refine z_sld 1433 dL_law_1433 ?_
                                                                                    refine z_cI (zat_V3 1434 dL_law_1434 lk_L_179 zy_76 rfl rfl ⟨Nat.le_of_ble_eq_true rfl, Nat.le_of_ble_eq_true rfl⟩ (Nat.le_of_ble_eq_true rfl)) (tX11_lay E (E.2.2.2.2.2.2 (zn (x162 + (1 : Int32)))) (E.2.2.2.2.2.2 (zn (x162 + (2 : Int32)))) (E.2.2.2.2.2.2 (zn (x162 + (3 : Int32)))) M465) (fun x468 M467 => ?_)
                                                                                    refine z_iceq 1437 1541 dL_law_1437 (by decide) (fun _ => ?_) (fun _ => ?_)
                                                                                    · exact zk_weak (L' := [some (.ref 1000), some (.ref 0), some (.ref 76), some (.int x162)]) (zLe_s (zLe_s (zLe_s (zLe_s zLe_nl)))) (hk323 M467)
                                                                                    · refine z_iconst 1440 dL_law_1440 zci_0 ?_
                                                                                      exact z_ireturn 1441 (v := zb false) dL_law_1441 rfl (zput_b false).1 (fun h => h _)
                                                                                  · refine z_tsc 33 1442 (k := 39) (off := 1409) dL_law_33 (by decide) (by decide) (by decide) (by decide) ?_ (fun n40 => ?_)
                                                                                    · refine z_aload_n 1442 dL_law_1442 rfl ?_
                                                                                      refine z_aload_n 1443 dL_law_1443 rfl ?_
                                                                                      refine z_iload_n 1444 dL_law_1444 rfl ?_
                                                                                      refine z_iconst 1445 dL_law_1445 zci_1 ?_
                                                                                      refine z_iadd 1446 dL_law_1446 ?_
                                                                                      refine z_sld 1447 dL_law_1447 ?_
                                                                                      refine z_aload_n 1448 dL_law_1448 rfl ?_
                                                                                      refine z_iload_n 1449 dL_law_1449 rfl ?_
                                                                                      refine z_iconst 1450 dL_law_1450 zci_2 ?_
                                                                                      refine z_iadd 1451 dL_law_1451 ?_
                                                                                      refine z_sld 1452 dL_law_1452 ?_
                                                                                      refine z_aload_n 1453 dL_law_1453 rfl ?_
                                                                                      refine z_iload_n 1454 dL_law_1454 rfl ?_
                                                                                      refine z_iconst 1455 dL_law_1455 zci_3 ?_
                                                                                      refine z_iadd 1456 dL_law_1456 ?_
                                                                                      refine z_sld 1457 dL_law_1457 ?_
                                                                                      refine z_aload_n 1458 dL_law_1458 rfl ?_
                                                                                      refine z_iload_n 1459 dL_law_1459 rfl ?_
                                                                                      refine z_iconst 1460 dL_law_1460 zci_4 ?_
                                                                                      refine z_iadd 1461 dL_law_1461 ?_
                                                                                      refine z_sld 1462 dL_law_1462 ?_
                                                                                      refine z_aload_n 1463 dL_law_1463 rfl ?_
                                                                                      refine z_iload_n 1464 dL_law_1464 rfl ?_
                                                                                      refine z_iconst 1465 dL_law_1465 zci_5 ?_
                                                                                      refine z_iadd 1466 dL_law_1466 ?_
                                                                                      refine z_sld 1467 dL_law_1467 ?_
                                                                                      refine z_cI (zat_V5 1468 dL_law_1468 lk_L_180 zy_0 rfl rfl ⟨Nat.le_of_ble_eq_true rfl, Nat.le_of_ble_eq_true rfl⟩ (Nat.le_of_ble_eq_true rfl)) (tX10_read E (E.2.2.2.2.2.2 (zn (x162 + (1 : Int32)))) (E.2.2.2.2.2.2 (zn (x162 + (2 : Int32)))) (E.2.2.2.2.2.2 (zn (x162 + (3 : Int32)))) (E.2.2.2.2.2.2 (zn (x162 + (4 : Int32)))) (E.2.2.2.2.2.2 (zn (x162 + (5 : Int32)))) M163) (fun x470 M469 => ?_)
                                                                                      refine z_aload_n 1471 dL_law_1471 rfl ?_
                                                                                      refine z_aload_n 1472 dL_law_1472 rfl ?_
                                                                                      refine z_iload_n 1473 dL_law_1473 rfl ?_
                                                                                      refine z_iconst 1474 dL_law_1474 zci_1 ?_
                                                                                      refine z_iadd 1475 dL_law_1475 ?_
                                                                                      refine z_sld 1476 dL_law_1476 ?_
                                                                                      refine z_aload_n 1477 dL_law_1477 rfl ?_
                                                                                      refine z_iload_n 1478 dL_law_1478 rfl ?_
                                                                                      refine z_iconst 1479 dL_law_1479 zci_2 ?_
                                                                                      refine z_iadd 1480 dL_law_1480 ?_
                                                                                      refine z_sld 1481 dL_law_1481 ?_
                                                                                      refine z_aload_n 1482 dL_law_1482 rfl ?_
                                                                                      refine z_iload_n 1483 dL_law_1483 rfl ?_
                                                                                      refine z_iconst 1484 dL_law_1484 zci_3 ?_
                                                                                      refine z_iadd 1485 dL_law_1485 ?_
                                                                                      refine z_sld 1486 dL_law_1486 ?_
                                                                                      refine z_aload_n 1487 dL_law_1487 rfl ?_
                                                                                      refine z_iload_n 1488 dL_law_1488 rfl ?_
                                                                                      refine z_iconst 1489 dL_law_1489 zci_4 ?_
                                                                                      refine z_iadd 1490 dL_law_1490 ?_
                                                                                      refine z_sld 1491 dL_law_1491 ?_
                                                                                      refine z_aload_n 1492 dL_law_1492 rfl ?_
                                                                                      refine z_iload_n 1493 dL_law_1493 rfl ?_
                                                                                      refine z_iconst 1494 dL_law_1494 zci_5 ?_
                                                                                      refine z_iadd 1495 dL_law_1495 ?_
                                                                                      refine z_sld 1496 dL_law_1496 ?_
                                                                                      refine z_cI (zat_V5 1497 dL_law_1497 lk_L_184 zy_76 rfl rfl ⟨Nat.le_of_ble_eq_true rfl, Nat.le_of_ble_eq_true rfl⟩ (Nat.le_of_ble_eq_true rfl)) (tX11_read E (E.2.2.2.2.2.2 (zn (x162 + (1 : Int32)))) (E.2.2.2.2.2.2 (zn (x162 + (2 : Int32)))) (E.2.2.2.2.2.2 (zn (x162 + (3 : Int32)))) (E.2.2.2.2.2.2 (zn (x162 + (4 : Int32)))) (E.2.2.2.2.2.2 (zn (x162 + (5 : Int32)))) M469) (fun x472 M471 => ?_)
                                                                                      refine z_iceq 1500 1541 dL_law_1500 (by decide) (fun _ => ?_) (fun _ => ?_)
                                                                                      · exact zk_weak (L' := [some (.ref 1000), some (.ref 0), some (.ref 76), some (.int x162)]) (zLe_s (zLe_s (zLe_s (zLe_s zLe_nl)))) (hk323 M471)
                                                                                      · refine z_iconst 1503 dL_law_1503 zci_0 ?_
                                                                                        exact z_ireturn 1504 (v := zb false) dL_law_1504 rfl (zput_b false).1 (fun h => h _)
                                                                                    · refine z_tsc 33 1505 (k := 40) (off := 1472) dL_law_33 (by decide) (by decide) (by decide) (by decide) ?_ (fun n41 => ?_)
                                                                                      · refine z_aload_n 1505 dL_law_1505 rfl ?_
                                                                                        refine z_cti (zat_V0 1506 dL_law_1506 lk_L_185 zy_0 rfl rfl ⟨Nat.le_of_ble_eq_true rfl, Nat.le_of_ble_eq_true rfl⟩ (Nat.le_of_ble_eq_true rfl)) (tX10_torn E M163) (fun x473 => ?_)
                                                                                        refine z_aload_n 1509 dL_law_1509 rfl ?_
                                                                                        refine z_cti (zat_V0 1510 dL_law_1510 lk_L_188 zy_76 rfl rfl ⟨Nat.le_of_ble_eq_true rfl, Nat.le_of_ble_eq_true rfl⟩ (Nat.le_of_ble_eq_true rfl)) (tX11_torn E M163) (fun x474 => ?_)
                                                                                        refine z_iceq 1513 1541 dL_law_1513 (by decide) (fun _ => ?_) (fun _ => ?_)
                                                                                        · exact zk_weak (L' := [some (.ref 1000), some (.ref 0), some (.ref 76), some (.int x162)]) (zLe_s (zLe_s (zLe_s (zLe_s zLe_nl)))) (hk323 M163)
                                                                                        · refine z_iconst 1516 dL_law_1516 zci_0 ?_
                                                                                          exact z_ireturn 1517 (v := zb false) dL_law_1517 rfl (zput_b false).1 (fun h => h _)
                                                                                      · refine z_tsc 33 1518 (k := 41) (off := 1485) dL_law_33 (by decide) (by decide) (by decide) (by decide) ?_ (fun n42 => ?_)
                                                                                        · refine z_aload_n 1518 dL_law_1518 rfl ?_
                                                                                          refine z_aload_n 1519 dL_law_1519 rfl ?_
                                                                                          refine z_iload_n 1520 dL_law_1520 rfl ?_
                                                                                          refine z_iconst 1521 dL_law_1521 zci_1 ?_
                                                                                          refine z_iadd 1522 dL_law_1522 ?_
                                                                                          refine z_sld 1523 dL_law_1523 ?_
                                                                                          refine z_cI (zat_V1 1524 dL_law_1524 lk_L_189 zy_0 rfl rfl ⟨Nat.le_of_ble_eq_true rfl, Nat.le_of_ble_eq_true rfl⟩ (Nat.le_of_ble_eq_true rfl)) (tX10_count E (E.2.2.2.2.2.2 (zn (x162 + (1 : Int32)))) M163) (fun x476 M475 => ?_)
                                                                                          refine z_aload_n 1527 dL_law_1527 rfl ?_
                                                                                          refine z_aload_n 1528 dL_law_1528 rfl ?_
                                                                                          refine z_iload_n 1529 dL_law_1529 rfl ?_
                                                                                          refine z_iconst 1530 dL_law_1530 zci_1 ?_
                                                                                          refine z_iadd 1531 dL_law_1531 ?_
                                                                                          refine z_sld 1532 dL_law_1532 ?_
                                                                                          refine z_ci (zat_V1 1533 dL_law_1533 lk_L_192 zy_76 rfl rfl ⟨Nat.le_of_ble_eq_true rfl, Nat.le_of_ble_eq_true rfl⟩ (Nat.le_of_ble_eq_true rfl)) (tX11_count E (E.2.2.2.2.2.2 (zn (x162 + (1 : Int32)))) M475) (fun x477 => ?_)
                                                                                          refine z_iceq 1536 1541 dL_law_1536 (by decide) (fun _ => ?_) (fun _ => ?_)
                                                                                          · exact zk_weak (L' := [some (.ref 1000), some (.ref 0), some (.ref 76), some (.int x162)]) (zLe_s (zLe_s (zLe_s (zLe_s zLe_nl)))) (hk323 M475)
                                                                                          · refine z_iconst 1539 dL_law_1539 zci_0 ?_
                                                                                            exact z_ireturn 1540 (v := zb false) dL_law_1540 rfl (zput_b false).1 (fun h => h _)
                                                                                        · refine z_tsd 33 1541 dL_law_33 (by have e1 := zne n1 (a := 0) (by decide); have e2 := zne n2 (a := 1) (by decide); have e3 := zne n3 (a := 2) (by decide); have e4 := zne n4 (a := 3) (by decide); have e5 := zne n5 (a := 4) (by decide); have e6 := zne n6 (a := 5) (by decide); have e7 := zne n7 (a := 6) (by decide); have e8 := zne n8 (a := 7) (by decide); have e9 := zne n9 (a := 8) (by decide); have e10 := zne n10 (a := 9) (by decide); have e11 := zne n11 (a := 10) (by decide); have e12 := zne n12 (a := 11) (by decide); have e13 := zne n13 (a := 12) (by decide); have e14 := zne n14 (a := 13) (by decide); have e15 := zne n15 (a := 14) (by decide); have e16 := zne n16 (a := 15) (by decide); have e17 := zne n17 (a := 16) (by decide); have e18 := zne n18 (a := 17) (by decide); have e19 := zne n19 (a := 18) (by decide); have e20 := zne n20 (a := 19) (by decide); have e21 := zne n21 (a := 20) (by decide); have e22 := zne n22 (a := 21) (by decide); have e23 := zne n23 (a := 22) (by decide); have e24 := zne n24 (a := 23) (by decide); have e25 := zne n25 (a := 24) (by decide); have e26 := zne n26 (a := 25) (by decide); have e27 := zne n27 (a := 26) (by decide); have e28 := zne n28 (a := 27) (by decide); have e29 := zne n29 (a := 28) (by decide); have e30 := zne n30 (a := 29) (by decide); have e31 := zne n31 (a := 30) (by decide); have e32 := zne n32 (a := 31) (by decide); have e33 := zne n33 (a := 32) (by decide); have e34 := zne n34 (a := 33) (by decide); have e35 := zne n35 (a := 34) (by decide); have e36 := zne n36 (a := 35) (by decide); have e37 := zne n37 (a := 36) (by decide); have e38 := zne n38 (a := 37) (by decide); have e39 := zne n39 (a := 38) (by decide); have e40 := zne n40 (a := 39) (by decide); have e41 := zne n41 (a := 40) (by decide); have e42 := zne n42 (a := 41) (by decide); omega) (by decide) ?_
                                                                                          exact zk_weak (L' := [some (.ref 1000), some (.ref 0), some (.ref 76), some (.int x162)]) (zLe_s (zLe_s (zLe_s (zLe_s zLe_nl)))) (hk323 M163)
