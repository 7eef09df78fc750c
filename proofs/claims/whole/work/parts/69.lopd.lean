theorem lw_24 {l : Launch} {E : JE} {n : Nat} {q i : Int} {a b c : JV} {σ : JM} (hL : E.2.2.2.2.1 ≤ 2048) (hI : jINV (i + 1) σ) (i0 : 0 ≤ i) (i4 : i + 4 ≤ (E.2.2.2.2.1 : Int)) (hn : 1 ≤ n) (next : jNx l E n q i) : V l E mL_law 100 n jQt jno 1327 [(7, q), (2, 0), (2, 7), (2, 55), (2, 56), (0, i), a, b, c] [] σ := by
  obtain ⟨p1, hp1⟩ : ∃ p, (E.2.2.2.2.2 (i + 1).toNat).toInt = p := ⟨_, rfl⟩
  obtain ⟨dL, dX, h1, h2, QL, hC, hk⟩ := op_labelAddress (x := p1) hI
  refine V.aload_n dL_law_1327 rfl ?_
  refine V.aload_s dL_law_1328 rfl ?_
  refine V.iload dL_law_1329 rfl ?_
  refine V.iconst dL_law_1331 ⟨by decide, by decide⟩ ?_
  refine V.iadd dL_law_1332 ⟨(by omega), (by omega)⟩ ?_
  refine V.sld rfl hL dL_law_1333 (by omega) (by omega) ?_
  rw [hp1]
  refine V.aload_n dL_law_1334 rfl ?_
  refine V.callH [_, _, _] rfl kc_L_215 dL_law_1335 (d' := dL) h1 hn rfl (fun _ _ => hC) rfl (fun v τ hq hv => ?_) (fun X t hx => hx.elim)
  obtain ⟨k, rfl, QM, hX, hm⟩ := hk v τ hq
  refine V.istore (L' := [_, _, _, _, _, _, _, _, _]) dL_law_1338 rfl rfl ?_
  refine V.aload_n dL_law_1340 rfl ?_
  refine V.aload_s dL_law_1341 rfl ?_
  refine V.iload dL_law_1342 rfl ?_
  refine V.iconst dL_law_1344 ⟨by decide, by decide⟩ ?_
  refine V.iadd dL_law_1345 ⟨(by omega), (by omega)⟩ ?_
  refine V.sld rfl hL dL_law_1346 (by omega) (by omega) ?_
  rw [hp1]
  refine V.callV [_] rfl kc_L_217 rfl dL_law_1347 (d' := dX) h2 (Nat.zero_le _) rfl (fun _ _ => hX) rfl (fun w ρ hq2 hv2 => ?_) (fun X t hx => hx.elim)
  obtain ⟨x, rfl, h0, ho, hI2⟩ := hm w ρ hq2
  refine V.istore (L' := [_, _, _, _, _, _, _, _, _]) dL_law_1350 rfl rfl ?_
  refine V.aload_n dL_law_1352 rfl ?_
  refine V.cV [] rfl kc_L_136 rfl dL_law_1353 (by decide) rfl rfl (sp_X7_thrown) (fun _ => ?_)
  refine V.iload dL_law_1356 rfl ?_
  refine V.icmp_eq (tgt := 1363) dL_law_1358 (by decide) (fun he => ?_) (fun he => ?_)
  · refine V.iload dL_law_1363 rfl ?_
    refine V.if_ne (tgt := 1380) dL_law_1365 (by decide) (fun hz => ?_) (fun hz => ?_)
    · refine V.goto (tgt := 1982) dL_law_1380 (by decide) ?_
      exact next _ _ _ _ _ (by omega) (hI2.up (by omega))
    · refine V.aload_n dL_law_1368 rfl ?_
      refine V.iconst dL_law_1369 ⟨by decide, by decide⟩ ?_
      refine V.lald (cell := 55) 0 rfl rfl rfl rfl dL_law_1370 (by omega) (by omega) (fun _ => ?_)
      rw [show ρ 55 0 = x from ho hz]
      refine V.iload dL_law_1371 rfl ?_
      refine V.i2l dL_law_1373 ?_
      refine V.lcmp dL_law_1374 ?_
      rw [if_neg (Int.lt_irrefl x), if_pos rfl]
      refine V.if_eq (tgt := 1380) dL_law_1375 (by decide) (fun hy => ?_) (fun hy => ?_)
      · refine V.goto (tgt := 1982) dL_law_1380 (by decide) ?_
        exact next _ _ _ _ _ (by omega) (hI2.up (by omega))
      · exact absurd rfl hy
  · exact absurd h0 he
theorem lw_25 {l : Launch} {E : JE} {n : Nat} {q i : Int} {a b c : JV} {σ : JM} (hL : E.2.2.2.2.1 ≤ 2048) (hI : jINV (i + 1) σ) (i0 : 0 ≤ i) (i4 : i + 4 ≤ (E.2.2.2.2.1 : Int)) (hn : 1 ≤ n) (next : jNx l E n q i) : V l E mL_law 100 n jQt jno 1383 [(7, q), (2, 0), (2, 7), (2, 55), (2, 56), (0, i), a, b, c] [] σ := by
  obtain ⟨dL, dX, h1, h2, QL, hC, hk⟩ := op_passes hI
  refine V.aload_n dL_law_1383 rfl ?_
  refine V.aload_n dL_law_1384 rfl ?_
  refine V.callH [_, _] rfl kc_L_218 dL_law_1385 (d' := dL) h1 hn rfl (fun _ _ => hC) rfl (fun v τ hq hv => ?_) (fun X t hx => hx.elim)
  obtain ⟨k, rfl, QM, hX, hm⟩ := hk v τ hq
  refine V.istore (L' := [_, _, _, _, _, _, _, _, _]) dL_law_1388 rfl rfl ?_
  refine V.aload_n dL_law_1390 rfl ?_
  refine V.callV [] rfl kc_L_220 rfl dL_law_1391 (d' := dX) h2 (Nat.zero_le _) rfl (fun _ _ => hX) rfl (fun w ρ hq2 hv2 => ?_) (fun X t hx => hx.elim)
  obtain ⟨x, rfl, h0, ho, hI2⟩ := hm w ρ hq2
  refine V.istore (L' := [_, _, _, _, _, _, _, _, _]) dL_law_1394 rfl rfl ?_
  refine V.aload_n dL_law_1396 rfl ?_
  refine V.cV [] rfl kc_L_136 rfl dL_law_1397 (by decide) rfl rfl (sp_X7_thrown) (fun _ => ?_)
  refine V.iload dL_law_1400 rfl ?_
  refine V.icmp_eq (tgt := 1407) dL_law_1402 (by decide) (fun he => ?_) (fun he => ?_)
  · refine V.iload dL_law_1407 rfl ?_
    refine V.if_ne (tgt := 1424) dL_law_1409 (by decide) (fun hz => ?_) (fun hz => ?_)
    · refine V.goto (tgt := 1982) dL_law_1424 (by decide) ?_
      exact next _ _ _ _ _ (by omega) (hI2.up (by omega))
    · refine V.aload_n dL_law_1412 rfl ?_
      refine V.iconst dL_law_1413 ⟨by decide, by decide⟩ ?_
      refine V.lald (cell := 55) 0 rfl rfl rfl rfl dL_law_1414 (by omega) (by omega) (fun _ => ?_)
      rw [show ρ 55 0 = x from ho hz]
      refine V.iload dL_law_1415 rfl ?_
      refine V.i2l dL_law_1417 ?_
      refine V.lcmp dL_law_1418 ?_
      rw [if_neg (Int.lt_irrefl x), if_pos rfl]
      refine V.if_eq (tgt := 1424) dL_law_1419 (by decide) (fun hy => ?_) (fun hy => ?_)
      · refine V.goto (tgt := 1982) dL_law_1424 (by decide) ?_
        exact next _ _ _ _ _ (by omega) (hI2.up (by omega))
      · exact absurd rfl hy
  · exact absurd h0 he
theorem lw_26 {l : Launch} {E : JE} {n : Nat} {q i : Int} {a b c : JV} {σ : JM} (hL : E.2.2.2.2.1 ≤ 2048) (hI : jINV (i + 1) σ) (i0 : 0 ≤ i) (i4 : i + 4 ≤ (E.2.2.2.2.1 : Int)) (hn : 1 ≤ n) (next : jNx l E n q i) : V l E mL_law 100 n jQt jno 1427 [(7, q), (2, 0), (2, 7), (2, 55), (2, 56), (0, i), a, b, c] [] σ := by
  obtain ⟨dL, dX, h1, h2, QL, hC, hk⟩ := op_longJumps hI
  refine V.aload_n dL_law_1427 rfl ?_
  refine V.aload_n dL_law_1428 rfl ?_
  refine V.callH [_, _] rfl kc_L_221 dL_law_1429 (d' := dL) h1 hn rfl (fun _ _ => hC) rfl (fun v τ hq hv => ?_) (fun X t hx => hx.elim)
  obtain ⟨k, rfl, QM, hX, hm⟩ := hk v τ hq
  refine V.istore (L' := [_, _, _, _, _, _, _, _, _]) dL_law_1432 rfl rfl ?_
  refine V.aload_n dL_law_1434 rfl ?_
  refine V.callV [] rfl kc_L_223 rfl dL_law_1435 (d' := dX) h2 (Nat.zero_le _) rfl (fun _ _ => hX) rfl (fun w ρ hq2 hv2 => ?_) (fun X t hx => hx.elim)
  obtain ⟨x, rfl, h0, ho, hI2⟩ := hm w ρ hq2
  refine V.istore (L' := [_, _, _, _, _, _, _, _, _]) dL_law_1438 rfl rfl ?_
  refine V.aload_n dL_law_1440 rfl ?_
  refine V.cV [] rfl kc_L_136 rfl dL_law_1441 (by decide) rfl rfl (sp_X7_thrown) (fun _ => ?_)
  refine V.iload dL_law_1444 rfl ?_
  refine V.icmp_eq (tgt := 1451) dL_law_1446 (by decide) (fun he => ?_) (fun he => ?_)
  · refine V.iload dL_law_1451 rfl ?_
    refine V.if_ne (tgt := 1468) dL_law_1453 (by decide) (fun hz => ?_) (fun hz => ?_)
    · refine V.goto (tgt := 1982) dL_law_1468 (by decide) ?_
      exact next _ _ _ _ _ (by omega) (hI2.up (by omega))
    · refine V.aload_n dL_law_1456 rfl ?_
      refine V.iconst dL_law_1457 ⟨by decide, by decide⟩ ?_
      refine V.lald (cell := 55) 0 rfl rfl rfl rfl dL_law_1458 (by omega) (by omega) (fun _ => ?_)
      rw [show ρ 55 0 = x from ho hz]
      refine V.iload dL_law_1459 rfl ?_
      refine V.i2l dL_law_1461 ?_
      refine V.lcmp dL_law_1462 ?_
      rw [if_neg (Int.lt_irrefl x), if_pos rfl]
      refine V.if_eq (tgt := 1468) dL_law_1463 (by decide) (fun hy => ?_) (fun hy => ?_)
      · refine V.goto (tgt := 1982) dL_law_1468 (by decide) ?_
        exact next _ _ _ _ _ (by omega) (hI2.up (by omega))
      · exact absurd rfl hy
  · exact absurd h0 he
theorem lw_27 {l : Launch} {E : JE} {n : Nat} {q i : Int} {a b c : JV} {σ : JM} (hL : E.2.2.2.2.1 ≤ 2048) (hI : jINV (i + 1) σ) (i0 : 0 ≤ i) (i4 : i + 4 ≤ (E.2.2.2.2.1 : Int)) (hn : 1 ≤ n) (next : jNx l E n q i) : V l E mL_law 100 n jQt jno 1471 [(7, q), (2, 0), (2, 7), (2, 55), (2, 56), (0, i), a, b, c] [] σ := by
  obtain ⟨dL, dX, h1, h2, QL, hC, hk⟩ := op_items hI
  refine V.aload_n dL_law_1471 rfl ?_
  refine V.aload_n dL_law_1472 rfl ?_
  refine V.callH [_, _] rfl kc_L_224 dL_law_1473 (d' := dL) h1 hn rfl (fun _ _ => hC) rfl (fun v τ hq hv => ?_) (fun X t hx => hx.elim)
  obtain ⟨k, rfl, QM, hX, hm⟩ := hk v τ hq
  refine V.istore (L' := [_, _, _, _, _, _, _, _, _]) dL_law_1476 rfl rfl ?_
  refine V.aload_n dL_law_1478 rfl ?_
  refine V.callV [] rfl kc_L_226 rfl dL_law_1479 (d' := dX) h2 (Nat.zero_le _) rfl (fun _ _ => hX) rfl (fun w ρ hq2 hv2 => ?_) (fun X t hx => hx.elim)
  obtain ⟨x, rfl, h0, ho, hI2⟩ := hm w ρ hq2
  refine V.istore (L' := [_, _, _, _, _, _, _, _, _]) dL_law_1482 rfl rfl ?_
  refine V.aload_n dL_law_1484 rfl ?_
  refine V.cV [] rfl kc_L_136 rfl dL_law_1485 (by decide) rfl rfl (sp_X7_thrown) (fun _ => ?_)
  refine V.iload dL_law_1488 rfl ?_
  refine V.icmp_eq (tgt := 1495) dL_law_1490 (by decide) (fun he => ?_) (fun he => ?_)
  · refine V.iload dL_law_1495 rfl ?_
    refine V.if_ne (tgt := 1512) dL_law_1497 (by decide) (fun hz => ?_) (fun hz => ?_)
    · refine V.goto (tgt := 1982) dL_law_1512 (by decide) ?_
      exact next _ _ _ _ _ (by omega) (hI2.up (by omega))
    · refine V.aload_n dL_law_1500 rfl ?_
      refine V.iconst dL_law_1501 ⟨by decide, by decide⟩ ?_
      refine V.lald (cell := 55) 0 rfl rfl rfl rfl dL_law_1502 (by omega) (by omega) (fun _ => ?_)
      rw [show ρ 55 0 = x from ho hz]
      refine V.iload dL_law_1503 rfl ?_
      refine V.i2l dL_law_1505 ?_
      refine V.lcmp dL_law_1506 ?_
      rw [if_neg (Int.lt_irrefl x), if_pos rfl]
      refine V.if_eq (tgt := 1512) dL_law_1507 (by decide) (fun hy => ?_) (fun hy => ?_)
      · refine V.goto (tgt := 1982) dL_law_1512 (by decide) ?_
        exact next _ _ _ _ _ (by omega) (hI2.up (by omega))
      · exact absurd rfl hy
  · exact absurd h0 he
theorem lw_28 {l : Launch} {E : JE} {n : Nat} {q i : Int} {a b c : JV} {σ : JM} (hL : E.2.2.2.2.1 ≤ 2048) (hI : jINV (i + 1) σ) (i0 : 0 ≤ i) (i4 : i + 4 ≤ (E.2.2.2.2.1 : Int)) (hn : 1 ≤ n) (next : jNx l E n q i) : V l E mL_law 100 n jQt jno 1515 [(7, q), (2, 0), (2, 7), (2, 55), (2, 56), (0, i), a, b, c] [] σ := by
  obtain ⟨p1, hp1⟩ : ∃ p, (E.2.2.2.2.2 (i + 1).toNat).toInt = p := ⟨_, rfl⟩
  obtain ⟨dL, dX, h1, h2, QL, hC, hk⟩ := op_lineOf (x := p1) hI
  refine V.aload_n dL_law_1515 rfl ?_
  refine V.aload_s dL_law_1516 rfl ?_
  refine V.iload dL_law_1517 rfl ?_
  refine V.iconst dL_law_1519 ⟨by decide, by decide⟩ ?_
  refine V.iadd dL_law_1520 ⟨(by omega), (by omega)⟩ ?_
  refine V.sld rfl hL dL_law_1521 (by omega) (by omega) ?_
  rw [hp1]
  refine V.aload_n dL_law_1522 rfl ?_
  refine V.callH [_, _, _] rfl kc_L_227 dL_law_1523 (d' := dL) h1 hn rfl (fun _ _ => hC) rfl (fun v τ hq hv => ?_) (fun X t hx => hx.elim)
  obtain ⟨k, rfl, QM, hX, hm⟩ := hk v τ hq
  refine V.istore (L' := [_, _, _, _, _, _, _, _, _]) dL_law_1526 rfl rfl ?_
  refine V.aload_n dL_law_1528 rfl ?_
  refine V.aload_s dL_law_1529 rfl ?_
  refine V.iload dL_law_1530 rfl ?_
  refine V.iconst dL_law_1532 ⟨by decide, by decide⟩ ?_
  refine V.iadd dL_law_1533 ⟨(by omega), (by omega)⟩ ?_
  refine V.sld rfl hL dL_law_1534 (by omega) (by omega) ?_
  rw [hp1]
  refine V.callV [_] rfl kc_L_229 rfl dL_law_1535 (d' := dX) h2 (Nat.zero_le _) rfl (fun _ _ => hX) rfl (fun w ρ hq2 hv2 => ?_) (fun X t hx => hx.elim)
  obtain ⟨x, rfl, h0, ho, hI2⟩ := hm w ρ hq2
  refine V.istore (L' := [_, _, _, _, _, _, _, _, _]) dL_law_1538 rfl rfl ?_
  refine V.aload_n dL_law_1540 rfl ?_
  refine V.cV [] rfl kc_L_136 rfl dL_law_1541 (by decide) rfl rfl (sp_X7_thrown) (fun _ => ?_)
  refine V.iload dL_law_1544 rfl ?_
  refine V.icmp_eq (tgt := 1551) dL_law_1546 (by decide) (fun he => ?_) (fun he => ?_)
  · refine V.iload dL_law_1551 rfl ?_
    refine V.if_ne (tgt := 1568) dL_law_1553 (by decide) (fun hz => ?_) (fun hz => ?_)
    · refine V.goto (tgt := 1982) dL_law_1568 (by decide) ?_
      exact next _ _ _ _ _ (by omega) (hI2.up (by omega))
    · refine V.aload_n dL_law_1556 rfl ?_
      refine V.iconst dL_law_1557 ⟨by decide, by decide⟩ ?_
      refine V.lald (cell := 55) 0 rfl rfl rfl rfl dL_law_1558 (by omega) (by omega) (fun _ => ?_)
      rw [show ρ 55 0 = x from ho hz]
      refine V.iload dL_law_1559 rfl ?_
      refine V.i2l dL_law_1561 ?_
      refine V.lcmp dL_law_1562 ?_
      rw [if_neg (Int.lt_irrefl x), if_pos rfl]
      refine V.if_eq (tgt := 1568) dL_law_1563 (by decide) (fun hy => ?_) (fun hy => ?_)
      · refine V.goto (tgt := 1982) dL_law_1568 (by decide) ?_
        exact next _ _ _ _ _ (by omega) (hI2.up (by omega))
      · exact absurd rfl hy
  · exact absurd h0 he
theorem lw_29 {l : Launch} {E : JE} {n : Nat} {q i : Int} {a b c : JV} {σ : JM} (hL : E.2.2.2.2.1 ≤ 2048) (hI : jINV (i + 1) σ) (i0 : 0 ≤ i) (i4 : i + 4 ≤ (E.2.2.2.2.1 : Int)) (hn : 1 ≤ n) (next : jNx l E n q i) : V l E mL_law 100 n jQt jno 1571 [(7, q), (2, 0), (2, 7), (2, 55), (2, 56), (0, i), a, b, c] [] σ := by
  obtain ⟨p1, hp1⟩ : ∃ p, (E.2.2.2.2.2 (i + 1).toNat).toInt = p := ⟨_, rfl⟩
  obtain ⟨dL, dX, h1, h2, QL, hC, hk⟩ := op_kindOf (x := p1) hI
  refine V.aload_n dL_law_1571 rfl ?_
  refine V.aload_s dL_law_1572 rfl ?_
  refine V.iload dL_law_1573 rfl ?_
  refine V.iconst dL_law_1575 ⟨by decide, by decide⟩ ?_
  refine V.iadd dL_law_1576 ⟨(by omega), (by omega)⟩ ?_
  refine V.sld rfl hL dL_law_1577 (by omega) (by omega) ?_
  rw [hp1]
  refine V.aload_n dL_law_1578 rfl ?_
  refine V.callH [_, _, _] rfl kc_L_230 dL_law_1579 (d' := dL) h1 hn rfl (fun _ _ => hC) rfl (fun v τ hq hv => ?_) (fun X t hx => hx.elim)
  obtain ⟨k, rfl, QM, hX, hm⟩ := hk v τ hq
  refine V.istore (L' := [_, _, _, _, _, _, _, _, _]) dL_law_1582 rfl rfl ?_
  refine V.aload_n dL_law_1584 rfl ?_
  refine V.aload_s dL_law_1585 rfl ?_
  refine V.iload dL_law_1586 rfl ?_
  refine V.iconst dL_law_1588 ⟨by decide, by decide⟩ ?_
  refine V.iadd dL_law_1589 ⟨(by omega), (by omega)⟩ ?_
  refine V.sld rfl hL dL_law_1590 (by omega) (by omega) ?_
  rw [hp1]
  refine V.callV [_] rfl kc_L_232 rfl dL_law_1591 (d' := dX) h2 (Nat.zero_le _) rfl (fun _ _ => hX) rfl (fun w ρ hq2 hv2 => ?_) (fun X t hx => hx.elim)
  obtain ⟨x, rfl, h0, ho, hI2⟩ := hm w ρ hq2
  refine V.istore (L' := [_, _, _, _, _, _, _, _, _]) dL_law_1594 rfl rfl ?_
  refine V.aload_n dL_law_1596 rfl ?_
  refine V.cV [] rfl kc_L_136 rfl dL_law_1597 (by decide) rfl rfl (sp_X7_thrown) (fun _ => ?_)
  refine V.iload dL_law_1600 rfl ?_
  refine V.icmp_eq (tgt := 1607) dL_law_1602 (by decide) (fun he => ?_) (fun he => ?_)
  · refine V.iload dL_law_1607 rfl ?_
    refine V.if_ne (tgt := 1624) dL_law_1609 (by decide) (fun hz => ?_) (fun hz => ?_)
    · refine V.goto (tgt := 1982) dL_law_1624 (by decide) ?_
      exact next _ _ _ _ _ (by omega) (hI2.up (by omega))
    · refine V.aload_n dL_law_1612 rfl ?_
      refine V.iconst dL_law_1613 ⟨by decide, by decide⟩ ?_
      refine V.lald (cell := 55) 0 rfl rfl rfl rfl dL_law_1614 (by omega) (by omega) (fun _ => ?_)
      rw [show ρ 55 0 = x from ho hz]
      refine V.iload dL_law_1615 rfl ?_
      refine V.i2l dL_law_1617 ?_
      refine V.lcmp dL_law_1618 ?_
      rw [if_neg (Int.lt_irrefl x), if_pos rfl]
      refine V.if_eq (tgt := 1624) dL_law_1619 (by decide) (fun hy => ?_) (fun hy => ?_)
      · refine V.goto (tgt := 1982) dL_law_1624 (by decide) ?_
        exact next _ _ _ _ _ (by omega) (hI2.up (by omega))
      · exact absurd rfl hy
  · exact absurd h0 he
