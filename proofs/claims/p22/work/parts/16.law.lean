theorem zw_1517 : Cond.classLink "MissingLampsLaw" (7 : Nat) "MissingLamps" ∈ ztb := zt_in0 (List.mem_of_getElem? (i := 22) rfl) rfl
theorem zw_1518 : Cond.instantiable "MissingLamps" (16 : Nat) ∈ ztb := zt_in0 (List.mem_of_getElem? (i := 23) rfl) rfl
theorem zw_1519 : Cond.methodLink "MissingLampsLaw" (9 : Nat) ({ cls := "MissingLamps", name := "<init>", desc := "()V" } : MethodName) ∈ ztb := zt_in0 (List.mem_of_getElem? (i := 24) rfl) rfl
theorem zw_1520 : Cond.instanceMethod ({ cls := "MissingLamps", name := "<init>", desc := "()V" } : MethodName) ∈ ztb := zt_in0 (List.mem_of_getElem? (i := 25) rfl) rfl
theorem zw_1521 : Cond.classLink "MissingLampsLaw" (10 : Nat) "MissingLampsModel" ∈ ztb := zt_in5 (List.mem_of_getElem? (i := 35) rfl) rfl
theorem zw_1522 : Cond.instantiable "MissingLampsModel" (73 : Nat) ∈ ztb := zt_in5 (List.mem_of_getElem? (i := 36) rfl) rfl
theorem zw_1523 : Cond.methodLink "MissingLampsLaw" (12 : Nat) ({ cls := "MissingLampsModel", name := "<init>", desc := "()V" } : MethodName) ∈ ztb := zt_in5 (List.mem_of_getElem? (i := 37) rfl) rfl
theorem zw_1524 : Cond.instanceMethod ({ cls := "MissingLampsModel", name := "<init>", desc := "()V" } : MethodName) ∈ ztb := zt_in5 (List.mem_of_getElem? (i := 38) rfl) rfl
theorem zw_1525 : Cond.methodLink "MissingLampsLaw" (13 : Nat) ({ cls := "MissingLamps", name := "feed", desc := "(IIIII)I" } : MethodName) ∈ ztb := zt_in2 (List.mem_of_getElem? (i := 77) rfl) rfl
theorem zw_1526 : Cond.instanceMethod ({ cls := "MissingLamps", name := "feed", desc := "(IIIII)I" } : MethodName) ∈ ztb := zt_in2 (List.mem_of_getElem? (i := 78) rfl) rfl
theorem zw_1527 : Cond.selects "MissingLamps" ({ cls := "MissingLamps", name := "feed", desc := "(IIIII)I" } : MethodName) ({ cls := "MissingLamps", name := "feed", desc := "(IIIII)I" } : MethodName) ∈ ztb := zt_in2 (List.mem_of_getElem? (i := 79) rfl) rfl
theorem zw_1528 : Cond.methodLink "MissingLampsLaw" (17 : Nat) ({ cls := "MissingLampsModel", name := "feed", desc := "(IIIII)I" } : MethodName) ∈ ztb := zt_in6 (List.mem_of_getElem? (i := 22) rfl) rfl
theorem zw_1529 : Cond.instanceMethod ({ cls := "MissingLampsModel", name := "feed", desc := "(IIIII)I" } : MethodName) ∈ ztb := zt_in6 (List.mem_of_getElem? (i := 23) rfl) rfl
theorem zw_1530 : Cond.selects "MissingLampsModel" ({ cls := "MissingLampsModel", name := "feed", desc := "(IIIII)I" } : MethodName) ({ cls := "MissingLampsModel", name := "feed", desc := "(IIIII)I" } : MethodName) ∈ ztb := zt_in6 (List.mem_of_getElem? (i := 24) rfl) rfl
theorem zw_1531 : Cond.methodLink "MissingLampsLaw" (18 : Nat) ({ cls := "MissingLamps", name := "end", desc := "(I)Z" } : MethodName) ∈ ztb := zt_in2 (List.mem_of_getElem? (i := 89) rfl) rfl
theorem zw_1532 : Cond.instanceMethod ({ cls := "MissingLamps", name := "end", desc := "(I)Z" } : MethodName) ∈ ztb := zt_in2 (List.mem_of_getElem? (i := 90) rfl) rfl
theorem zw_1533 : Cond.selects "MissingLamps" ({ cls := "MissingLamps", name := "end", desc := "(I)Z" } : MethodName) ({ cls := "MissingLamps", name := "end", desc := "(I)Z" } : MethodName) ∈ ztb := zt_in2 (List.mem_of_getElem? (i := 91) rfl) rfl
theorem zw_1534 : Cond.methodLink "MissingLampsLaw" (22 : Nat) ({ cls := "MissingLampsModel", name := "end", desc := "(I)Z" } : MethodName) ∈ ztb := zt_in6 (List.mem_of_getElem? (i := 34) rfl) rfl
theorem zw_1535 : Cond.instanceMethod ({ cls := "MissingLampsModel", name := "end", desc := "(I)Z" } : MethodName) ∈ ztb := zt_in6 (List.mem_of_getElem? (i := 35) rfl) rfl
theorem zw_1536 : Cond.selects "MissingLampsModel" ({ cls := "MissingLampsModel", name := "end", desc := "(I)Z" } : MethodName) ({ cls := "MissingLampsModel", name := "end", desc := "(I)Z" } : MethodName) ∈ ztb := zt_in6 (List.mem_of_getElem? (i := 36) rfl) rfl
theorem zw_1537 : Cond.methodLink "MissingLampsLaw" (23 : Nat) ({ cls := "MissingLamps", name := "quay", desc := "()I" } : MethodName) ∈ ztb := zt_in2 (List.mem_of_getElem? (i := 97) rfl) rfl
theorem zw_1538 : Cond.instanceMethod ({ cls := "MissingLamps", name := "quay", desc := "()I" } : MethodName) ∈ ztb := zt_in2 (List.mem_of_getElem? (i := 98) rfl) rfl
theorem zw_1539 : Cond.selects "MissingLamps" ({ cls := "MissingLamps", name := "quay", desc := "()I" } : MethodName) ({ cls := "MissingLamps", name := "quay", desc := "()I" } : MethodName) ∈ ztb := zt_in2 (List.mem_of_getElem? (i := 99) rfl) rfl
theorem zw_1540 : Cond.methodLink "MissingLampsLaw" (27 : Nat) ({ cls := "MissingLampsModel", name := "quay", desc := "()I" } : MethodName) ∈ ztb := zt_in6 (List.mem_of_getElem? (i := 38) rfl) rfl
theorem zw_1541 : Cond.instanceMethod ({ cls := "MissingLampsModel", name := "quay", desc := "()I" } : MethodName) ∈ ztb := zt_in6 (List.mem_of_getElem? (i := 39) rfl) rfl
theorem zw_1542 : Cond.selects "MissingLampsModel" ({ cls := "MissingLampsModel", name := "quay", desc := "()I" } : MethodName) ({ cls := "MissingLampsModel", name := "quay", desc := "()I" } : MethodName) ∈ ztb := zt_in6 (List.mem_of_getElem? (i := 40) rfl) rfl
theorem zw_1543 : Cond.methodLink "MissingLampsLaw" (28 : Nat) ({ cls := "MissingLamps", name := "fault", desc := "(I)I" } : MethodName) ∈ ztb := zt_in3 (List.mem_of_getElem? (i := 92) rfl) rfl
theorem zw_1544 : Cond.instanceMethod ({ cls := "MissingLamps", name := "fault", desc := "(I)I" } : MethodName) ∈ ztb := zt_in3 (List.mem_of_getElem? (i := 93) rfl) rfl
theorem zw_1545 : Cond.selects "MissingLamps" ({ cls := "MissingLamps", name := "fault", desc := "(I)I" } : MethodName) ({ cls := "MissingLamps", name := "fault", desc := "(I)I" } : MethodName) ∈ ztb := zt_in3 (List.mem_of_getElem? (i := 94) rfl) rfl
theorem zw_1546 : Cond.methodLink "MissingLampsLaw" (32 : Nat) ({ cls := "MissingLampsModel", name := "fault", desc := "(I)I" } : MethodName) ∈ ztb := zt_in6 (List.mem_of_getElem? (i := 218) rfl) rfl
theorem zw_1547 : Cond.instanceMethod ({ cls := "MissingLampsModel", name := "fault", desc := "(I)I" } : MethodName) ∈ ztb := zt_in6 (List.mem_of_getElem? (i := 219) rfl) rfl
theorem zw_1548 : Cond.selects "MissingLampsModel" ({ cls := "MissingLampsModel", name := "fault", desc := "(I)I" } : MethodName) ({ cls := "MissingLampsModel", name := "fault", desc := "(I)I" } : MethodName) ∈ ztb := zt_in6 (List.mem_of_getElem? (i := 220) rfl) rfl
theorem zw_1549 : Cond.methodLink "MissingLampsLaw" (33 : Nat) ({ cls := "MissingLamps", name := "has", desc := "(I)I" } : MethodName) ∈ ztb := zt_in3 (List.mem_of_getElem? (i := 96) rfl) rfl
theorem zw_1550 : Cond.instanceMethod ({ cls := "MissingLamps", name := "has", desc := "(I)I" } : MethodName) ∈ ztb := zt_in3 (List.mem_of_getElem? (i := 97) rfl) rfl
theorem zw_1551 : Cond.selects "MissingLamps" ({ cls := "MissingLamps", name := "has", desc := "(I)I" } : MethodName) ({ cls := "MissingLamps", name := "has", desc := "(I)I" } : MethodName) ∈ ztb := zt_in3 (List.mem_of_getElem? (i := 98) rfl) rfl
theorem zw_1552 : Cond.methodLink "MissingLampsLaw" (36 : Nat) ({ cls := "MissingLampsModel", name := "has", desc := "(I)I" } : MethodName) ∈ ztb := zt_in6 (List.mem_of_getElem? (i := 238) rfl) rfl
theorem zw_1553 : Cond.instanceMethod ({ cls := "MissingLampsModel", name := "has", desc := "(I)I" } : MethodName) ∈ ztb := zt_in6 (List.mem_of_getElem? (i := 239) rfl) rfl
theorem zw_1554 : Cond.selects "MissingLampsModel" ({ cls := "MissingLampsModel", name := "has", desc := "(I)I" } : MethodName) ({ cls := "MissingLampsModel", name := "has", desc := "(I)I" } : MethodName) ∈ ztb := zt_in7 (List.mem_of_getElem? (i := 0) rfl) rfl
theorem zw_1555 : Cond.methodLink "MissingLampsLaw" (37 : Nat) ({ cls := "MissingLamps", name := "letter", desc := "(III)I" } : MethodName) ∈ ztb := zt_in3 (List.mem_of_getElem? (i := 181) rfl) rfl
theorem zw_1556 : Cond.instanceMethod ({ cls := "MissingLamps", name := "letter", desc := "(III)I" } : MethodName) ∈ ztb := zt_in3 (List.mem_of_getElem? (i := 182) rfl) rfl
theorem zw_1557 : Cond.selects "MissingLamps" ({ cls := "MissingLamps", name := "letter", desc := "(III)I" } : MethodName) ({ cls := "MissingLamps", name := "letter", desc := "(III)I" } : MethodName) ∈ ztb := zt_in3 (List.mem_of_getElem? (i := 183) rfl) rfl
theorem zw_1558 : Cond.methodLink "MissingLampsLaw" (41 : Nat) ({ cls := "MissingLampsModel", name := "letter", desc := "(III)I" } : MethodName) ∈ ztb := zt_in7 (List.mem_of_getElem? (i := 60) rfl) rfl
theorem zw_1559 : Cond.instanceMethod ({ cls := "MissingLampsModel", name := "letter", desc := "(III)I" } : MethodName) ∈ ztb := zt_in7 (List.mem_of_getElem? (i := 61) rfl) rfl
theorem zw_1560 : Cond.selects "MissingLampsModel" ({ cls := "MissingLampsModel", name := "letter", desc := "(III)I" } : MethodName) ({ cls := "MissingLampsModel", name := "letter", desc := "(III)I" } : MethodName) ∈ ztb := zt_in7 (List.mem_of_getElem? (i := 62) rfl) rfl
theorem zw_1561 : Cond.methodLink "MissingLampsLaw" (42 : Nat) ({ cls := "MissingLamps", name := "cell", desc := "(III)I" } : MethodName) ∈ ztb := zt_in3 (List.mem_of_getElem? (i := 196) rfl) rfl
theorem zw_1562 : Cond.instanceMethod ({ cls := "MissingLamps", name := "cell", desc := "(III)I" } : MethodName) ∈ ztb := zt_in3 (List.mem_of_getElem? (i := 197) rfl) rfl
theorem zw_1563 : Cond.selects "MissingLamps" ({ cls := "MissingLamps", name := "cell", desc := "(III)I" } : MethodName) ({ cls := "MissingLamps", name := "cell", desc := "(III)I" } : MethodName) ∈ ztb := zt_in3 (List.mem_of_getElem? (i := 198) rfl) rfl
theorem zw_1564 : Cond.methodLink "MissingLampsLaw" (45 : Nat) ({ cls := "MissingLampsModel", name := "cell", desc := "(III)I" } : MethodName) ∈ ztb := zt_in7 (List.mem_of_getElem? (i := 73) rfl) rfl
theorem zw_1565 : Cond.instanceMethod ({ cls := "MissingLampsModel", name := "cell", desc := "(III)I" } : MethodName) ∈ ztb := zt_in7 (List.mem_of_getElem? (i := 74) rfl) rfl
theorem zw_1566 : Cond.selects "MissingLampsModel" ({ cls := "MissingLampsModel", name := "cell", desc := "(III)I" } : MethodName) ({ cls := "MissingLampsModel", name := "cell", desc := "(III)I" } : MethodName) ∈ ztb := zt_in7 (List.mem_of_getElem? (i := 75) rfl) rfl
theorem zw_1567 : Cond.methodLink "MissingLampsLaw" (46 : Nat) ({ cls := "MissingLamps", name := "thing", desc := "(II)I" } : MethodName) ∈ ztb := zt_in3 (List.mem_of_getElem? (i := 210) rfl) rfl
theorem zw_1568 : Cond.instanceMethod ({ cls := "MissingLamps", name := "thing", desc := "(II)I" } : MethodName) ∈ ztb := zt_in3 (List.mem_of_getElem? (i := 211) rfl) rfl
theorem zw_1569 : Cond.selects "MissingLamps" ({ cls := "MissingLamps", name := "thing", desc := "(II)I" } : MethodName) ({ cls := "MissingLamps", name := "thing", desc := "(II)I" } : MethodName) ∈ ztb := zt_in3 (List.mem_of_getElem? (i := 212) rfl) rfl
theorem zw_1570 : Cond.methodLink "MissingLampsLaw" (50 : Nat) ({ cls := "MissingLampsModel", name := "thing", desc := "(II)I" } : MethodName) ∈ ztb := zt_in7 (List.mem_of_getElem? (i := 77) rfl) rfl
theorem zw_1571 : Cond.instanceMethod ({ cls := "MissingLampsModel", name := "thing", desc := "(II)I" } : MethodName) ∈ ztb := zt_in7 (List.mem_of_getElem? (i := 78) rfl) rfl
theorem zw_1572 : Cond.selects "MissingLampsModel" ({ cls := "MissingLampsModel", name := "thing", desc := "(II)I" } : MethodName) ({ cls := "MissingLampsModel", name := "thing", desc := "(II)I" } : MethodName) ∈ ztb := zt_in7 (List.mem_of_getElem? (i := 79) rfl) rfl
theorem zw_1573 : Cond.methodLink "MissingLampsLaw" (51 : Nat) ({ cls := "MissingLamps", name := "folk", desc := "(II)I" } : MethodName) ∈ ztb := zt_in3 (List.mem_of_getElem? (i := 222) rfl) rfl
theorem zw_1574 : Cond.instanceMethod ({ cls := "MissingLamps", name := "folk", desc := "(II)I" } : MethodName) ∈ ztb := zt_in3 (List.mem_of_getElem? (i := 223) rfl) rfl
theorem zw_1575 : Cond.selects "MissingLamps" ({ cls := "MissingLamps", name := "folk", desc := "(II)I" } : MethodName) ({ cls := "MissingLamps", name := "folk", desc := "(II)I" } : MethodName) ∈ ztb := zt_in3 (List.mem_of_getElem? (i := 224) rfl) rfl
theorem zw_1576 : Cond.methodLink "MissingLampsLaw" (54 : Nat) ({ cls := "MissingLampsModel", name := "folk", desc := "(II)I" } : MethodName) ∈ ztb := zt_in7 (List.mem_of_getElem? (i := 84) rfl) rfl
theorem zw_1577 : Cond.instanceMethod ({ cls := "MissingLampsModel", name := "folk", desc := "(II)I" } : MethodName) ∈ ztb := zt_in7 (List.mem_of_getElem? (i := 85) rfl) rfl
theorem zw_1578 : Cond.selects "MissingLampsModel" ({ cls := "MissingLampsModel", name := "folk", desc := "(II)I" } : MethodName) ({ cls := "MissingLampsModel", name := "folk", desc := "(II)I" } : MethodName) ∈ ztb := zt_in7 (List.mem_of_getElem? (i := 86) rfl) rfl
theorem zw_1579 : Cond.methodLink "MissingLampsLaw" (55 : Nat) ({ cls := "MissingLamps", name := "later", desc := "(III)I" } : MethodName) ∈ ztb := zt_in3 (List.mem_of_getElem? (i := 230) rfl) rfl
theorem zw_1580 : Cond.instanceMethod ({ cls := "MissingLamps", name := "later", desc := "(III)I" } : MethodName) ∈ ztb := zt_in3 (List.mem_of_getElem? (i := 231) rfl) rfl
theorem zw_1581 : Cond.selects "MissingLamps" ({ cls := "MissingLamps", name := "later", desc := "(III)I" } : MethodName) ({ cls := "MissingLamps", name := "later", desc := "(III)I" } : MethodName) ∈ ztb := zt_in3 (List.mem_of_getElem? (i := 232) rfl) rfl
theorem zw_1582 : Cond.methodLink "MissingLampsLaw" (58 : Nat) ({ cls := "MissingLampsModel", name := "later", desc := "(III)I" } : MethodName) ∈ ztb := zt_in7 (List.mem_of_getElem? (i := 97) rfl) rfl
theorem zw_1583 : Cond.instanceMethod ({ cls := "MissingLampsModel", name := "later", desc := "(III)I" } : MethodName) ∈ ztb := zt_in7 (List.mem_of_getElem? (i := 98) rfl) rfl
theorem zw_1584 : Cond.selects "MissingLampsModel" ({ cls := "MissingLampsModel", name := "later", desc := "(III)I" } : MethodName) ({ cls := "MissingLampsModel", name := "later", desc := "(III)I" } : MethodName) ∈ ztb := zt_in7 (List.mem_of_getElem? (i := 99) rfl) rfl
theorem zw_1585 : Cond.methodLink "MissingLampsLaw" (59 : Nat) ({ cls := "MissingLamps", name := "home", desc := "(I)I" } : MethodName) ∈ ztb := zt_in4 (List.mem_of_getElem? (i := 36) rfl) rfl
theorem zw_1586 : Cond.instanceMethod ({ cls := "MissingLamps", name := "home", desc := "(I)I" } : MethodName) ∈ ztb := zt_in4 (List.mem_of_getElem? (i := 37) rfl) rfl
theorem zw_1587 : Cond.selects "MissingLamps" ({ cls := "MissingLamps", name := "home", desc := "(I)I" } : MethodName) ({ cls := "MissingLamps", name := "home", desc := "(I)I" } : MethodName) ∈ ztb := zt_in4 (List.mem_of_getElem? (i := 38) rfl) rfl
theorem zw_1588 : Cond.methodLink "MissingLampsLaw" (62 : Nat) ({ cls := "MissingLampsModel", name := "home", desc := "(I)I" } : MethodName) ∈ ztb := zt_in7 (List.mem_of_getElem? (i := 129) rfl) rfl
theorem zw_1589 : Cond.instanceMethod ({ cls := "MissingLampsModel", name := "home", desc := "(I)I" } : MethodName) ∈ ztb := zt_in7 (List.mem_of_getElem? (i := 130) rfl) rfl
theorem zw_1590 : Cond.selects "MissingLampsModel" ({ cls := "MissingLampsModel", name := "home", desc := "(I)I" } : MethodName) ({ cls := "MissingLampsModel", name := "home", desc := "(I)I" } : MethodName) ∈ ztb := zt_in7 (List.mem_of_getElem? (i := 131) rfl) rfl
theorem zw_1591 : Cond.methodLink "MissingLampsLaw" (63 : Nat) ({ cls := "MissingLamps", name := "missing", desc := "(II)I" } : MethodName) ∈ ztb := zt_in4 (List.mem_of_getElem? (i := 46) rfl) rfl
theorem zw_1592 : Cond.instanceMethod ({ cls := "MissingLamps", name := "missing", desc := "(II)I" } : MethodName) ∈ ztb := zt_in4 (List.mem_of_getElem? (i := 47) rfl) rfl
theorem zw_1593 : Cond.selects "MissingLamps" ({ cls := "MissingLamps", name := "missing", desc := "(II)I" } : MethodName) ({ cls := "MissingLamps", name := "missing", desc := "(II)I" } : MethodName) ∈ ztb := zt_in4 (List.mem_of_getElem? (i := 48) rfl) rfl
theorem zw_1594 : Cond.methodLink "MissingLampsLaw" (66 : Nat) ({ cls := "MissingLampsModel", name := "missing", desc := "(II)I" } : MethodName) ∈ ztb := zt_in7 (List.mem_of_getElem? (i := 133) rfl) rfl
theorem zw_1595 : Cond.instanceMethod ({ cls := "MissingLampsModel", name := "missing", desc := "(II)I" } : MethodName) ∈ ztb := zt_in7 (List.mem_of_getElem? (i := 134) rfl) rfl
theorem zw_1596 : Cond.selects "MissingLampsModel" ({ cls := "MissingLampsModel", name := "missing", desc := "(II)I" } : MethodName) ({ cls := "MissingLampsModel", name := "missing", desc := "(II)I" } : MethodName) ∈ ztb := zt_in7 (List.mem_of_getElem? (i := 135) rfl) rfl
theorem zw_1597 : Cond.methodLink "MissingLampsLaw" (67 : Nat) ({ cls := "MissingLamps", name := "losses", desc := "(II)I" } : MethodName) ∈ ztb := zt_in4 (List.mem_of_getElem? (i := 50) rfl) rfl
theorem zw_1598 : Cond.instanceMethod ({ cls := "MissingLamps", name := "losses", desc := "(II)I" } : MethodName) ∈ ztb := zt_in4 (List.mem_of_getElem? (i := 51) rfl) rfl
theorem zw_1599 : Cond.selects "MissingLamps" ({ cls := "MissingLamps", name := "losses", desc := "(II)I" } : MethodName) ({ cls := "MissingLamps", name := "losses", desc := "(II)I" } : MethodName) ∈ ztb := zt_in4 (List.mem_of_getElem? (i := 52) rfl) rfl
theorem zw_1600 : Cond.methodLink "MissingLampsLaw" (70 : Nat) ({ cls := "MissingLampsModel", name := "losses", desc := "(II)I" } : MethodName) ∈ ztb := zt_in7 (List.mem_of_getElem? (i := 137) rfl) rfl
theorem zw_1601 : Cond.instanceMethod ({ cls := "MissingLampsModel", name := "losses", desc := "(II)I" } : MethodName) ∈ ztb := zt_in7 (List.mem_of_getElem? (i := 138) rfl) rfl
theorem zw_1602 : Cond.selects "MissingLampsModel" ({ cls := "MissingLampsModel", name := "losses", desc := "(II)I" } : MethodName) ({ cls := "MissingLampsModel", name := "losses", desc := "(II)I" } : MethodName) ∈ ztb := zt_in7 (List.mem_of_getElem? (i := 139) rfl) rfl
theorem zw_1603 : Cond.methodLink "MissingLampsLaw" (71 : Nat) ({ cls := "MissingLamps", name := "worst", desc := "(II)I" } : MethodName) ∈ ztb := zt_in4 (List.mem_of_getElem? (i := 66) rfl) rfl
theorem zw_1604 : Cond.instanceMethod ({ cls := "MissingLamps", name := "worst", desc := "(II)I" } : MethodName) ∈ ztb := zt_in4 (List.mem_of_getElem? (i := 67) rfl) rfl
theorem zw_1605 : Cond.selects "MissingLamps" ({ cls := "MissingLamps", name := "worst", desc := "(II)I" } : MethodName) ({ cls := "MissingLamps", name := "worst", desc := "(II)I" } : MethodName) ∈ ztb := zt_in4 (List.mem_of_getElem? (i := 68) rfl) rfl
theorem zw_1606 : Cond.methodLink "MissingLampsLaw" (74 : Nat) ({ cls := "MissingLampsModel", name := "worst", desc := "(II)I" } : MethodName) ∈ ztb := zt_in7 (List.mem_of_getElem? (i := 145) rfl) rfl
theorem zw_1607 : Cond.instanceMethod ({ cls := "MissingLampsModel", name := "worst", desc := "(II)I" } : MethodName) ∈ ztb := zt_in7 (List.mem_of_getElem? (i := 146) rfl) rfl
theorem zw_1608 : Cond.selects "MissingLampsModel" ({ cls := "MissingLampsModel", name := "worst", desc := "(II)I" } : MethodName) ({ cls := "MissingLampsModel", name := "worst", desc := "(II)I" } : MethodName) ∈ ztb := zt_in7 (List.mem_of_getElem? (i := 147) rfl) rfl
theorem zw_1609 : Cond.methodLink "MissingLampsLaw" (75 : Nat) ({ cls := "MissingLamps", name := "cover", desc := "()I" } : MethodName) ∈ ztb := zt_in4 (List.mem_of_getElem? (i := 76) rfl) rfl
theorem zw_1610 : Cond.instanceMethod ({ cls := "MissingLamps", name := "cover", desc := "()I" } : MethodName) ∈ ztb := zt_in4 (List.mem_of_getElem? (i := 77) rfl) rfl
theorem zw_1611 : Cond.selects "MissingLamps" ({ cls := "MissingLamps", name := "cover", desc := "()I" } : MethodName) ({ cls := "MissingLamps", name := "cover", desc := "()I" } : MethodName) ∈ ztb := zt_in4 (List.mem_of_getElem? (i := 78) rfl) rfl
theorem zw_1612 : Cond.methodLink "MissingLampsLaw" (78 : Nat) ({ cls := "MissingLampsModel", name := "cover", desc := "()I" } : MethodName) ∈ ztb := zt_in7 (List.mem_of_getElem? (i := 149) rfl) rfl
theorem zw_1613 : Cond.instanceMethod ({ cls := "MissingLampsModel", name := "cover", desc := "()I" } : MethodName) ∈ ztb := zt_in7 (List.mem_of_getElem? (i := 150) rfl) rfl
theorem zw_1614 : Cond.selects "MissingLampsModel" ({ cls := "MissingLampsModel", name := "cover", desc := "()I" } : MethodName) ({ cls := "MissingLampsModel", name := "cover", desc := "()I" } : MethodName) ∈ ztb := zt_in7 (List.mem_of_getElem? (i := 151) rfl) rfl
theorem zw_1615 : Cond.methodLink "MissingLampsLaw" (79 : Nat) ({ cls := "MissingLamps", name := "send", desc := "(I)I" } : MethodName) ∈ ztb := zt_in4 (List.mem_of_getElem? (i := 90) rfl) rfl
theorem zw_1616 : Cond.instanceMethod ({ cls := "MissingLamps", name := "send", desc := "(I)I" } : MethodName) ∈ ztb := zt_in4 (List.mem_of_getElem? (i := 91) rfl) rfl
theorem zw_1617 : Cond.selects "MissingLamps" ({ cls := "MissingLamps", name := "send", desc := "(I)I" } : MethodName) ({ cls := "MissingLamps", name := "send", desc := "(I)I" } : MethodName) ∈ ztb := zt_in4 (List.mem_of_getElem? (i := 92) rfl) rfl
theorem zw_1618 : Cond.methodLink "MissingLampsLaw" (82 : Nat) ({ cls := "MissingLampsModel", name := "send", desc := "(I)I" } : MethodName) ∈ ztb := zt_in7 (List.mem_of_getElem? (i := 153) rfl) rfl
theorem zw_1619 : Cond.instanceMethod ({ cls := "MissingLampsModel", name := "send", desc := "(I)I" } : MethodName) ∈ ztb := zt_in7 (List.mem_of_getElem? (i := 154) rfl) rfl
theorem zw_1620 : Cond.selects "MissingLampsModel" ({ cls := "MissingLampsModel", name := "send", desc := "(I)I" } : MethodName) ({ cls := "MissingLampsModel", name := "send", desc := "(I)I" } : MethodName) ∈ ztb := zt_in7 (List.mem_of_getElem? (i := 155) rfl) rfl
theorem zw_1621 : Cond.methodLink "MissingLampsLaw" (83 : Nat) ({ cls := "MissingLamps", name := "odds", desc := "(I)I" } : MethodName) ∈ ztb := zt_in4 (List.mem_of_getElem? (i := 117) rfl) rfl
theorem zw_1622 : Cond.instanceMethod ({ cls := "MissingLamps", name := "odds", desc := "(I)I" } : MethodName) ∈ ztb := zt_in4 (List.mem_of_getElem? (i := 118) rfl) rfl
theorem zw_1623 : Cond.selects "MissingLamps" ({ cls := "MissingLamps", name := "odds", desc := "(I)I" } : MethodName) ({ cls := "MissingLamps", name := "odds", desc := "(I)I" } : MethodName) ∈ ztb := zt_in4 (List.mem_of_getElem? (i := 119) rfl) rfl
theorem zw_1624 : Cond.methodLink "MissingLampsLaw" (86 : Nat) ({ cls := "MissingLampsModel", name := "odds", desc := "(I)I" } : MethodName) ∈ ztb := zt_in7 (List.mem_of_getElem? (i := 168) rfl) rfl
theorem zw_1625 : Cond.instanceMethod ({ cls := "MissingLampsModel", name := "odds", desc := "(I)I" } : MethodName) ∈ ztb := zt_in7 (List.mem_of_getElem? (i := 169) rfl) rfl
theorem zw_1626 : Cond.selects "MissingLampsModel" ({ cls := "MissingLampsModel", name := "odds", desc := "(I)I" } : MethodName) ({ cls := "MissingLampsModel", name := "odds", desc := "(I)I" } : MethodName) ∈ ztb := zt_in7 (List.mem_of_getElem? (i := 170) rfl) rfl
theorem zw_1627 : Cond.methodLink "MissingLampsLaw" (87 : Nat) ({ cls := "MissingLamps", name := "meet", desc := "()I" } : MethodName) ∈ ztb := zt_in4 (List.mem_of_getElem? (i := 127) rfl) rfl
theorem zw_1628 : Cond.instanceMethod ({ cls := "MissingLamps", name := "meet", desc := "()I" } : MethodName) ∈ ztb := zt_in4 (List.mem_of_getElem? (i := 128) rfl) rfl
theorem zw_1629 : Cond.selects "MissingLamps" ({ cls := "MissingLamps", name := "meet", desc := "()I" } : MethodName) ({ cls := "MissingLamps", name := "meet", desc := "()I" } : MethodName) ∈ ztb := zt_in4 (List.mem_of_getElem? (i := 129) rfl) rfl
theorem zw_1630 : Cond.methodLink "MissingLampsLaw" (90 : Nat) ({ cls := "MissingLampsModel", name := "meet", desc := "()I" } : MethodName) ∈ ztb := zt_in7 (List.mem_of_getElem? (i := 172) rfl) rfl
theorem zw_1631 : Cond.instanceMethod ({ cls := "MissingLampsModel", name := "meet", desc := "()I" } : MethodName) ∈ ztb := zt_in7 (List.mem_of_getElem? (i := 173) rfl) rfl
theorem zw_1632 : Cond.selects "MissingLampsModel" ({ cls := "MissingLampsModel", name := "meet", desc := "()I" } : MethodName) ({ cls := "MissingLampsModel", name := "meet", desc := "()I" } : MethodName) ∈ ztb := zt_in7 (List.mem_of_getElem? (i := 174) rfl) rfl
theorem zw_1633 : Cond.methodLink "MissingLampsLaw" (91 : Nat) ({ cls := "MissingLamps", name := "hues", desc := "(I)I" } : MethodName) ∈ ztb := zt_in4 (List.mem_of_getElem? (i := 137) rfl) rfl
theorem zw_1634 : Cond.instanceMethod ({ cls := "MissingLamps", name := "hues", desc := "(I)I" } : MethodName) ∈ ztb := zt_in4 (List.mem_of_getElem? (i := 138) rfl) rfl
theorem zw_1635 : Cond.selects "MissingLamps" ({ cls := "MissingLamps", name := "hues", desc := "(I)I" } : MethodName) ({ cls := "MissingLamps", name := "hues", desc := "(I)I" } : MethodName) ∈ ztb := zt_in4 (List.mem_of_getElem? (i := 139) rfl) rfl
theorem zw_1636 : Cond.methodLink "MissingLampsLaw" (94 : Nat) ({ cls := "MissingLampsModel", name := "hues", desc := "(I)I" } : MethodName) ∈ ztb := zt_in7 (List.mem_of_getElem? (i := 176) rfl) rfl
theorem zw_1637 : Cond.instanceMethod ({ cls := "MissingLampsModel", name := "hues", desc := "(I)I" } : MethodName) ∈ ztb := zt_in7 (List.mem_of_getElem? (i := 177) rfl) rfl
theorem zw_1638 : Cond.selects "MissingLampsModel" ({ cls := "MissingLampsModel", name := "hues", desc := "(I)I" } : MethodName) ({ cls := "MissingLampsModel", name := "hues", desc := "(I)I" } : MethodName) ∈ ztb := zt_in7 (List.mem_of_getElem? (i := 178) rfl) rfl
theorem zw_1639 : Cond.methodLink "MissingLampsLaw" (95 : Nat) ({ cls := "MissingLamps", name := "tells", desc := "(II)I" } : MethodName) ∈ ztb := zt_in4 (List.mem_of_getElem? (i := 154) rfl) rfl
theorem zw_1640 : Cond.instanceMethod ({ cls := "MissingLamps", name := "tells", desc := "(II)I" } : MethodName) ∈ ztb := zt_in4 (List.mem_of_getElem? (i := 155) rfl) rfl
theorem zw_1641 : Cond.selects "MissingLamps" ({ cls := "MissingLamps", name := "tells", desc := "(II)I" } : MethodName) ({ cls := "MissingLamps", name := "tells", desc := "(II)I" } : MethodName) ∈ ztb := zt_in4 (List.mem_of_getElem? (i := 156) rfl) rfl
theorem zw_1642 : Cond.methodLink "MissingLampsLaw" (98 : Nat) ({ cls := "MissingLampsModel", name := "tells", desc := "(II)I" } : MethodName) ∈ ztb := zt_in7 (List.mem_of_getElem? (i := 184) rfl) rfl
theorem zw_1643 : Cond.instanceMethod ({ cls := "MissingLampsModel", name := "tells", desc := "(II)I" } : MethodName) ∈ ztb := zt_in7 (List.mem_of_getElem? (i := 185) rfl) rfl
theorem zw_1644 : Cond.selects "MissingLampsModel" ({ cls := "MissingLampsModel", name := "tells", desc := "(II)I" } : MethodName) ({ cls := "MissingLampsModel", name := "tells", desc := "(II)I" } : MethodName) ∈ ztb := zt_in7 (List.mem_of_getElem? (i := 186) rfl) rfl
theorem zw_1645 : Cond.methodLink "MissingLampsLaw" (99 : Nat) ({ cls := "MissingLamps", name := "nights", desc := "(I)I" } : MethodName) ∈ ztb := zt_in4 (List.mem_of_getElem? (i := 170) rfl) rfl
theorem zw_1646 : Cond.instanceMethod ({ cls := "MissingLamps", name := "nights", desc := "(I)I" } : MethodName) ∈ ztb := zt_in4 (List.mem_of_getElem? (i := 171) rfl) rfl
theorem zw_1647 : Cond.selects "MissingLamps" ({ cls := "MissingLamps", name := "nights", desc := "(I)I" } : MethodName) ({ cls := "MissingLamps", name := "nights", desc := "(I)I" } : MethodName) ∈ ztb := zt_in4 (List.mem_of_getElem? (i := 172) rfl) rfl
theorem zw_1648 : Cond.methodLink "MissingLampsLaw" (102 : Nat) ({ cls := "MissingLampsModel", name := "nights", desc := "(I)I" } : MethodName) ∈ ztb := zt_in7 (List.mem_of_getElem? (i := 192) rfl) rfl
theorem zw_1649 : Cond.instanceMethod ({ cls := "MissingLampsModel", name := "nights", desc := "(I)I" } : MethodName) ∈ ztb := zt_in7 (List.mem_of_getElem? (i := 193) rfl) rfl
theorem zw_1650 : Cond.selects "MissingLampsModel" ({ cls := "MissingLampsModel", name := "nights", desc := "(I)I" } : MethodName) ({ cls := "MissingLampsModel", name := "nights", desc := "(I)I" } : MethodName) ∈ ztb := zt_in7 (List.mem_of_getElem? (i := 194) rfl) rfl
theorem zw_1651 : Cond.methodLink "MissingLampsLaw" (103 : Nat) ({ cls := "MissingLamps", name := "chance", desc := "(I)I" } : MethodName) ∈ ztb := zt_in4 (List.mem_of_getElem? (i := 194) rfl) rfl
theorem zw_1652 : Cond.instanceMethod ({ cls := "MissingLamps", name := "chance", desc := "(I)I" } : MethodName) ∈ ztb := zt_in4 (List.mem_of_getElem? (i := 195) rfl) rfl
theorem zw_1653 : Cond.selects "MissingLamps" ({ cls := "MissingLamps", name := "chance", desc := "(I)I" } : MethodName) ({ cls := "MissingLamps", name := "chance", desc := "(I)I" } : MethodName) ∈ ztb := zt_in4 (List.mem_of_getElem? (i := 196) rfl) rfl
theorem zw_1654 : Cond.methodLink "MissingLampsLaw" (106 : Nat) ({ cls := "MissingLampsModel", name := "chance", desc := "(I)I" } : MethodName) ∈ ztb := zt_in7 (List.mem_of_getElem? (i := 200) rfl) rfl
theorem zw_1655 : Cond.instanceMethod ({ cls := "MissingLampsModel", name := "chance", desc := "(I)I" } : MethodName) ∈ ztb := zt_in7 (List.mem_of_getElem? (i := 201) rfl) rfl
theorem zw_1656 : Cond.selects "MissingLampsModel" ({ cls := "MissingLampsModel", name := "chance", desc := "(I)I" } : MethodName) ({ cls := "MissingLampsModel", name := "chance", desc := "(I)I" } : MethodName) ∈ ztb := zt_in7 (List.mem_of_getElem? (i := 202) rfl) rfl
theorem zw_1657 : Cond.methodLink "MissingLampsLaw" (107 : Nat) ({ cls := "MissingLamps", name := "lose", desc := "(I)Z" } : MethodName) ∈ ztb := zt_in4 (List.mem_of_getElem? (i := 209) rfl) rfl
theorem zw_1658 : Cond.instanceMethod ({ cls := "MissingLamps", name := "lose", desc := "(I)Z" } : MethodName) ∈ ztb := zt_in4 (List.mem_of_getElem? (i := 210) rfl) rfl
theorem zw_1659 : Cond.selects "MissingLamps" ({ cls := "MissingLamps", name := "lose", desc := "(I)Z" } : MethodName) ({ cls := "MissingLamps", name := "lose", desc := "(I)Z" } : MethodName) ∈ ztb := zt_in4 (List.mem_of_getElem? (i := 211) rfl) rfl
theorem zw_1660 : Cond.methodLink "MissingLampsLaw" (110 : Nat) ({ cls := "MissingLampsModel", name := "lose", desc := "(I)Z" } : MethodName) ∈ ztb := zt_in7 (List.mem_of_getElem? (i := 212) rfl) rfl
theorem zw_1661 : Cond.instanceMethod ({ cls := "MissingLampsModel", name := "lose", desc := "(I)Z" } : MethodName) ∈ ztb := zt_in7 (List.mem_of_getElem? (i := 213) rfl) rfl
theorem zw_1662 : Cond.selects "MissingLampsModel" ({ cls := "MissingLampsModel", name := "lose", desc := "(I)Z" } : MethodName) ({ cls := "MissingLampsModel", name := "lose", desc := "(I)Z" } : MethodName) ∈ ztb := zt_in7 (List.mem_of_getElem? (i := 214) rfl) rfl
theorem zw_1663 : Cond.methodLink "MissingLampsLaw" (111 : Nat) ({ cls := "MissingLamps", name := "find", desc := "(I)Z" } : MethodName) ∈ ztb := zt_in4 (List.mem_of_getElem? (i := 218) rfl) rfl
theorem zw_1664 : Cond.instanceMethod ({ cls := "MissingLamps", name := "find", desc := "(I)Z" } : MethodName) ∈ ztb := zt_in4 (List.mem_of_getElem? (i := 219) rfl) rfl
theorem zw_1665 : Cond.selects "MissingLamps" ({ cls := "MissingLamps", name := "find", desc := "(I)Z" } : MethodName) ({ cls := "MissingLamps", name := "find", desc := "(I)Z" } : MethodName) ∈ ztb := zt_in4 (List.mem_of_getElem? (i := 220) rfl) rfl
theorem zw_1666 : Cond.methodLink "MissingLampsLaw" (114 : Nat) ({ cls := "MissingLampsModel", name := "find", desc := "(I)Z" } : MethodName) ∈ ztb := zt_in7 (List.mem_of_getElem? (i := 220) rfl) rfl
theorem zw_1667 : Cond.instanceMethod ({ cls := "MissingLampsModel", name := "find", desc := "(I)Z" } : MethodName) ∈ ztb := zt_in7 (List.mem_of_getElem? (i := 221) rfl) rfl
theorem zw_1668 : Cond.selects "MissingLampsModel" ({ cls := "MissingLampsModel", name := "find", desc := "(I)Z" } : MethodName) ({ cls := "MissingLampsModel", name := "find", desc := "(I)Z" } : MethodName) ∈ ztb := zt_in7 (List.mem_of_getElem? (i := 222) rfl) rfl
theorem zw_1669 : Cond.methodLink "MissingLampsLaw" (115 : Nat) ({ cls := "MissingLamps", name := "lead", desc := "(III)Z" } : MethodName) ∈ ztb := zt_in4 (List.mem_of_getElem? (i := 222) rfl) rfl
theorem zw_1670 : Cond.instanceMethod ({ cls := "MissingLamps", name := "lead", desc := "(III)Z" } : MethodName) ∈ ztb := zt_in4 (List.mem_of_getElem? (i := 223) rfl) rfl
theorem zw_1671 : Cond.selects "MissingLamps" ({ cls := "MissingLamps", name := "lead", desc := "(III)Z" } : MethodName) ({ cls := "MissingLamps", name := "lead", desc := "(III)Z" } : MethodName) ∈ ztb := zt_in4 (List.mem_of_getElem? (i := 224) rfl) rfl
theorem zw_1672 : Cond.methodLink "MissingLampsLaw" (119 : Nat) ({ cls := "MissingLampsModel", name := "lead", desc := "(III)Z" } : MethodName) ∈ ztb := zt_in7 (List.mem_of_getElem? (i := 224) rfl) rfl
theorem zw_1673 : Cond.instanceMethod ({ cls := "MissingLampsModel", name := "lead", desc := "(III)Z" } : MethodName) ∈ ztb := zt_in7 (List.mem_of_getElem? (i := 225) rfl) rfl
theorem zw_1674 : Cond.selects "MissingLampsModel" ({ cls := "MissingLampsModel", name := "lead", desc := "(III)Z" } : MethodName) ({ cls := "MissingLampsModel", name := "lead", desc := "(III)Z" } : MethodName) ∈ ztb := zt_in7 (List.mem_of_getElem? (i := 226) rfl) rfl
theorem zw_1675 : Cond.methodLink "MissingLampsLaw" (120 : Nat) ({ cls := "MissingLamps", name := "undo", desc := "()Z" } : MethodName) ∈ ztb := zt_in4 (List.mem_of_getElem? (i := 232) rfl) rfl
theorem zw_1676 : Cond.instanceMethod ({ cls := "MissingLamps", name := "undo", desc := "()Z" } : MethodName) ∈ ztb := zt_in4 (List.mem_of_getElem? (i := 233) rfl) rfl
theorem zw_1677 : Cond.selects "MissingLamps" ({ cls := "MissingLamps", name := "undo", desc := "()Z" } : MethodName) ({ cls := "MissingLamps", name := "undo", desc := "()Z" } : MethodName) ∈ ztb := zt_in4 (List.mem_of_getElem? (i := 234) rfl) rfl
theorem zw_1678 : Cond.methodLink "MissingLampsLaw" (124 : Nat) ({ cls := "MissingLampsModel", name := "undo", desc := "()Z" } : MethodName) ∈ ztb := zt_in6 (List.mem_of_getElem? (i := 226) rfl) rfl
theorem zw_1679 : Cond.instanceMethod ({ cls := "MissingLampsModel", name := "undo", desc := "()Z" } : MethodName) ∈ ztb := zt_in6 (List.mem_of_getElem? (i := 227) rfl) rfl
theorem zw_1680 : Cond.selects "MissingLampsModel" ({ cls := "MissingLampsModel", name := "undo", desc := "()Z" } : MethodName) ({ cls := "MissingLampsModel", name := "undo", desc := "()Z" } : MethodName) ∈ ztb := zt_in6 (List.mem_of_getElem? (i := 228) rfl) rfl
theorem zw_1681 : Cond.methodLink "MissingLampsLaw" (125 : Nat) ({ cls := "MissingLamps", name := "seed", desc := "(I)Z" } : MethodName) ∈ ztb := zt_in5 (List.mem_of_getElem? (i := 0) rfl) rfl
theorem zw_1682 : Cond.instanceMethod ({ cls := "MissingLamps", name := "seed", desc := "(I)Z" } : MethodName) ∈ ztb := zt_in5 (List.mem_of_getElem? (i := 1) rfl) rfl
theorem zw_1683 : Cond.selects "MissingLamps" ({ cls := "MissingLamps", name := "seed", desc := "(I)Z" } : MethodName) ({ cls := "MissingLamps", name := "seed", desc := "(I)Z" } : MethodName) ∈ ztb := zt_in5 (List.mem_of_getElem? (i := 2) rfl) rfl
theorem zw_1684 : Cond.methodLink "MissingLampsLaw" (128 : Nat) ({ cls := "MissingLampsModel", name := "seed", desc := "(I)Z" } : MethodName) ∈ ztb := zt_in7 (List.mem_of_getElem? (i := 228) rfl) rfl
theorem zw_1685 : Cond.instanceMethod ({ cls := "MissingLampsModel", name := "seed", desc := "(I)Z" } : MethodName) ∈ ztb := zt_in7 (List.mem_of_getElem? (i := 229) rfl) rfl
theorem zw_1686 : Cond.selects "MissingLampsModel" ({ cls := "MissingLampsModel", name := "seed", desc := "(I)Z" } : MethodName) ({ cls := "MissingLampsModel", name := "seed", desc := "(I)Z" } : MethodName) ∈ ztb := zt_in7 (List.mem_of_getElem? (i := 230) rfl) rfl
theorem zw_1687 : Cond.methodLink "MissingLampsLaw" (129 : Nat) ({ cls := "MissingLamps", name := "kept", desc := "(II)I" } : MethodName) ∈ ztb := zt_in5 (List.mem_of_getElem? (i := 4) rfl) rfl
theorem zw_1688 : Cond.instanceMethod ({ cls := "MissingLamps", name := "kept", desc := "(II)I" } : MethodName) ∈ ztb := zt_in5 (List.mem_of_getElem? (i := 5) rfl) rfl
theorem zw_1689 : Cond.selects "MissingLamps" ({ cls := "MissingLamps", name := "kept", desc := "(II)I" } : MethodName) ({ cls := "MissingLamps", name := "kept", desc := "(II)I" } : MethodName) ∈ ztb := zt_in5 (List.mem_of_getElem? (i := 6) rfl) rfl
theorem zw_1690 : Cond.methodLink "MissingLampsLaw" (132 : Nat) ({ cls := "MissingLampsModel", name := "kept", desc := "(II)I" } : MethodName) ∈ ztb := zt_in7 (List.mem_of_getElem? (i := 232) rfl) rfl
theorem zw_1691 : Cond.instanceMethod ({ cls := "MissingLampsModel", name := "kept", desc := "(II)I" } : MethodName) ∈ ztb := zt_in7 (List.mem_of_getElem? (i := 233) rfl) rfl
theorem zw_1692 : Cond.selects "MissingLampsModel" ({ cls := "MissingLampsModel", name := "kept", desc := "(II)I" } : MethodName) ({ cls := "MissingLampsModel", name := "kept", desc := "(II)I" } : MethodName) ∈ ztb := zt_in7 (List.mem_of_getElem? (i := 234) rfl) rfl
theorem zw_1693 : Cond.methodLink "MissingLampsLaw" (133 : Nat) ({ cls := "MissingLamps", name := "image", desc := "()I" } : MethodName) ∈ ztb := zt_in5 (List.mem_of_getElem? (i := 8) rfl) rfl
theorem zw_1694 : Cond.instanceMethod ({ cls := "MissingLamps", name := "image", desc := "()I" } : MethodName) ∈ ztb := zt_in5 (List.mem_of_getElem? (i := 9) rfl) rfl
theorem zw_1695 : Cond.selects "MissingLamps" ({ cls := "MissingLamps", name := "image", desc := "()I" } : MethodName) ({ cls := "MissingLamps", name := "image", desc := "()I" } : MethodName) ∈ ztb := zt_in5 (List.mem_of_getElem? (i := 10) rfl) rfl
theorem zw_1696 : Cond.methodLink "MissingLampsLaw" (136 : Nat) ({ cls := "MissingLampsModel", name := "image", desc := "()I" } : MethodName) ∈ ztb := zt_in7 (List.mem_of_getElem? (i := 236) rfl) rfl
theorem zw_1697 : Cond.instanceMethod ({ cls := "MissingLampsModel", name := "image", desc := "()I" } : MethodName) ∈ ztb := zt_in7 (List.mem_of_getElem? (i := 237) rfl) rfl
theorem zw_1698 : Cond.selects "MissingLampsModel" ({ cls := "MissingLampsModel", name := "image", desc := "()I" } : MethodName) ({ cls := "MissingLampsModel", name := "image", desc := "()I" } : MethodName) ∈ ztb := zt_in7 (List.mem_of_getElem? (i := 238) rfl) rfl
theorem zw_1699 : Cond.methodLink "MissingLampsLaw" (137 : Nat) ({ cls := "MissingLamps", name := "octet", desc := "(I)I" } : MethodName) ∈ ztb := zt_in5 (List.mem_of_getElem? (i := 15) rfl) rfl
theorem zw_1700 : Cond.instanceMethod ({ cls := "MissingLamps", name := "octet", desc := "(I)I" } : MethodName) ∈ ztb := zt_in5 (List.mem_of_getElem? (i := 16) rfl) rfl
theorem zw_1701 : Cond.selects "MissingLamps" ({ cls := "MissingLamps", name := "octet", desc := "(I)I" } : MethodName) ({ cls := "MissingLamps", name := "octet", desc := "(I)I" } : MethodName) ∈ ztb := zt_in5 (List.mem_of_getElem? (i := 17) rfl) rfl
theorem zw_1702 : Cond.methodLink "MissingLampsLaw" (140 : Nat) ({ cls := "MissingLampsModel", name := "octet", desc := "(I)I" } : MethodName) ∈ ztb := zt_in8 (List.mem_of_getElem? (i := 4) rfl) rfl
theorem zw_1703 : Cond.instanceMethod ({ cls := "MissingLampsModel", name := "octet", desc := "(I)I" } : MethodName) ∈ ztb := zt_in8 (List.mem_of_getElem? (i := 5) rfl) rfl
theorem zw_1704 : Cond.selects "MissingLampsModel" ({ cls := "MissingLampsModel", name := "octet", desc := "(I)I" } : MethodName) ({ cls := "MissingLampsModel", name := "octet", desc := "(I)I" } : MethodName) ∈ ztb := zt_in8 (List.mem_of_getElem? (i := 6) rfl) rfl
theorem zw_1705 : Cond.methodLink "MissingLampsLaw" (141 : Nat) ({ cls := "MissingLamps", name := "on", desc := "()Z" } : MethodName) ∈ ztb := zt_in5 (List.mem_of_getElem? (i := 19) rfl) rfl
theorem zw_1706 : Cond.instanceMethod ({ cls := "MissingLamps", name := "on", desc := "()Z" } : MethodName) ∈ ztb := zt_in5 (List.mem_of_getElem? (i := 20) rfl) rfl
theorem zw_1707 : Cond.selects "MissingLamps" ({ cls := "MissingLamps", name := "on", desc := "()Z" } : MethodName) ({ cls := "MissingLamps", name := "on", desc := "()Z" } : MethodName) ∈ ztb := zt_in5 (List.mem_of_getElem? (i := 21) rfl) rfl
theorem zw_1708 : Cond.methodLink "MissingLampsLaw" (144 : Nat) ({ cls := "MissingLampsModel", name := "on", desc := "()Z" } : MethodName) ∈ ztb := zt_in8 (List.mem_of_getElem? (i := 8) rfl) rfl
theorem zw_1709 : Cond.instanceMethod ({ cls := "MissingLampsModel", name := "on", desc := "()Z" } : MethodName) ∈ ztb := zt_in8 (List.mem_of_getElem? (i := 9) rfl) rfl
theorem zw_1710 : Cond.selects "MissingLampsModel" ({ cls := "MissingLampsModel", name := "on", desc := "()Z" } : MethodName) ({ cls := "MissingLampsModel", name := "on", desc := "()Z" } : MethodName) ∈ ztb := zt_in8 (List.mem_of_getElem? (i := 10) rfl) rfl
theorem zw_1711 : Cond.methodLink "MissingLampsLaw" (145 : Nat) ({ cls := "MissingLamps", name := "status", desc := "(I)I" } : MethodName) ∈ ztb := zt_in5 (List.mem_of_getElem? (i := 31) rfl) rfl
theorem zw_1712 : Cond.instanceMethod ({ cls := "MissingLamps", name := "status", desc := "(I)I" } : MethodName) ∈ ztb := zt_in5 (List.mem_of_getElem? (i := 32) rfl) rfl
theorem zw_1713 : Cond.selects "MissingLamps" ({ cls := "MissingLamps", name := "status", desc := "(I)I" } : MethodName) ({ cls := "MissingLamps", name := "status", desc := "(I)I" } : MethodName) ∈ ztb := zt_in5 (List.mem_of_getElem? (i := 33) rfl) rfl
theorem zw_1714 : Cond.methodLink "MissingLampsLaw" (148 : Nat) ({ cls := "MissingLampsModel", name := "status", desc := "(I)I" } : MethodName) ∈ ztb := zt_in6 (List.mem_of_getElem? (i := 222) rfl) rfl
theorem zw_1715 : Cond.instanceMethod ({ cls := "MissingLampsModel", name := "status", desc := "(I)I" } : MethodName) ∈ ztb := zt_in6 (List.mem_of_getElem? (i := 223) rfl) rfl
theorem zw_1716 : Cond.selects "MissingLampsModel" ({ cls := "MissingLampsModel", name := "status", desc := "(I)I" } : MethodName) ({ cls := "MissingLampsModel", name := "status", desc := "(I)I" } : MethodName) ∈ ztb := zt_in6 (List.mem_of_getElem? (i := 224) rfl) rfl
section LAW
variable {g : zG} {i : zI} {pc : Nat}
/-! the script: the abstract value .retAddr 3 -/
theorem ok_slen {k L : Nat} {xs : Nat → Int32} (hx : ∀ X U, zEx g X U → ∃ b, zx X k = some b ∧ b < zH X ∧ va_X b L xs U U.heap) {v : Int32} (hv : Int32.ofNat L = v) (hd : decode i.2.1 pc = .ok (.arraylength, 1)) : zOk g i pc (zst 1 (zgx k (.int v))) := zOk_sx fun X d n0 p e R s m args below meth c hC sk sk' hg H locs cells slots Q ls hS kk => by
  obtain ⟨r, rfl, rfl⟩ := zgx_s hg
  obtain ⟨b, h1, h2, h3⟩ := hx X s hC.2.2.2.2.2.2.1
  rw [List.map_cons, zU_x h1]
  subst hv
  exact va_slen hC.1 hC.2.1 h3 (by have := hC.2.2.2.2.2.2.2.1; omega) (by omega) hS hd kk
theorem ok_sld {k L : Nat} {xs : Nat → Int32} (hx : ∀ X U, zEx g X U → ∃ b, zx X k = some b ∧ b < zH X ∧ va_X b L xs U U.heap) (hd : decode i.2.1 pc = .ok (.iaload, 1)) : zOk g i pc (zst 1 (zbx k L xs)) := zOk_sx fun X d n0 p e R s m args below meth c hC sk sk' hg H locs cells slots Q ls hS kk => by
  unfold zbx at hg
  split at hg
  · next x q r =>
    cases hb : Bool.and (Nat.beq q k) (zix x L) with
    | false => rw [hb] at hg; cases hg
    | true =>
      rw [hb] at hg
      cases hg
      obtain ⟨b1, b2⟩ := (Bool.and_eq_true _ _).mp hb
      have := Nat.eq_of_beq_eq_true b1
      subst this
      obtain ⟨b, h1, h2, h3⟩ := hx X s hC.2.2.2.2.2.2.1
      rw [List.map_cons, List.map_cons, zU_x h1]
      exact va_sld hC.1 hC.2.1 h3 (by have := hC.2.2.2.2.2.2.2.1; omega) (by omega) hS (zix_s b2) hd kk
  · cases hg
end LAW
def zEL (L : Nat) (xs : Nat → Int32) (X : zX) (U : State) : Prop := zEE X U ∧ ∃ b, zx X 3 = some b ∧ b < zH X ∧ va_X b L xs U U.heap
def zgL (L : Nat) (xs : Nat → Int32) : zG := (vwCl, ztb, ztl, zEL L xs, fun j => zml[j]?)
abbrev iL_law : zI := (yL_law, cL_law, 4, some .boolean)
theorem zx_scr {L : Nat} {xs : Nat → Int32} : ∀ X U, zEx (zgL L xs) X U → ∃ b, zx X 3 = some b ∧ b < zH X ∧ va_X b L xs U U.heap := fun _ _ h => h.2
theorem dL_law_0 : decode cL_law 0 = .ok (.new 7, 3) := by decide +kernel
theorem dL_law_3 : decode cL_law 3 = .ok (.dup, 1) := by decide +kernel
theorem dL_law_4 : decode cL_law 4 = .ok (.invokespecial 9, 3) := by decide +kernel
theorem dL_law_7 : decode cL_law 7 = .ok (.astore_n 1, 1) := by decide +kernel
theorem dL_law_8 : decode cL_law 8 = .ok (.new 10, 3) := by decide +kernel
theorem dL_law_11 : decode cL_law 11 = .ok (.dup, 1) := by decide +kernel
theorem dL_law_12 : decode cL_law 12 = .ok (.invokespecial 12, 3) := by decide +kernel
theorem dL_law_15 : decode cL_law 15 = .ok (.astore_n 2, 1) := by decide +kernel
theorem dL_law_16 : decode cL_law 16 = .ok (.iconst 0, 1) := by decide +kernel
theorem dL_law_17 : decode cL_law 17 = .ok (.istore_n 3, 1) := by decide +kernel
theorem dL_law_18 : decode cL_law 18 = .ok (.iload_n 3, 1) := by decide +kernel
theorem dL_law_19 : decode cL_law 19 = .ok (.aload_n 0, 1) := by decide +kernel
theorem dL_law_20 : decode cL_law 20 = .ok (.arraylength, 1) := by decide +kernel
theorem dL_law_21 : decode cL_law 21 = .ok (.bipush 6, 2) := by decide +kernel
theorem dL_law_23 : decode cL_law 23 = .ok (.isub, 1) := by decide +kernel
theorem dL_law_24 : decode cL_law 24 = .ok (.if_icmp .gt 1024, 3) := by decide +kernel
theorem dL_law_27 : decode cL_law 27 = .ok (.aload_n 0, 1) := by decide +kernel
theorem dL_law_28 : decode cL_law 28 = .ok (.iload_n 3, 1) := by decide +kernel
theorem dL_law_29 : decode cL_law 29 = .ok (.iaload, 1) := by decide +kernel
theorem dL_law_30 : decode cL_law 30 = .ok (.bipush 31, 2) := by decide +kernel
theorem dL_law_32 : decode cL_law 32 = .ok (.iand, 1) := by decide +kernel
theorem dL_law_33 : decode cL_law 33 = .ok (.tableswitch 1009 0 31 #[143, 206, 229, 242, 265, 288, 331, 374, 407, 440, 483, 506, 539, 572, 605, 618, 641, 664, 677, 700, 733, 756, 779, 802, 825, 868, 881, 904, 937, 950, 973, 986], 143) := by decide +kernel
theorem dL_law_176 : decode cL_law 176 = .ok (.aload_n 1, 1) := by decide +kernel
theorem dL_law_177 : decode cL_law 177 = .ok (.aload_n 0, 1) := by decide +kernel
theorem dL_law_178 : decode cL_law 178 = .ok (.iload_n 3, 1) := by decide +kernel
theorem dL_law_179 : decode cL_law 179 = .ok (.iconst 1, 1) := by decide +kernel
theorem dL_law_180 : decode cL_law 180 = .ok (.iadd, 1) := by decide +kernel
theorem dL_law_181 : decode cL_law 181 = .ok (.iaload, 1) := by decide +kernel
theorem dL_law_182 : decode cL_law 182 = .ok (.aload_n 0, 1) := by decide +kernel
theorem dL_law_183 : decode cL_law 183 = .ok (.iload_n 3, 1) := by decide +kernel
theorem dL_law_184 : decode cL_law 184 = .ok (.iconst 2, 1) := by decide +kernel
theorem dL_law_185 : decode cL_law 185 = .ok (.iadd, 1) := by decide +kernel
theorem dL_law_186 : decode cL_law 186 = .ok (.iaload, 1) := by decide +kernel
theorem dL_law_187 : decode cL_law 187 = .ok (.aload_n 0, 1) := by decide +kernel
theorem dL_law_188 : decode cL_law 188 = .ok (.iload_n 3, 1) := by decide +kernel
theorem dL_law_189 : decode cL_law 189 = .ok (.iconst 3, 1) := by decide +kernel
theorem dL_law_190 : decode cL_law 190 = .ok (.iadd, 1) := by decide +kernel
theorem dL_law_191 : decode cL_law 191 = .ok (.iaload, 1) := by decide +kernel
theorem dL_law_192 : decode cL_law 192 = .ok (.aload_n 0, 1) := by decide +kernel
theorem dL_law_193 : decode cL_law 193 = .ok (.iload_n 3, 1) := by decide +kernel
theorem dL_law_194 : decode cL_law 194 = .ok (.iconst 4, 1) := by decide +kernel
theorem dL_law_195 : decode cL_law 195 = .ok (.iadd, 1) := by decide +kernel
theorem dL_law_196 : decode cL_law 196 = .ok (.iaload, 1) := by decide +kernel
theorem dL_law_197 : decode cL_law 197 = .ok (.aload_n 0, 1) := by decide +kernel
theorem dL_law_198 : decode cL_law 198 = .ok (.iload_n 3, 1) := by decide +kernel
theorem dL_law_199 : decode cL_law 199 = .ok (.iconst 5, 1) := by decide +kernel
theorem dL_law_200 : decode cL_law 200 = .ok (.iadd, 1) := by decide +kernel
theorem dL_law_201 : decode cL_law 201 = .ok (.iaload, 1) := by decide +kernel
theorem dL_law_202 : decode cL_law 202 = .ok (.invokevirtual 13, 3) := by decide +kernel
theorem dL_law_205 : decode cL_law 205 = .ok (.pop, 1) := by decide +kernel
theorem dL_law_206 : decode cL_law 206 = .ok (.aload_n 2, 1) := by decide +kernel
theorem dL_law_207 : decode cL_law 207 = .ok (.aload_n 0, 1) := by decide +kernel
theorem dL_law_208 : decode cL_law 208 = .ok (.iload_n 3, 1) := by decide +kernel
theorem dL_law_209 : decode cL_law 209 = .ok (.iconst 1, 1) := by decide +kernel
theorem dL_law_210 : decode cL_law 210 = .ok (.iadd, 1) := by decide +kernel
theorem dL_law_211 : decode cL_law 211 = .ok (.iaload, 1) := by decide +kernel
theorem dL_law_212 : decode cL_law 212 = .ok (.aload_n 0, 1) := by decide +kernel
theorem dL_law_213 : decode cL_law 213 = .ok (.iload_n 3, 1) := by decide +kernel
theorem dL_law_214 : decode cL_law 214 = .ok (.iconst 2, 1) := by decide +kernel
theorem dL_law_215 : decode cL_law 215 = .ok (.iadd, 1) := by decide +kernel
theorem dL_law_216 : decode cL_law 216 = .ok (.iaload, 1) := by decide +kernel
theorem dL_law_217 : decode cL_law 217 = .ok (.aload_n 0, 1) := by decide +kernel
theorem dL_law_218 : decode cL_law 218 = .ok (.iload_n 3, 1) := by decide +kernel
theorem dL_law_219 : decode cL_law 219 = .ok (.iconst 3, 1) := by decide +kernel
theorem dL_law_220 : decode cL_law 220 = .ok (.iadd, 1) := by decide +kernel
theorem dL_law_221 : decode cL_law 221 = .ok (.iaload, 1) := by decide +kernel
theorem dL_law_222 : decode cL_law 222 = .ok (.aload_n 0, 1) := by decide +kernel
theorem dL_law_223 : decode cL_law 223 = .ok (.iload_n 3, 1) := by decide +kernel
theorem dL_law_224 : decode cL_law 224 = .ok (.iconst 4, 1) := by decide +kernel
theorem dL_law_225 : decode cL_law 225 = .ok (.iadd, 1) := by decide +kernel
theorem dL_law_226 : decode cL_law 226 = .ok (.iaload, 1) := by decide +kernel
theorem dL_law_227 : decode cL_law 227 = .ok (.aload_n 0, 1) := by decide +kernel
theorem dL_law_228 : decode cL_law 228 = .ok (.iload_n 3, 1) := by decide +kernel
theorem dL_law_229 : decode cL_law 229 = .ok (.iconst 5, 1) := by decide +kernel
theorem dL_law_230 : decode cL_law 230 = .ok (.iadd, 1) := by decide +kernel
theorem dL_law_231 : decode cL_law 231 = .ok (.iaload, 1) := by decide +kernel
theorem dL_law_232 : decode cL_law 232 = .ok (.invokevirtual 17, 3) := by decide +kernel
theorem dL_law_235 : decode cL_law 235 = .ok (.pop, 1) := by decide +kernel
theorem dL_law_236 : decode cL_law 236 = .ok (.goto 806, 3) := by decide +kernel
theorem dL_law_239 : decode cL_law 239 = .ok (.aload_n 1, 1) := by decide +kernel
theorem dL_law_240 : decode cL_law 240 = .ok (.aload_n 0, 1) := by decide +kernel
theorem dL_law_241 : decode cL_law 241 = .ok (.iload_n 3, 1) := by decide +kernel
theorem dL_law_242 : decode cL_law 242 = .ok (.iconst 1, 1) := by decide +kernel
theorem dL_law_243 : decode cL_law 243 = .ok (.iadd, 1) := by decide +kernel
theorem dL_law_244 : decode cL_law 244 = .ok (.iaload, 1) := by decide +kernel
theorem dL_law_245 : decode cL_law 245 = .ok (.invokevirtual 18, 3) := by decide +kernel
theorem dL_law_248 : decode cL_law 248 = .ok (.pop, 1) := by decide +kernel
theorem dL_law_249 : decode cL_law 249 = .ok (.aload_n 2, 1) := by decide +kernel
theorem dL_law_250 : decode cL_law 250 = .ok (.aload_n 0, 1) := by decide +kernel
theorem dL_law_251 : decode cL_law 251 = .ok (.iload_n 3, 1) := by decide +kernel
theorem dL_law_252 : decode cL_law 252 = .ok (.iconst 1, 1) := by decide +kernel
theorem dL_law_253 : decode cL_law 253 = .ok (.iadd, 1) := by decide +kernel
theorem dL_law_254 : decode cL_law 254 = .ok (.iaload, 1) := by decide +kernel
theorem dL_law_255 : decode cL_law 255 = .ok (.invokevirtual 22, 3) := by decide +kernel
theorem dL_law_258 : decode cL_law 258 = .ok (.pop, 1) := by decide +kernel
theorem dL_law_259 : decode cL_law 259 = .ok (.goto 783, 3) := by decide +kernel
theorem dL_law_262 : decode cL_law 262 = .ok (.aload_n 1, 1) := by decide +kernel
theorem dL_law_263 : decode cL_law 263 = .ok (.invokevirtual 23, 3) := by decide +kernel
theorem dL_law_266 : decode cL_law 266 = .ok (.pop, 1) := by decide +kernel
theorem dL_law_267 : decode cL_law 267 = .ok (.aload_n 2, 1) := by decide +kernel
theorem dL_law_268 : decode cL_law 268 = .ok (.invokevirtual 27, 3) := by decide +kernel
theorem dL_law_271 : decode cL_law 271 = .ok (.pop, 1) := by decide +kernel
theorem dL_law_272 : decode cL_law 272 = .ok (.goto 770, 3) := by decide +kernel
theorem dL_law_275 : decode cL_law 275 = .ok (.aload_n 1, 1) := by decide +kernel
theorem dL_law_276 : decode cL_law 276 = .ok (.aload_n 0, 1) := by decide +kernel
theorem dL_law_277 : decode cL_law 277 = .ok (.iload_n 3, 1) := by decide +kernel
theorem dL_law_278 : decode cL_law 278 = .ok (.iconst 1, 1) := by decide +kernel
theorem dL_law_279 : decode cL_law 279 = .ok (.iadd, 1) := by decide +kernel
theorem dL_law_280 : decode cL_law 280 = .ok (.iaload, 1) := by decide +kernel
theorem dL_law_281 : decode cL_law 281 = .ok (.invokevirtual 28, 3) := by decide +kernel
theorem dL_law_284 : decode cL_law 284 = .ok (.pop, 1) := by decide +kernel
theorem dL_law_285 : decode cL_law 285 = .ok (.aload_n 2, 1) := by decide +kernel
theorem dL_law_286 : decode cL_law 286 = .ok (.aload_n 0, 1) := by decide +kernel
theorem dL_law_287 : decode cL_law 287 = .ok (.iload_n 3, 1) := by decide +kernel
theorem dL_law_288 : decode cL_law 288 = .ok (.iconst 1, 1) := by decide +kernel
theorem dL_law_289 : decode cL_law 289 = .ok (.iadd, 1) := by decide +kernel
theorem dL_law_290 : decode cL_law 290 = .ok (.iaload, 1) := by decide +kernel
theorem dL_law_291 : decode cL_law 291 = .ok (.invokevirtual 32, 3) := by decide +kernel
theorem dL_law_294 : decode cL_law 294 = .ok (.pop, 1) := by decide +kernel
theorem dL_law_295 : decode cL_law 295 = .ok (.goto 747, 3) := by decide +kernel
theorem dL_law_298 : decode cL_law 298 = .ok (.aload_n 1, 1) := by decide +kernel
theorem dL_law_299 : decode cL_law 299 = .ok (.aload_n 0, 1) := by decide +kernel
theorem dL_law_300 : decode cL_law 300 = .ok (.iload_n 3, 1) := by decide +kernel
theorem dL_law_301 : decode cL_law 301 = .ok (.iconst 1, 1) := by decide +kernel
theorem dL_law_302 : decode cL_law 302 = .ok (.iadd, 1) := by decide +kernel
theorem dL_law_303 : decode cL_law 303 = .ok (.iaload, 1) := by decide +kernel
theorem dL_law_304 : decode cL_law 304 = .ok (.invokevirtual 33, 3) := by decide +kernel
theorem dL_law_307 : decode cL_law 307 = .ok (.pop, 1) := by decide +kernel
theorem dL_law_308 : decode cL_law 308 = .ok (.aload_n 2, 1) := by decide +kernel
theorem dL_law_309 : decode cL_law 309 = .ok (.aload_n 0, 1) := by decide +kernel
theorem dL_law_310 : decode cL_law 310 = .ok (.iload_n 3, 1) := by decide +kernel
theorem dL_law_311 : decode cL_law 311 = .ok (.iconst 1, 1) := by decide +kernel
theorem dL_law_312 : decode cL_law 312 = .ok (.iadd, 1) := by decide +kernel
theorem dL_law_313 : decode cL_law 313 = .ok (.iaload, 1) := by decide +kernel
theorem dL_law_314 : decode cL_law 314 = .ok (.invokevirtual 36, 3) := by decide +kernel
theorem dL_law_317 : decode cL_law 317 = .ok (.pop, 1) := by decide +kernel
theorem dL_law_318 : decode cL_law 318 = .ok (.goto 724, 3) := by decide +kernel
theorem dL_law_321 : decode cL_law 321 = .ok (.aload_n 1, 1) := by decide +kernel
theorem dL_law_322 : decode cL_law 322 = .ok (.aload_n 0, 1) := by decide +kernel
theorem dL_law_323 : decode cL_law 323 = .ok (.iload_n 3, 1) := by decide +kernel
theorem dL_law_324 : decode cL_law 324 = .ok (.iconst 1, 1) := by decide +kernel
theorem dL_law_325 : decode cL_law 325 = .ok (.iadd, 1) := by decide +kernel
theorem dL_law_326 : decode cL_law 326 = .ok (.iaload, 1) := by decide +kernel
theorem dL_law_327 : decode cL_law 327 = .ok (.aload_n 0, 1) := by decide +kernel
theorem dL_law_328 : decode cL_law 328 = .ok (.iload_n 3, 1) := by decide +kernel
theorem dL_law_329 : decode cL_law 329 = .ok (.iconst 2, 1) := by decide +kernel
theorem dL_law_330 : decode cL_law 330 = .ok (.iadd, 1) := by decide +kernel
theorem dL_law_331 : decode cL_law 331 = .ok (.iaload, 1) := by decide +kernel
theorem dL_law_332 : decode cL_law 332 = .ok (.aload_n 0, 1) := by decide +kernel
theorem dL_law_333 : decode cL_law 333 = .ok (.iload_n 3, 1) := by decide +kernel
theorem dL_law_334 : decode cL_law 334 = .ok (.iconst 3, 1) := by decide +kernel
theorem dL_law_335 : decode cL_law 335 = .ok (.iadd, 1) := by decide +kernel
theorem dL_law_336 : decode cL_law 336 = .ok (.iaload, 1) := by decide +kernel
theorem dL_law_337 : decode cL_law 337 = .ok (.invokevirtual 37, 3) := by decide +kernel
theorem dL_law_340 : decode cL_law 340 = .ok (.pop, 1) := by decide +kernel
theorem dL_law_341 : decode cL_law 341 = .ok (.aload_n 2, 1) := by decide +kernel
theorem dL_law_342 : decode cL_law 342 = .ok (.aload_n 0, 1) := by decide +kernel
theorem dL_law_343 : decode cL_law 343 = .ok (.iload_n 3, 1) := by decide +kernel
theorem dL_law_344 : decode cL_law 344 = .ok (.iconst 1, 1) := by decide +kernel
theorem dL_law_345 : decode cL_law 345 = .ok (.iadd, 1) := by decide +kernel
theorem dL_law_346 : decode cL_law 346 = .ok (.iaload, 1) := by decide +kernel
theorem dL_law_347 : decode cL_law 347 = .ok (.aload_n 0, 1) := by decide +kernel
theorem dL_law_348 : decode cL_law 348 = .ok (.iload_n 3, 1) := by decide +kernel
theorem dL_law_349 : decode cL_law 349 = .ok (.iconst 2, 1) := by decide +kernel
theorem dL_law_350 : decode cL_law 350 = .ok (.iadd, 1) := by decide +kernel
theorem dL_law_351 : decode cL_law 351 = .ok (.iaload, 1) := by decide +kernel
theorem dL_law_352 : decode cL_law 352 = .ok (.aload_n 0, 1) := by decide +kernel
theorem dL_law_353 : decode cL_law 353 = .ok (.iload_n 3, 1) := by decide +kernel
theorem dL_law_354 : decode cL_law 354 = .ok (.iconst 3, 1) := by decide +kernel
theorem dL_law_355 : decode cL_law 355 = .ok (.iadd, 1) := by decide +kernel
theorem dL_law_356 : decode cL_law 356 = .ok (.iaload, 1) := by decide +kernel
theorem dL_law_357 : decode cL_law 357 = .ok (.invokevirtual 41, 3) := by decide +kernel
theorem dL_law_360 : decode cL_law 360 = .ok (.pop, 1) := by decide +kernel
theorem dL_law_361 : decode cL_law 361 = .ok (.goto 681, 3) := by decide +kernel
theorem dL_law_364 : decode cL_law 364 = .ok (.aload_n 1, 1) := by decide +kernel
theorem dL_law_365 : decode cL_law 365 = .ok (.aload_n 0, 1) := by decide +kernel
theorem dL_law_366 : decode cL_law 366 = .ok (.iload_n 3, 1) := by decide +kernel
theorem dL_law_367 : decode cL_law 367 = .ok (.iconst 1, 1) := by decide +kernel
theorem dL_law_368 : decode cL_law 368 = .ok (.iadd, 1) := by decide +kernel
theorem dL_law_369 : decode cL_law 369 = .ok (.iaload, 1) := by decide +kernel
theorem dL_law_370 : decode cL_law 370 = .ok (.aload_n 0, 1) := by decide +kernel
theorem dL_law_371 : decode cL_law 371 = .ok (.iload_n 3, 1) := by decide +kernel
theorem dL_law_372 : decode cL_law 372 = .ok (.iconst 2, 1) := by decide +kernel
theorem dL_law_373 : decode cL_law 373 = .ok (.iadd, 1) := by decide +kernel
theorem dL_law_374 : decode cL_law 374 = .ok (.iaload, 1) := by decide +kernel
theorem dL_law_375 : decode cL_law 375 = .ok (.aload_n 0, 1) := by decide +kernel
theorem dL_law_376 : decode cL_law 376 = .ok (.iload_n 3, 1) := by decide +kernel
theorem dL_law_377 : decode cL_law 377 = .ok (.iconst 3, 1) := by decide +kernel
theorem dL_law_378 : decode cL_law 378 = .ok (.iadd, 1) := by decide +kernel
theorem dL_law_379 : decode cL_law 379 = .ok (.iaload, 1) := by decide +kernel
theorem dL_law_380 : decode cL_law 380 = .ok (.invokevirtual 42, 3) := by decide +kernel
theorem dL_law_383 : decode cL_law 383 = .ok (.pop, 1) := by decide +kernel
theorem dL_law_384 : decode cL_law 384 = .ok (.aload_n 2, 1) := by decide +kernel
theorem dL_law_385 : decode cL_law 385 = .ok (.aload_n 0, 1) := by decide +kernel
theorem dL_law_386 : decode cL_law 386 = .ok (.iload_n 3, 1) := by decide +kernel
theorem dL_law_387 : decode cL_law 387 = .ok (.iconst 1, 1) := by decide +kernel
theorem dL_law_388 : decode cL_law 388 = .ok (.iadd, 1) := by decide +kernel
theorem dL_law_389 : decode cL_law 389 = .ok (.iaload, 1) := by decide +kernel
theorem dL_law_390 : decode cL_law 390 = .ok (.aload_n 0, 1) := by decide +kernel
theorem dL_law_391 : decode cL_law 391 = .ok (.iload_n 3, 1) := by decide +kernel
theorem dL_law_392 : decode cL_law 392 = .ok (.iconst 2, 1) := by decide +kernel
theorem dL_law_393 : decode cL_law 393 = .ok (.iadd, 1) := by decide +kernel
theorem dL_law_394 : decode cL_law 394 = .ok (.iaload, 1) := by decide +kernel
theorem dL_law_395 : decode cL_law 395 = .ok (.aload_n 0, 1) := by decide +kernel
theorem dL_law_396 : decode cL_law 396 = .ok (.iload_n 3, 1) := by decide +kernel
theorem dL_law_397 : decode cL_law 397 = .ok (.iconst 3, 1) := by decide +kernel
theorem dL_law_398 : decode cL_law 398 = .ok (.iadd, 1) := by decide +kernel
theorem dL_law_399 : decode cL_law 399 = .ok (.iaload, 1) := by decide +kernel
theorem dL_law_400 : decode cL_law 400 = .ok (.invokevirtual 45, 3) := by decide +kernel
theorem dL_law_403 : decode cL_law 403 = .ok (.pop, 1) := by decide +kernel
theorem dL_law_404 : decode cL_law 404 = .ok (.goto 638, 3) := by decide +kernel
theorem dL_law_407 : decode cL_law 407 = .ok (.aload_n 1, 1) := by decide +kernel
theorem dL_law_408 : decode cL_law 408 = .ok (.aload_n 0, 1) := by decide +kernel
theorem dL_law_409 : decode cL_law 409 = .ok (.iload_n 3, 1) := by decide +kernel
theorem dL_law_410 : decode cL_law 410 = .ok (.iconst 1, 1) := by decide +kernel
theorem dL_law_411 : decode cL_law 411 = .ok (.iadd, 1) := by decide +kernel
theorem dL_law_412 : decode cL_law 412 = .ok (.iaload, 1) := by decide +kernel
theorem dL_law_413 : decode cL_law 413 = .ok (.aload_n 0, 1) := by decide +kernel
theorem dL_law_414 : decode cL_law 414 = .ok (.iload_n 3, 1) := by decide +kernel
theorem dL_law_415 : decode cL_law 415 = .ok (.iconst 2, 1) := by decide +kernel
theorem dL_law_416 : decode cL_law 416 = .ok (.iadd, 1) := by decide +kernel
theorem dL_law_417 : decode cL_law 417 = .ok (.iaload, 1) := by decide +kernel
theorem dL_law_418 : decode cL_law 418 = .ok (.invokevirtual 46, 3) := by decide +kernel
theorem dL_law_421 : decode cL_law 421 = .ok (.pop, 1) := by decide +kernel
theorem dL_law_422 : decode cL_law 422 = .ok (.aload_n 2, 1) := by decide +kernel
theorem dL_law_423 : decode cL_law 423 = .ok (.aload_n 0, 1) := by decide +kernel
theorem dL_law_424 : decode cL_law 424 = .ok (.iload_n 3, 1) := by decide +kernel
theorem dL_law_425 : decode cL_law 425 = .ok (.iconst 1, 1) := by decide +kernel
theorem dL_law_426 : decode cL_law 426 = .ok (.iadd, 1) := by decide +kernel
theorem dL_law_427 : decode cL_law 427 = .ok (.iaload, 1) := by decide +kernel
theorem dL_law_428 : decode cL_law 428 = .ok (.aload_n 0, 1) := by decide +kernel
theorem dL_law_429 : decode cL_law 429 = .ok (.iload_n 3, 1) := by decide +kernel
theorem dL_law_430 : decode cL_law 430 = .ok (.iconst 2, 1) := by decide +kernel
theorem dL_law_431 : decode cL_law 431 = .ok (.iadd, 1) := by decide +kernel
theorem dL_law_432 : decode cL_law 432 = .ok (.iaload, 1) := by decide +kernel
theorem dL_law_433 : decode cL_law 433 = .ok (.invokevirtual 50, 3) := by decide +kernel
theorem dL_law_436 : decode cL_law 436 = .ok (.pop, 1) := by decide +kernel
theorem dL_law_437 : decode cL_law 437 = .ok (.goto 605, 3) := by decide +kernel
theorem dL_law_440 : decode cL_law 440 = .ok (.aload_n 1, 1) := by decide +kernel
theorem dL_law_441 : decode cL_law 441 = .ok (.aload_n 0, 1) := by decide +kernel
theorem dL_law_442 : decode cL_law 442 = .ok (.iload_n 3, 1) := by decide +kernel
theorem dL_law_443 : decode cL_law 443 = .ok (.iconst 1, 1) := by decide +kernel
theorem dL_law_444 : decode cL_law 444 = .ok (.iadd, 1) := by decide +kernel
theorem dL_law_445 : decode cL_law 445 = .ok (.iaload, 1) := by decide +kernel
theorem dL_law_446 : decode cL_law 446 = .ok (.aload_n 0, 1) := by decide +kernel
theorem dL_law_447 : decode cL_law 447 = .ok (.iload_n 3, 1) := by decide +kernel
theorem dL_law_448 : decode cL_law 448 = .ok (.iconst 2, 1) := by decide +kernel
theorem dL_law_449 : decode cL_law 449 = .ok (.iadd, 1) := by decide +kernel
theorem dL_law_450 : decode cL_law 450 = .ok (.iaload, 1) := by decide +kernel
theorem dL_law_451 : decode cL_law 451 = .ok (.invokevirtual 51, 3) := by decide +kernel
theorem dL_law_454 : decode cL_law 454 = .ok (.pop, 1) := by decide +kernel
theorem dL_law_455 : decode cL_law 455 = .ok (.aload_n 2, 1) := by decide +kernel
theorem dL_law_456 : decode cL_law 456 = .ok (.aload_n 0, 1) := by decide +kernel
theorem dL_law_457 : decode cL_law 457 = .ok (.iload_n 3, 1) := by decide +kernel
theorem dL_law_458 : decode cL_law 458 = .ok (.iconst 1, 1) := by decide +kernel
theorem dL_law_459 : decode cL_law 459 = .ok (.iadd, 1) := by decide +kernel
theorem dL_law_460 : decode cL_law 460 = .ok (.iaload, 1) := by decide +kernel
theorem dL_law_461 : decode cL_law 461 = .ok (.aload_n 0, 1) := by decide +kernel
theorem dL_law_462 : decode cL_law 462 = .ok (.iload_n 3, 1) := by decide +kernel
theorem dL_law_463 : decode cL_law 463 = .ok (.iconst 2, 1) := by decide +kernel
theorem dL_law_464 : decode cL_law 464 = .ok (.iadd, 1) := by decide +kernel
theorem dL_law_465 : decode cL_law 465 = .ok (.iaload, 1) := by decide +kernel
theorem dL_law_466 : decode cL_law 466 = .ok (.invokevirtual 54, 3) := by decide +kernel
theorem dL_law_469 : decode cL_law 469 = .ok (.pop, 1) := by decide +kernel
theorem dL_law_470 : decode cL_law 470 = .ok (.goto 572, 3) := by decide +kernel
theorem dL_law_473 : decode cL_law 473 = .ok (.aload_n 1, 1) := by decide +kernel
theorem dL_law_474 : decode cL_law 474 = .ok (.aload_n 0, 1) := by decide +kernel
theorem dL_law_475 : decode cL_law 475 = .ok (.iload_n 3, 1) := by decide +kernel
theorem dL_law_476 : decode cL_law 476 = .ok (.iconst 1, 1) := by decide +kernel
theorem dL_law_477 : decode cL_law 477 = .ok (.iadd, 1) := by decide +kernel
theorem dL_law_478 : decode cL_law 478 = .ok (.iaload, 1) := by decide +kernel
theorem dL_law_479 : decode cL_law 479 = .ok (.aload_n 0, 1) := by decide +kernel
theorem dL_law_480 : decode cL_law 480 = .ok (.iload_n 3, 1) := by decide +kernel
theorem dL_law_481 : decode cL_law 481 = .ok (.iconst 2, 1) := by decide +kernel
theorem dL_law_482 : decode cL_law 482 = .ok (.iadd, 1) := by decide +kernel
theorem dL_law_483 : decode cL_law 483 = .ok (.iaload, 1) := by decide +kernel
theorem dL_law_484 : decode cL_law 484 = .ok (.aload_n 0, 1) := by decide +kernel
theorem dL_law_485 : decode cL_law 485 = .ok (.iload_n 3, 1) := by decide +kernel
theorem dL_law_486 : decode cL_law 486 = .ok (.iconst 3, 1) := by decide +kernel
theorem dL_law_487 : decode cL_law 487 = .ok (.iadd, 1) := by decide +kernel
theorem dL_law_488 : decode cL_law 488 = .ok (.iaload, 1) := by decide +kernel
theorem dL_law_489 : decode cL_law 489 = .ok (.invokevirtual 55, 3) := by decide +kernel
theorem dL_law_492 : decode cL_law 492 = .ok (.pop, 1) := by decide +kernel
theorem dL_law_493 : decode cL_law 493 = .ok (.aload_n 2, 1) := by decide +kernel
theorem dL_law_494 : decode cL_law 494 = .ok (.aload_n 0, 1) := by decide +kernel
theorem dL_law_495 : decode cL_law 495 = .ok (.iload_n 3, 1) := by decide +kernel
theorem dL_law_496 : decode cL_law 496 = .ok (.iconst 1, 1) := by decide +kernel
theorem dL_law_497 : decode cL_law 497 = .ok (.iadd, 1) := by decide +kernel
theorem dL_law_498 : decode cL_law 498 = .ok (.iaload, 1) := by decide +kernel
theorem dL_law_499 : decode cL_law 499 = .ok (.aload_n 0, 1) := by decide +kernel
theorem dL_law_500 : decode cL_law 500 = .ok (.iload_n 3, 1) := by decide +kernel
theorem dL_law_501 : decode cL_law 501 = .ok (.iconst 2, 1) := by decide +kernel
theorem dL_law_502 : decode cL_law 502 = .ok (.iadd, 1) := by decide +kernel
theorem dL_law_503 : decode cL_law 503 = .ok (.iaload, 1) := by decide +kernel
theorem dL_law_504 : decode cL_law 504 = .ok (.aload_n 0, 1) := by decide +kernel
theorem dL_law_505 : decode cL_law 505 = .ok (.iload_n 3, 1) := by decide +kernel
theorem dL_law_506 : decode cL_law 506 = .ok (.iconst 3, 1) := by decide +kernel
theorem dL_law_507 : decode cL_law 507 = .ok (.iadd, 1) := by decide +kernel
theorem dL_law_508 : decode cL_law 508 = .ok (.iaload, 1) := by decide +kernel
theorem dL_law_509 : decode cL_law 509 = .ok (.invokevirtual 58, 3) := by decide +kernel
theorem dL_law_512 : decode cL_law 512 = .ok (.pop, 1) := by decide +kernel
theorem dL_law_513 : decode cL_law 513 = .ok (.goto 529, 3) := by decide +kernel
theorem dL_law_516 : decode cL_law 516 = .ok (.aload_n 1, 1) := by decide +kernel
theorem dL_law_517 : decode cL_law 517 = .ok (.aload_n 0, 1) := by decide +kernel
theorem dL_law_518 : decode cL_law 518 = .ok (.iload_n 3, 1) := by decide +kernel
theorem dL_law_519 : decode cL_law 519 = .ok (.iconst 1, 1) := by decide +kernel
theorem dL_law_520 : decode cL_law 520 = .ok (.iadd, 1) := by decide +kernel
theorem dL_law_521 : decode cL_law 521 = .ok (.iaload, 1) := by decide +kernel
theorem dL_law_522 : decode cL_law 522 = .ok (.invokevirtual 59, 3) := by decide +kernel
theorem dL_law_525 : decode cL_law 525 = .ok (.pop, 1) := by decide +kernel
theorem dL_law_526 : decode cL_law 526 = .ok (.aload_n 2, 1) := by decide +kernel
theorem dL_law_527 : decode cL_law 527 = .ok (.aload_n 0, 1) := by decide +kernel
theorem dL_law_528 : decode cL_law 528 = .ok (.iload_n 3, 1) := by decide +kernel
theorem dL_law_529 : decode cL_law 529 = .ok (.iconst 1, 1) := by decide +kernel
theorem dL_law_530 : decode cL_law 530 = .ok (.iadd, 1) := by decide +kernel
theorem dL_law_531 : decode cL_law 531 = .ok (.iaload, 1) := by decide +kernel
theorem dL_law_532 : decode cL_law 532 = .ok (.invokevirtual 62, 3) := by decide +kernel
theorem dL_law_535 : decode cL_law 535 = .ok (.pop, 1) := by decide +kernel
theorem dL_law_536 : decode cL_law 536 = .ok (.goto 506, 3) := by decide +kernel
theorem dL_law_539 : decode cL_law 539 = .ok (.aload_n 1, 1) := by decide +kernel
theorem dL_law_540 : decode cL_law 540 = .ok (.aload_n 0, 1) := by decide +kernel
theorem dL_law_541 : decode cL_law 541 = .ok (.iload_n 3, 1) := by decide +kernel
theorem dL_law_542 : decode cL_law 542 = .ok (.iconst 1, 1) := by decide +kernel
theorem dL_law_543 : decode cL_law 543 = .ok (.iadd, 1) := by decide +kernel
theorem dL_law_544 : decode cL_law 544 = .ok (.iaload, 1) := by decide +kernel
theorem dL_law_545 : decode cL_law 545 = .ok (.aload_n 0, 1) := by decide +kernel
theorem dL_law_546 : decode cL_law 546 = .ok (.iload_n 3, 1) := by decide +kernel
theorem dL_law_547 : decode cL_law 547 = .ok (.iconst 2, 1) := by decide +kernel
theorem dL_law_548 : decode cL_law 548 = .ok (.iadd, 1) := by decide +kernel
theorem dL_law_549 : decode cL_law 549 = .ok (.iaload, 1) := by decide +kernel
theorem dL_law_550 : decode cL_law 550 = .ok (.invokevirtual 63, 3) := by decide +kernel
theorem dL_law_553 : decode cL_law 553 = .ok (.pop, 1) := by decide +kernel
theorem dL_law_554 : decode cL_law 554 = .ok (.aload_n 2, 1) := by decide +kernel
theorem dL_law_555 : decode cL_law 555 = .ok (.aload_n 0, 1) := by decide +kernel
theorem dL_law_556 : decode cL_law 556 = .ok (.iload_n 3, 1) := by decide +kernel
theorem dL_law_557 : decode cL_law 557 = .ok (.iconst 1, 1) := by decide +kernel
theorem dL_law_558 : decode cL_law 558 = .ok (.iadd, 1) := by decide +kernel
theorem dL_law_559 : decode cL_law 559 = .ok (.iaload, 1) := by decide +kernel
theorem dL_law_560 : decode cL_law 560 = .ok (.aload_n 0, 1) := by decide +kernel
theorem dL_law_561 : decode cL_law 561 = .ok (.iload_n 3, 1) := by decide +kernel
theorem dL_law_562 : decode cL_law 562 = .ok (.iconst 2, 1) := by decide +kernel
theorem dL_law_563 : decode cL_law 563 = .ok (.iadd, 1) := by decide +kernel
theorem dL_law_564 : decode cL_law 564 = .ok (.iaload, 1) := by decide +kernel
theorem dL_law_565 : decode cL_law 565 = .ok (.invokevirtual 66, 3) := by decide +kernel
theorem dL_law_568 : decode cL_law 568 = .ok (.pop, 1) := by decide +kernel
theorem dL_law_569 : decode cL_law 569 = .ok (.goto 473, 3) := by decide +kernel
theorem dL_law_572 : decode cL_law 572 = .ok (.aload_n 1, 1) := by decide +kernel
theorem dL_law_573 : decode cL_law 573 = .ok (.aload_n 0, 1) := by decide +kernel
theorem dL_law_574 : decode cL_law 574 = .ok (.iload_n 3, 1) := by decide +kernel
theorem dL_law_575 : decode cL_law 575 = .ok (.iconst 1, 1) := by decide +kernel
theorem dL_law_576 : decode cL_law 576 = .ok (.iadd, 1) := by decide +kernel
theorem dL_law_577 : decode cL_law 577 = .ok (.iaload, 1) := by decide +kernel
theorem dL_law_578 : decode cL_law 578 = .ok (.aload_n 0, 1) := by decide +kernel
theorem dL_law_579 : decode cL_law 579 = .ok (.iload_n 3, 1) := by decide +kernel
theorem dL_law_580 : decode cL_law 580 = .ok (.iconst 2, 1) := by decide +kernel
theorem dL_law_581 : decode cL_law 581 = .ok (.iadd, 1) := by decide +kernel
theorem dL_law_582 : decode cL_law 582 = .ok (.iaload, 1) := by decide +kernel
theorem dL_law_583 : decode cL_law 583 = .ok (.invokevirtual 67, 3) := by decide +kernel
theorem dL_law_586 : decode cL_law 586 = .ok (.pop, 1) := by decide +kernel
theorem dL_law_587 : decode cL_law 587 = .ok (.aload_n 2, 1) := by decide +kernel
theorem dL_law_588 : decode cL_law 588 = .ok (.aload_n 0, 1) := by decide +kernel
theorem dL_law_589 : decode cL_law 589 = .ok (.iload_n 3, 1) := by decide +kernel
theorem dL_law_590 : decode cL_law 590 = .ok (.iconst 1, 1) := by decide +kernel
theorem dL_law_591 : decode cL_law 591 = .ok (.iadd, 1) := by decide +kernel
theorem dL_law_592 : decode cL_law 592 = .ok (.iaload, 1) := by decide +kernel
theorem dL_law_593 : decode cL_law 593 = .ok (.aload_n 0, 1) := by decide +kernel
theorem dL_law_594 : decode cL_law 594 = .ok (.iload_n 3, 1) := by decide +kernel
theorem dL_law_595 : decode cL_law 595 = .ok (.iconst 2, 1) := by decide +kernel
theorem dL_law_596 : decode cL_law 596 = .ok (.iadd, 1) := by decide +kernel
theorem dL_law_597 : decode cL_law 597 = .ok (.iaload, 1) := by decide +kernel
theorem dL_law_598 : decode cL_law 598 = .ok (.invokevirtual 70, 3) := by decide +kernel
theorem dL_law_601 : decode cL_law 601 = .ok (.pop, 1) := by decide +kernel
theorem dL_law_602 : decode cL_law 602 = .ok (.goto 440, 3) := by decide +kernel
theorem dL_law_605 : decode cL_law 605 = .ok (.aload_n 1, 1) := by decide +kernel
theorem dL_law_606 : decode cL_law 606 = .ok (.aload_n 0, 1) := by decide +kernel
theorem dL_law_607 : decode cL_law 607 = .ok (.iload_n 3, 1) := by decide +kernel
theorem dL_law_608 : decode cL_law 608 = .ok (.iconst 1, 1) := by decide +kernel
theorem dL_law_609 : decode cL_law 609 = .ok (.iadd, 1) := by decide +kernel
theorem dL_law_610 : decode cL_law 610 = .ok (.iaload, 1) := by decide +kernel
theorem dL_law_611 : decode cL_law 611 = .ok (.aload_n 0, 1) := by decide +kernel
theorem dL_law_612 : decode cL_law 612 = .ok (.iload_n 3, 1) := by decide +kernel
theorem dL_law_613 : decode cL_law 613 = .ok (.iconst 2, 1) := by decide +kernel
theorem dL_law_614 : decode cL_law 614 = .ok (.iadd, 1) := by decide +kernel
theorem dL_law_615 : decode cL_law 615 = .ok (.iaload, 1) := by decide +kernel
theorem dL_law_616 : decode cL_law 616 = .ok (.invokevirtual 71, 3) := by decide +kernel
theorem dL_law_619 : decode cL_law 619 = .ok (.pop, 1) := by decide +kernel
theorem dL_law_620 : decode cL_law 620 = .ok (.aload_n 2, 1) := by decide +kernel
theorem dL_law_621 : decode cL_law 621 = .ok (.aload_n 0, 1) := by decide +kernel
theorem dL_law_622 : decode cL_law 622 = .ok (.iload_n 3, 1) := by decide +kernel
theorem dL_law_623 : decode cL_law 623 = .ok (.iconst 1, 1) := by decide +kernel
theorem dL_law_624 : decode cL_law 624 = .ok (.iadd, 1) := by decide +kernel
theorem dL_law_625 : decode cL_law 625 = .ok (.iaload, 1) := by decide +kernel
theorem dL_law_626 : decode cL_law 626 = .ok (.aload_n 0, 1) := by decide +kernel
theorem dL_law_627 : decode cL_law 627 = .ok (.iload_n 3, 1) := by decide +kernel
theorem dL_law_628 : decode cL_law 628 = .ok (.iconst 2, 1) := by decide +kernel
theorem dL_law_629 : decode cL_law 629 = .ok (.iadd, 1) := by decide +kernel
theorem dL_law_630 : decode cL_law 630 = .ok (.iaload, 1) := by decide +kernel
theorem dL_law_631 : decode cL_law 631 = .ok (.invokevirtual 74, 3) := by decide +kernel
theorem dL_law_634 : decode cL_law 634 = .ok (.pop, 1) := by decide +kernel
theorem dL_law_635 : decode cL_law 635 = .ok (.goto 407, 3) := by decide +kernel
theorem dL_law_638 : decode cL_law 638 = .ok (.aload_n 1, 1) := by decide +kernel
theorem dL_law_639 : decode cL_law 639 = .ok (.invokevirtual 75, 3) := by decide +kernel
theorem dL_law_642 : decode cL_law 642 = .ok (.pop, 1) := by decide +kernel
theorem dL_law_643 : decode cL_law 643 = .ok (.aload_n 2, 1) := by decide +kernel
theorem dL_law_644 : decode cL_law 644 = .ok (.invokevirtual 78, 3) := by decide +kernel
theorem dL_law_647 : decode cL_law 647 = .ok (.pop, 1) := by decide +kernel
theorem dL_law_648 : decode cL_law 648 = .ok (.goto 394, 3) := by decide +kernel
theorem dL_law_651 : decode cL_law 651 = .ok (.aload_n 1, 1) := by decide +kernel
theorem dL_law_652 : decode cL_law 652 = .ok (.aload_n 0, 1) := by decide +kernel
theorem dL_law_653 : decode cL_law 653 = .ok (.iload_n 3, 1) := by decide +kernel
theorem dL_law_654 : decode cL_law 654 = .ok (.iconst 1, 1) := by decide +kernel
theorem dL_law_655 : decode cL_law 655 = .ok (.iadd, 1) := by decide +kernel
theorem dL_law_656 : decode cL_law 656 = .ok (.iaload, 1) := by decide +kernel
theorem dL_law_657 : decode cL_law 657 = .ok (.invokevirtual 79, 3) := by decide +kernel
theorem dL_law_660 : decode cL_law 660 = .ok (.pop, 1) := by decide +kernel
theorem dL_law_661 : decode cL_law 661 = .ok (.aload_n 2, 1) := by decide +kernel
theorem dL_law_662 : decode cL_law 662 = .ok (.aload_n 0, 1) := by decide +kernel
theorem dL_law_663 : decode cL_law 663 = .ok (.iload_n 3, 1) := by decide +kernel
theorem dL_law_664 : decode cL_law 664 = .ok (.iconst 1, 1) := by decide +kernel
theorem dL_law_665 : decode cL_law 665 = .ok (.iadd, 1) := by decide +kernel
theorem dL_law_666 : decode cL_law 666 = .ok (.iaload, 1) := by decide +kernel
theorem dL_law_667 : decode cL_law 667 = .ok (.invokevirtual 82, 3) := by decide +kernel
theorem dL_law_670 : decode cL_law 670 = .ok (.pop, 1) := by decide +kernel
theorem dL_law_671 : decode cL_law 671 = .ok (.goto 371, 3) := by decide +kernel
theorem dL_law_674 : decode cL_law 674 = .ok (.aload_n 1, 1) := by decide +kernel
theorem dL_law_675 : decode cL_law 675 = .ok (.aload_n 0, 1) := by decide +kernel
theorem dL_law_676 : decode cL_law 676 = .ok (.iload_n 3, 1) := by decide +kernel
theorem dL_law_677 : decode cL_law 677 = .ok (.iconst 1, 1) := by decide +kernel
theorem dL_law_678 : decode cL_law 678 = .ok (.iadd, 1) := by decide +kernel
theorem dL_law_679 : decode cL_law 679 = .ok (.iaload, 1) := by decide +kernel
theorem dL_law_680 : decode cL_law 680 = .ok (.invokevirtual 83, 3) := by decide +kernel
theorem dL_law_683 : decode cL_law 683 = .ok (.pop, 1) := by decide +kernel
theorem dL_law_684 : decode cL_law 684 = .ok (.aload_n 2, 1) := by decide +kernel
theorem dL_law_685 : decode cL_law 685 = .ok (.aload_n 0, 1) := by decide +kernel
theorem dL_law_686 : decode cL_law 686 = .ok (.iload_n 3, 1) := by decide +kernel
theorem dL_law_687 : decode cL_law 687 = .ok (.iconst 1, 1) := by decide +kernel
theorem dL_law_688 : decode cL_law 688 = .ok (.iadd, 1) := by decide +kernel
theorem dL_law_689 : decode cL_law 689 = .ok (.iaload, 1) := by decide +kernel
theorem dL_law_690 : decode cL_law 690 = .ok (.invokevirtual 86, 3) := by decide +kernel
theorem dL_law_693 : decode cL_law 693 = .ok (.pop, 1) := by decide +kernel
theorem dL_law_694 : decode cL_law 694 = .ok (.goto 348, 3) := by decide +kernel
theorem dL_law_697 : decode cL_law 697 = .ok (.aload_n 1, 1) := by decide +kernel
theorem dL_law_698 : decode cL_law 698 = .ok (.invokevirtual 87, 3) := by decide +kernel
theorem dL_law_701 : decode cL_law 701 = .ok (.pop, 1) := by decide +kernel
theorem dL_law_702 : decode cL_law 702 = .ok (.aload_n 2, 1) := by decide +kernel
theorem dL_law_703 : decode cL_law 703 = .ok (.invokevirtual 90, 3) := by decide +kernel
theorem dL_law_706 : decode cL_law 706 = .ok (.pop, 1) := by decide +kernel
theorem dL_law_707 : decode cL_law 707 = .ok (.goto 335, 3) := by decide +kernel
theorem dL_law_710 : decode cL_law 710 = .ok (.aload_n 1, 1) := by decide +kernel
theorem dL_law_711 : decode cL_law 711 = .ok (.aload_n 0, 1) := by decide +kernel
theorem dL_law_712 : decode cL_law 712 = .ok (.iload_n 3, 1) := by decide +kernel
theorem dL_law_713 : decode cL_law 713 = .ok (.iconst 1, 1) := by decide +kernel
theorem dL_law_714 : decode cL_law 714 = .ok (.iadd, 1) := by decide +kernel
theorem dL_law_715 : decode cL_law 715 = .ok (.iaload, 1) := by decide +kernel
theorem dL_law_716 : decode cL_law 716 = .ok (.invokevirtual 91, 3) := by decide +kernel
theorem dL_law_719 : decode cL_law 719 = .ok (.pop, 1) := by decide +kernel
theorem dL_law_720 : decode cL_law 720 = .ok (.aload_n 2, 1) := by decide +kernel
theorem dL_law_721 : decode cL_law 721 = .ok (.aload_n 0, 1) := by decide +kernel
theorem dL_law_722 : decode cL_law 722 = .ok (.iload_n 3, 1) := by decide +kernel
theorem dL_law_723 : decode cL_law 723 = .ok (.iconst 1, 1) := by decide +kernel
theorem dL_law_724 : decode cL_law 724 = .ok (.iadd, 1) := by decide +kernel
theorem dL_law_725 : decode cL_law 725 = .ok (.iaload, 1) := by decide +kernel
theorem dL_law_726 : decode cL_law 726 = .ok (.invokevirtual 94, 3) := by decide +kernel
theorem dL_law_729 : decode cL_law 729 = .ok (.pop, 1) := by decide +kernel
theorem dL_law_730 : decode cL_law 730 = .ok (.goto 312, 3) := by decide +kernel
theorem dL_law_733 : decode cL_law 733 = .ok (.aload_n 1, 1) := by decide +kernel
theorem dL_law_734 : decode cL_law 734 = .ok (.aload_n 0, 1) := by decide +kernel
theorem dL_law_735 : decode cL_law 735 = .ok (.iload_n 3, 1) := by decide +kernel
theorem dL_law_736 : decode cL_law 736 = .ok (.iconst 1, 1) := by decide +kernel
theorem dL_law_737 : decode cL_law 737 = .ok (.iadd, 1) := by decide +kernel
theorem dL_law_738 : decode cL_law 738 = .ok (.iaload, 1) := by decide +kernel
theorem dL_law_739 : decode cL_law 739 = .ok (.aload_n 0, 1) := by decide +kernel
theorem dL_law_740 : decode cL_law 740 = .ok (.iload_n 3, 1) := by decide +kernel
theorem dL_law_741 : decode cL_law 741 = .ok (.iconst 2, 1) := by decide +kernel
theorem dL_law_742 : decode cL_law 742 = .ok (.iadd, 1) := by decide +kernel
theorem dL_law_743 : decode cL_law 743 = .ok (.iaload, 1) := by decide +kernel
theorem dL_law_744 : decode cL_law 744 = .ok (.invokevirtual 95, 3) := by decide +kernel
theorem dL_law_747 : decode cL_law 747 = .ok (.pop, 1) := by decide +kernel
theorem dL_law_748 : decode cL_law 748 = .ok (.aload_n 2, 1) := by decide +kernel
theorem dL_law_749 : decode cL_law 749 = .ok (.aload_n 0, 1) := by decide +kernel
theorem dL_law_750 : decode cL_law 750 = .ok (.iload_n 3, 1) := by decide +kernel
theorem dL_law_751 : decode cL_law 751 = .ok (.iconst 1, 1) := by decide +kernel
theorem dL_law_752 : decode cL_law 752 = .ok (.iadd, 1) := by decide +kernel
theorem dL_law_753 : decode cL_law 753 = .ok (.iaload, 1) := by decide +kernel
theorem dL_law_754 : decode cL_law 754 = .ok (.aload_n 0, 1) := by decide +kernel
theorem dL_law_755 : decode cL_law 755 = .ok (.iload_n 3, 1) := by decide +kernel
theorem dL_law_756 : decode cL_law 756 = .ok (.iconst 2, 1) := by decide +kernel
theorem dL_law_757 : decode cL_law 757 = .ok (.iadd, 1) := by decide +kernel
theorem dL_law_758 : decode cL_law 758 = .ok (.iaload, 1) := by decide +kernel
theorem dL_law_759 : decode cL_law 759 = .ok (.invokevirtual 98, 3) := by decide +kernel
theorem dL_law_762 : decode cL_law 762 = .ok (.pop, 1) := by decide +kernel
theorem dL_law_763 : decode cL_law 763 = .ok (.goto 279, 3) := by decide +kernel
theorem dL_law_766 : decode cL_law 766 = .ok (.aload_n 1, 1) := by decide +kernel
theorem dL_law_767 : decode cL_law 767 = .ok (.aload_n 0, 1) := by decide +kernel
theorem dL_law_768 : decode cL_law 768 = .ok (.iload_n 3, 1) := by decide +kernel
theorem dL_law_769 : decode cL_law 769 = .ok (.iconst 1, 1) := by decide +kernel
theorem dL_law_770 : decode cL_law 770 = .ok (.iadd, 1) := by decide +kernel
theorem dL_law_771 : decode cL_law 771 = .ok (.iaload, 1) := by decide +kernel
theorem dL_law_772 : decode cL_law 772 = .ok (.invokevirtual 99, 3) := by decide +kernel
theorem dL_law_775 : decode cL_law 775 = .ok (.aload_n 2, 1) := by decide +kernel
theorem dL_law_776 : decode cL_law 776 = .ok (.aload_n 0, 1) := by decide +kernel
theorem dL_law_777 : decode cL_law 777 = .ok (.iload_n 3, 1) := by decide +kernel
theorem dL_law_778 : decode cL_law 778 = .ok (.iconst 1, 1) := by decide +kernel
theorem dL_law_779 : decode cL_law 779 = .ok (.iadd, 1) := by decide +kernel
theorem dL_law_780 : decode cL_law 780 = .ok (.iaload, 1) := by decide +kernel
theorem dL_law_781 : decode cL_law 781 = .ok (.invokevirtual 102, 3) := by decide +kernel
theorem dL_law_784 : decode cL_law 784 = .ok (.if_icmp .eq 258, 3) := by decide +kernel
theorem dL_law_787 : decode cL_law 787 = .ok (.iconst 0, 1) := by decide +kernel
theorem dL_law_788 : decode cL_law 788 = .ok (.ireturn, 1) := by decide +kernel
theorem dL_law_789 : decode cL_law 789 = .ok (.aload_n 1, 1) := by decide +kernel
theorem dL_law_790 : decode cL_law 790 = .ok (.aload_n 0, 1) := by decide +kernel
theorem dL_law_791 : decode cL_law 791 = .ok (.iload_n 3, 1) := by decide +kernel
theorem dL_law_792 : decode cL_law 792 = .ok (.iconst 1, 1) := by decide +kernel
theorem dL_law_793 : decode cL_law 793 = .ok (.iadd, 1) := by decide +kernel
theorem dL_law_794 : decode cL_law 794 = .ok (.iaload, 1) := by decide +kernel
theorem dL_law_795 : decode cL_law 795 = .ok (.invokevirtual 103, 3) := by decide +kernel
theorem dL_law_798 : decode cL_law 798 = .ok (.pop, 1) := by decide +kernel
theorem dL_law_799 : decode cL_law 799 = .ok (.aload_n 2, 1) := by decide +kernel
theorem dL_law_800 : decode cL_law 800 = .ok (.aload_n 0, 1) := by decide +kernel
theorem dL_law_801 : decode cL_law 801 = .ok (.iload_n 3, 1) := by decide +kernel
theorem dL_law_802 : decode cL_law 802 = .ok (.iconst 1, 1) := by decide +kernel
theorem dL_law_803 : decode cL_law 803 = .ok (.iadd, 1) := by decide +kernel
theorem dL_law_804 : decode cL_law 804 = .ok (.iaload, 1) := by decide +kernel
theorem dL_law_805 : decode cL_law 805 = .ok (.invokevirtual 106, 3) := by decide +kernel
theorem dL_law_808 : decode cL_law 808 = .ok (.pop, 1) := by decide +kernel
theorem dL_law_809 : decode cL_law 809 = .ok (.goto 233, 3) := by decide +kernel
theorem dL_law_812 : decode cL_law 812 = .ok (.aload_n 1, 1) := by decide +kernel
theorem dL_law_813 : decode cL_law 813 = .ok (.aload_n 0, 1) := by decide +kernel
theorem dL_law_814 : decode cL_law 814 = .ok (.iload_n 3, 1) := by decide +kernel
theorem dL_law_815 : decode cL_law 815 = .ok (.iconst 1, 1) := by decide +kernel
theorem dL_law_816 : decode cL_law 816 = .ok (.iadd, 1) := by decide +kernel
theorem dL_law_817 : decode cL_law 817 = .ok (.iaload, 1) := by decide +kernel
theorem dL_law_818 : decode cL_law 818 = .ok (.invokevirtual 107, 3) := by decide +kernel
theorem dL_law_821 : decode cL_law 821 = .ok (.pop, 1) := by decide +kernel
theorem dL_law_822 : decode cL_law 822 = .ok (.aload_n 2, 1) := by decide +kernel
theorem dL_law_823 : decode cL_law 823 = .ok (.aload_n 0, 1) := by decide +kernel
theorem dL_law_824 : decode cL_law 824 = .ok (.iload_n 3, 1) := by decide +kernel
theorem dL_law_825 : decode cL_law 825 = .ok (.iconst 1, 1) := by decide +kernel
theorem dL_law_826 : decode cL_law 826 = .ok (.iadd, 1) := by decide +kernel
theorem dL_law_827 : decode cL_law 827 = .ok (.iaload, 1) := by decide +kernel
theorem dL_law_828 : decode cL_law 828 = .ok (.invokevirtual 110, 3) := by decide +kernel
theorem dL_law_831 : decode cL_law 831 = .ok (.pop, 1) := by decide +kernel
theorem dL_law_832 : decode cL_law 832 = .ok (.goto 210, 3) := by decide +kernel
theorem dL_law_835 : decode cL_law 835 = .ok (.aload_n 1, 1) := by decide +kernel
theorem dL_law_836 : decode cL_law 836 = .ok (.aload_n 0, 1) := by decide +kernel
theorem dL_law_837 : decode cL_law 837 = .ok (.iload_n 3, 1) := by decide +kernel
theorem dL_law_838 : decode cL_law 838 = .ok (.iconst 1, 1) := by decide +kernel
theorem dL_law_839 : decode cL_law 839 = .ok (.iadd, 1) := by decide +kernel
theorem dL_law_840 : decode cL_law 840 = .ok (.iaload, 1) := by decide +kernel
theorem dL_law_841 : decode cL_law 841 = .ok (.invokevirtual 111, 3) := by decide +kernel
theorem dL_law_844 : decode cL_law 844 = .ok (.pop, 1) := by decide +kernel
theorem dL_law_845 : decode cL_law 845 = .ok (.aload_n 2, 1) := by decide +kernel
theorem dL_law_846 : decode cL_law 846 = .ok (.aload_n 0, 1) := by decide +kernel
theorem dL_law_847 : decode cL_law 847 = .ok (.iload_n 3, 1) := by decide +kernel
theorem dL_law_848 : decode cL_law 848 = .ok (.iconst 1, 1) := by decide +kernel
theorem dL_law_849 : decode cL_law 849 = .ok (.iadd, 1) := by decide +kernel
theorem dL_law_850 : decode cL_law 850 = .ok (.iaload, 1) := by decide +kernel
theorem dL_law_851 : decode cL_law 851 = .ok (.invokevirtual 114, 3) := by decide +kernel
theorem dL_law_854 : decode cL_law 854 = .ok (.pop, 1) := by decide +kernel
theorem dL_law_855 : decode cL_law 855 = .ok (.goto 187, 3) := by decide +kernel
theorem dL_law_858 : decode cL_law 858 = .ok (.aload_n 1, 1) := by decide +kernel
theorem dL_law_859 : decode cL_law 859 = .ok (.aload_n 0, 1) := by decide +kernel
theorem dL_law_860 : decode cL_law 860 = .ok (.iload_n 3, 1) := by decide +kernel
theorem dL_law_861 : decode cL_law 861 = .ok (.iconst 1, 1) := by decide +kernel
theorem dL_law_862 : decode cL_law 862 = .ok (.iadd, 1) := by decide +kernel
theorem dL_law_863 : decode cL_law 863 = .ok (.iaload, 1) := by decide +kernel
theorem dL_law_864 : decode cL_law 864 = .ok (.aload_n 0, 1) := by decide +kernel
theorem dL_law_865 : decode cL_law 865 = .ok (.iload_n 3, 1) := by decide +kernel
theorem dL_law_866 : decode cL_law 866 = .ok (.iconst 2, 1) := by decide +kernel
theorem dL_law_867 : decode cL_law 867 = .ok (.iadd, 1) := by decide +kernel
theorem dL_law_868 : decode cL_law 868 = .ok (.iaload, 1) := by decide +kernel
theorem dL_law_869 : decode cL_law 869 = .ok (.aload_n 0, 1) := by decide +kernel
theorem dL_law_870 : decode cL_law 870 = .ok (.iload_n 3, 1) := by decide +kernel
theorem dL_law_871 : decode cL_law 871 = .ok (.iconst 3, 1) := by decide +kernel
theorem dL_law_872 : decode cL_law 872 = .ok (.iadd, 1) := by decide +kernel
theorem dL_law_873 : decode cL_law 873 = .ok (.iaload, 1) := by decide +kernel
theorem dL_law_874 : decode cL_law 874 = .ok (.invokevirtual 115, 3) := by decide +kernel
theorem dL_law_877 : decode cL_law 877 = .ok (.pop, 1) := by decide +kernel
theorem dL_law_878 : decode cL_law 878 = .ok (.aload_n 2, 1) := by decide +kernel
theorem dL_law_879 : decode cL_law 879 = .ok (.aload_n 0, 1) := by decide +kernel
theorem dL_law_880 : decode cL_law 880 = .ok (.iload_n 3, 1) := by decide +kernel
theorem dL_law_881 : decode cL_law 881 = .ok (.iconst 1, 1) := by decide +kernel
theorem dL_law_882 : decode cL_law 882 = .ok (.iadd, 1) := by decide +kernel
theorem dL_law_883 : decode cL_law 883 = .ok (.iaload, 1) := by decide +kernel
theorem dL_law_884 : decode cL_law 884 = .ok (.aload_n 0, 1) := by decide +kernel
theorem dL_law_885 : decode cL_law 885 = .ok (.iload_n 3, 1) := by decide +kernel
theorem dL_law_886 : decode cL_law 886 = .ok (.iconst 2, 1) := by decide +kernel
theorem dL_law_887 : decode cL_law 887 = .ok (.iadd, 1) := by decide +kernel
theorem dL_law_888 : decode cL_law 888 = .ok (.iaload, 1) := by decide +kernel
theorem dL_law_889 : decode cL_law 889 = .ok (.aload_n 0, 1) := by decide +kernel
theorem dL_law_890 : decode cL_law 890 = .ok (.iload_n 3, 1) := by decide +kernel
theorem dL_law_891 : decode cL_law 891 = .ok (.iconst 3, 1) := by decide +kernel
theorem dL_law_892 : decode cL_law 892 = .ok (.iadd, 1) := by decide +kernel
theorem dL_law_893 : decode cL_law 893 = .ok (.iaload, 1) := by decide +kernel
theorem dL_law_894 : decode cL_law 894 = .ok (.invokevirtual 119, 3) := by decide +kernel
theorem dL_law_897 : decode cL_law 897 = .ok (.pop, 1) := by decide +kernel
theorem dL_law_898 : decode cL_law 898 = .ok (.goto 144, 3) := by decide +kernel
theorem dL_law_901 : decode cL_law 901 = .ok (.aload_n 1, 1) := by decide +kernel
theorem dL_law_902 : decode cL_law 902 = .ok (.invokevirtual 120, 3) := by decide +kernel
theorem dL_law_905 : decode cL_law 905 = .ok (.pop, 1) := by decide +kernel
theorem dL_law_906 : decode cL_law 906 = .ok (.aload_n 2, 1) := by decide +kernel
theorem dL_law_907 : decode cL_law 907 = .ok (.invokevirtual 124, 3) := by decide +kernel
theorem dL_law_910 : decode cL_law 910 = .ok (.pop, 1) := by decide +kernel
theorem dL_law_911 : decode cL_law 911 = .ok (.goto 131, 3) := by decide +kernel
theorem dL_law_914 : decode cL_law 914 = .ok (.aload_n 1, 1) := by decide +kernel
theorem dL_law_915 : decode cL_law 915 = .ok (.aload_n 0, 1) := by decide +kernel
theorem dL_law_916 : decode cL_law 916 = .ok (.iload_n 3, 1) := by decide +kernel
theorem dL_law_917 : decode cL_law 917 = .ok (.iconst 1, 1) := by decide +kernel
theorem dL_law_918 : decode cL_law 918 = .ok (.iadd, 1) := by decide +kernel
theorem dL_law_919 : decode cL_law 919 = .ok (.iaload, 1) := by decide +kernel
theorem dL_law_920 : decode cL_law 920 = .ok (.invokevirtual 125, 3) := by decide +kernel
theorem dL_law_923 : decode cL_law 923 = .ok (.pop, 1) := by decide +kernel
theorem dL_law_924 : decode cL_law 924 = .ok (.aload_n 2, 1) := by decide +kernel
theorem dL_law_925 : decode cL_law 925 = .ok (.aload_n 0, 1) := by decide +kernel
theorem dL_law_926 : decode cL_law 926 = .ok (.iload_n 3, 1) := by decide +kernel
theorem dL_law_927 : decode cL_law 927 = .ok (.iconst 1, 1) := by decide +kernel
theorem dL_law_928 : decode cL_law 928 = .ok (.iadd, 1) := by decide +kernel
theorem dL_law_929 : decode cL_law 929 = .ok (.iaload, 1) := by decide +kernel
theorem dL_law_930 : decode cL_law 930 = .ok (.invokevirtual 128, 3) := by decide +kernel
theorem dL_law_933 : decode cL_law 933 = .ok (.pop, 1) := by decide +kernel
theorem dL_law_934 : decode cL_law 934 = .ok (.goto 108, 3) := by decide +kernel
theorem dL_law_937 : decode cL_law 937 = .ok (.aload_n 1, 1) := by decide +kernel
theorem dL_law_938 : decode cL_law 938 = .ok (.aload_n 0, 1) := by decide +kernel
theorem dL_law_939 : decode cL_law 939 = .ok (.iload_n 3, 1) := by decide +kernel
theorem dL_law_940 : decode cL_law 940 = .ok (.iconst 1, 1) := by decide +kernel
theorem dL_law_941 : decode cL_law 941 = .ok (.iadd, 1) := by decide +kernel
theorem dL_law_942 : decode cL_law 942 = .ok (.iaload, 1) := by decide +kernel
theorem dL_law_943 : decode cL_law 943 = .ok (.aload_n 0, 1) := by decide +kernel
theorem dL_law_944 : decode cL_law 944 = .ok (.iload_n 3, 1) := by decide +kernel
theorem dL_law_945 : decode cL_law 945 = .ok (.iconst 2, 1) := by decide +kernel
theorem dL_law_946 : decode cL_law 946 = .ok (.iadd, 1) := by decide +kernel
theorem dL_law_947 : decode cL_law 947 = .ok (.iaload, 1) := by decide +kernel
theorem dL_law_948 : decode cL_law 948 = .ok (.invokevirtual 129, 3) := by decide +kernel
theorem dL_law_951 : decode cL_law 951 = .ok (.pop, 1) := by decide +kernel
theorem dL_law_952 : decode cL_law 952 = .ok (.aload_n 2, 1) := by decide +kernel
theorem dL_law_953 : decode cL_law 953 = .ok (.aload_n 0, 1) := by decide +kernel
theorem dL_law_954 : decode cL_law 954 = .ok (.iload_n 3, 1) := by decide +kernel
theorem dL_law_955 : decode cL_law 955 = .ok (.iconst 1, 1) := by decide +kernel
theorem dL_law_956 : decode cL_law 956 = .ok (.iadd, 1) := by decide +kernel
theorem dL_law_957 : decode cL_law 957 = .ok (.iaload, 1) := by decide +kernel
theorem dL_law_958 : decode cL_law 958 = .ok (.aload_n 0, 1) := by decide +kernel
theorem dL_law_959 : decode cL_law 959 = .ok (.iload_n 3, 1) := by decide +kernel
theorem dL_law_960 : decode cL_law 960 = .ok (.iconst 2, 1) := by decide +kernel
theorem dL_law_961 : decode cL_law 961 = .ok (.iadd, 1) := by decide +kernel
theorem dL_law_962 : decode cL_law 962 = .ok (.iaload, 1) := by decide +kernel
theorem dL_law_963 : decode cL_law 963 = .ok (.invokevirtual 132, 3) := by decide +kernel
theorem dL_law_966 : decode cL_law 966 = .ok (.pop, 1) := by decide +kernel
theorem dL_law_967 : decode cL_law 967 = .ok (.goto 75, 3) := by decide +kernel
theorem dL_law_970 : decode cL_law 970 = .ok (.aload_n 1, 1) := by decide +kernel
theorem dL_law_971 : decode cL_law 971 = .ok (.invokevirtual 133, 3) := by decide +kernel
theorem dL_law_974 : decode cL_law 974 = .ok (.pop, 1) := by decide +kernel
theorem dL_law_975 : decode cL_law 975 = .ok (.aload_n 2, 1) := by decide +kernel
theorem dL_law_976 : decode cL_law 976 = .ok (.invokevirtual 136, 3) := by decide +kernel
theorem dL_law_979 : decode cL_law 979 = .ok (.pop, 1) := by decide +kernel
theorem dL_law_980 : decode cL_law 980 = .ok (.goto 62, 3) := by decide +kernel
theorem dL_law_983 : decode cL_law 983 = .ok (.aload_n 1, 1) := by decide +kernel
theorem dL_law_984 : decode cL_law 984 = .ok (.aload_n 0, 1) := by decide +kernel
theorem dL_law_985 : decode cL_law 985 = .ok (.iload_n 3, 1) := by decide +kernel
theorem dL_law_986 : decode cL_law 986 = .ok (.iconst 1, 1) := by decide +kernel
theorem dL_law_987 : decode cL_law 987 = .ok (.iadd, 1) := by decide +kernel
theorem dL_law_988 : decode cL_law 988 = .ok (.iaload, 1) := by decide +kernel
theorem dL_law_989 : decode cL_law 989 = .ok (.invokevirtual 137, 3) := by decide +kernel
theorem dL_law_992 : decode cL_law 992 = .ok (.pop, 1) := by decide +kernel
theorem dL_law_993 : decode cL_law 993 = .ok (.aload_n 2, 1) := by decide +kernel
theorem dL_law_994 : decode cL_law 994 = .ok (.aload_n 0, 1) := by decide +kernel
theorem dL_law_995 : decode cL_law 995 = .ok (.iload_n 3, 1) := by decide +kernel
theorem dL_law_996 : decode cL_law 996 = .ok (.iconst 1, 1) := by decide +kernel
theorem dL_law_997 : decode cL_law 997 = .ok (.iadd, 1) := by decide +kernel
theorem dL_law_998 : decode cL_law 998 = .ok (.iaload, 1) := by decide +kernel
theorem dL_law_999 : decode cL_law 999 = .ok (.invokevirtual 140, 3) := by decide +kernel
theorem dL_law_1002 : decode cL_law 1002 = .ok (.pop, 1) := by decide +kernel
theorem dL_law_1003 : decode cL_law 1003 = .ok (.goto 39, 3) := by decide +kernel
theorem dL_law_1006 : decode cL_law 1006 = .ok (.aload_n 1, 1) := by decide +kernel
theorem dL_law_1007 : decode cL_law 1007 = .ok (.invokevirtual 141, 3) := by decide +kernel
theorem dL_law_1010 : decode cL_law 1010 = .ok (.pop, 1) := by decide +kernel
theorem dL_law_1011 : decode cL_law 1011 = .ok (.aload_n 2, 1) := by decide +kernel
theorem dL_law_1012 : decode cL_law 1012 = .ok (.invokevirtual 144, 3) := by decide +kernel
theorem dL_law_1015 : decode cL_law 1015 = .ok (.pop, 1) := by decide +kernel
theorem dL_law_1016 : decode cL_law 1016 = .ok (.goto 26, 3) := by decide +kernel
theorem dL_law_1019 : decode cL_law 1019 = .ok (.aload_n 1, 1) := by decide +kernel
theorem dL_law_1020 : decode cL_law 1020 = .ok (.aload_n 0, 1) := by decide +kernel
theorem dL_law_1021 : decode cL_law 1021 = .ok (.iload_n 3, 1) := by decide +kernel
theorem dL_law_1022 : decode cL_law 1022 = .ok (.iconst 1, 1) := by decide +kernel
theorem dL_law_1023 : decode cL_law 1023 = .ok (.iadd, 1) := by decide +kernel
theorem dL_law_1024 : decode cL_law 1024 = .ok (.iaload, 1) := by decide +kernel
theorem dL_law_1025 : decode cL_law 1025 = .ok (.invokevirtual 145, 3) := by decide +kernel
theorem dL_law_1028 : decode cL_law 1028 = .ok (.pop, 1) := by decide +kernel
theorem dL_law_1029 : decode cL_law 1029 = .ok (.aload_n 2, 1) := by decide +kernel
theorem dL_law_1030 : decode cL_law 1030 = .ok (.aload_n 0, 1) := by decide +kernel
theorem dL_law_1031 : decode cL_law 1031 = .ok (.iload_n 3, 1) := by decide +kernel
theorem dL_law_1032 : decode cL_law 1032 = .ok (.iconst 1, 1) := by decide +kernel
theorem dL_law_1033 : decode cL_law 1033 = .ok (.iadd, 1) := by decide +kernel
theorem dL_law_1034 : decode cL_law 1034 = .ok (.iaload, 1) := by decide +kernel
theorem dL_law_1035 : decode cL_law 1035 = .ok (.invokevirtual 148, 3) := by decide +kernel
theorem dL_law_1038 : decode cL_law 1038 = .ok (.pop, 1) := by decide +kernel
theorem dL_law_1039 : decode cL_law 1039 = .ok (.goto 3, 3) := by decide +kernel
theorem dL_law_1042 : decode cL_law 1042 = .ok (.iinc 3 6, 3) := by decide +kernel
theorem dL_law_1045 : decode cL_law 1045 = .ok (.goto (-1027), 3) := by decide +kernel
theorem dL_law_1048 : decode cL_law 1048 = .ok (.iconst 1, 1) := by decide +kernel
theorem dL_law_1049 : decode cL_law 1049 = .ok (.ireturn, 1) := by decide +kernel
noncomputable def tL_0 (L : Nat) (xs : Nat → Int32) : List (Nat × zF) := [(0, (znw 11 zdfX11)), (3, (zst 1 zdu)), (4, (zci 111 0)), (7, (zsa4 4 1 1)), (8, (znw 12 zdfX12)), (11, (zst 1 zdu)), (12, (zci 164 0)), (15, (zsa4 4 2 1)), (16, (zst 1 (zp (.int (0))))), (17, (zsi4 4 3 1)), (18, (zli4 3 1)), (19, (zlx 0 1))]
theorem kL_0 (L : Nat) (xs : Nat → Int32) : ∀ q ∈ tL_0 L xs, zOk (zgL L xs) iL_law q.1 q.2 := (z_c (ok_new (C := RX11) (T := TX11) (N := 16) tyX11 tyX11_ok rfl zinX11 zw_1517 zw_1518 zw_1332 rfl (fun _ _ => rfl) zdfX11_ok dL_law_0) (z_c (ok_dup dL_law_3) (z_c (ok_callI zcal_111 rfl rfl zw_1519 zw_1520 dL_law_4) (z_c (ok_astore_n dL_law_7 rfl) (z_c (ok_new (C := RX12) (T := TX12) (N := 73) tyX12 tyX12_ok rfl zinX12 zw_1521 zw_1522 zw_1386 rfl (fun _ _ => rfl) zdfX12_ok dL_law_8) (z_c (ok_dup dL_law_11) (z_c (ok_callI zcal_164 rfl rfl zw_1523 zw_1524 dL_law_12) (z_c (ok_astore_n dL_law_15 rfl) (z_c (ok_iconst (v := (0)) dL_law_16 (by decide)) (z_c (ok_istore_n dL_law_17 rfl) (z_c (ok_iload_n dL_law_18 rfl) (z_c (ok_aloadx dL_law_19 rfl) z_n))))))))))))
noncomputable def tL_1 (L : Nat) (xs : Nat → Int32) : List (Nat × zF) := [(20, (zst 1 (zgx 3 (.int (Int32.ofNat L))))), (21, (zst 2 (zp (.int (6))))), (23, (zst 1 z_isub)), (24, (z_ic_gt 1048)), (27, (zlx 0 1)), (28, (zli4 3 1)), (29, (zst 1 (zbx 3 L xs))), (30, (zst 2 (zp (.int (31))))), (32, (zst 1 z_iand)), (33, (zts [(0, 176), (1, 239), (2, 262), (3, 275), (4, 298), (5, 321), (6, 364), (7, 407), (8, 440), (9, 473), (10, 516), (11, 539), (12, 572), (13, 605), (14, 638), (15, 651), (16, 674), (17, 697), (18, 710), (19, 733), (20, 766), (21, 789), (22, 812), (23, 835), (24, 858), (25, 901), (26, 914), (27, 937), (28, 970), (29, 983), (30, 1006), (31, 1019)] 1042)), (176, (zla4 1 1)), (177, (zlx 0 1))]
theorem kL_1 (L : Nat) (xs : Nat → Int32) : ∀ q ∈ tL_1 L xs, zOk (zgL L xs) iL_law q.1 q.2 := (z_c (ok_slen zx_scr rfl dL_law_20) (z_c (ok_bipush (v := (6)) dL_law_21 (by decide)) (z_c (ok_isub dL_law_23) (z_c (ok_icmp_gt dL_law_24 (by decide)) (z_c (ok_aloadx dL_law_27 rfl) (z_c (ok_iload_n dL_law_28 rfl) (z_c (ok_sld zx_scr dL_law_29) (z_c (ok_bipush (v := (31)) dL_law_30 (by decide)) (z_c (ok_iand dL_law_32) (z_c (ok_tsw dL_law_33 (by decide) (by decide +kernel) (by decide +kernel) (by decide)) (z_c (ok_aload_n dL_law_176 rfl) (z_c (ok_aloadx dL_law_177 rfl) z_n))))))))))))
noncomputable def tL_2 (L : Nat) (xs : Nat → Int32) : List (Nat × zF) := [(178, (zli4 3 1)), (179, (zst 1 (zp (.int (1))))), (180, (zst 1 z_iadd)), (181, (zst 1 (zbx 3 L xs))), (182, (zlx 0 1)), (183, (zli4 3 1)), (184, (zst 1 (zp (.int (2))))), (185, (zst 1 z_iadd)), (186, (zst 1 (zbx 3 L xs))), (187, (zlx 0 1)), (188, (zli4 3 1)), (189, (zst 1 (zp (.int (3)))))]
theorem kL_2 (L : Nat) (xs : Nat → Int32) : ∀ q ∈ tL_2 L xs, zOk (zgL L xs) iL_law q.1 q.2 := (z_c (ok_iload_n dL_law_178 rfl) (z_c (ok_iconst (v := (1)) dL_law_179 (by decide)) (z_c (ok_iadd dL_law_180) (z_c (ok_sld zx_scr dL_law_181) (z_c (ok_aloadx dL_law_182 rfl) (z_c (ok_iload_n dL_law_183 rfl) (z_c (ok_iconst (v := (2)) dL_law_184 (by decide)) (z_c (ok_iadd dL_law_185) (z_c (ok_sld zx_scr dL_law_186) (z_c (ok_aloadx dL_law_187 rfl) (z_c (ok_iload_n dL_law_188 rfl) (z_c (ok_iconst (v := (3)) dL_law_189 (by decide)) z_n))))))))))))
noncomputable def tL_3 (L : Nat) (xs : Nat → Int32) : List (Nat × zF) := [(190, (zst 1 z_iadd)), (191, (zst 1 (zbx 3 L xs))), (192, (zlx 0 1)), (193, (zli4 3 1)), (194, (zst 1 (zp (.int (4))))), (195, (zst 1 z_iadd)), (196, (zst 1 (zbx 3 L xs))), (197, (zlx 0 1)), (198, (zli4 3 1)), (199, (zst 1 (zp (.int (5))))), (200, (zst 1 z_iadd)), (201, (zst 1 (zbx 3 L xs)))]
theorem kL_3 (L : Nat) (xs : Nat → Int32) : ∀ q ∈ tL_3 L xs, zOk (zgL L xs) iL_law q.1 q.2 := (z_c (ok_iadd dL_law_190) (z_c (ok_sld zx_scr dL_law_191) (z_c (ok_aloadx dL_law_192 rfl) (z_c (ok_iload_n dL_law_193 rfl) (z_c (ok_iconst (v := (4)) dL_law_194 (by decide)) (z_c (ok_iadd dL_law_195) (z_c (ok_sld zx_scr dL_law_196) (z_c (ok_aloadx dL_law_197 rfl) (z_c (ok_iload_n dL_law_198 rfl) (z_c (ok_iconst (v := (5)) dL_law_199 (by decide)) (z_c (ok_iadd dL_law_200) (z_c (ok_sld zx_scr dL_law_201) z_n))))))))))))
noncomputable def tL_4 (L : Nat) (xs : Nat → Int32) : List (Nat × zF) := [(202, (zcv 112 5 11)), (205, (zst 1 zpo)), (206, (zla4 2 1)), (207, (zlx 0 1)), (208, (zli4 3 1)), (209, (zst 1 (zp (.int (1))))), (210, (zst 1 z_iadd)), (211, (zst 1 (zbx 3 L xs))), (212, (zlx 0 1)), (213, (zli4 3 1)), (214, (zst 1 (zp (.int (2))))), (215, (zst 1 z_iadd))]
theorem kL_4 (L : Nat) (xs : Nat → Int32) : ∀ q ∈ tL_4 L xs, zOk (zgL L xs) iL_law q.1 q.2 := (z_c (ok_callV zcal_112 (q := (RX11, TX11, 16)) rfl zw_1525 zw_1526 zw_1527 dL_law_202) (z_c (ok_pop dL_law_205) (z_c (ok_aload_n dL_law_206 rfl) (z_c (ok_aloadx dL_law_207 rfl) (z_c (ok_iload_n dL_law_208 rfl) (z_c (ok_iconst (v := (1)) dL_law_209 (by decide)) (z_c (ok_iadd dL_law_210) (z_c (ok_sld zx_scr dL_law_211) (z_c (ok_aloadx dL_law_212 rfl) (z_c (ok_iload_n dL_law_213 rfl) (z_c (ok_iconst (v := (2)) dL_law_214 (by decide)) (z_c (ok_iadd dL_law_215) z_n))))))))))))
noncomputable def tL_5 (L : Nat) (xs : Nat → Int32) : List (Nat × zF) := [(216, (zst 1 (zbx 3 L xs))), (217, (zlx 0 1)), (218, (zli4 3 1)), (219, (zst 1 (zp (.int (3))))), (220, (zst 1 z_iadd)), (221, (zst 1 (zbx 3 L xs))), (222, (zlx 0 1)), (223, (zli4 3 1)), (224, (zst 1 (zp (.int (4))))), (225, (zst 1 z_iadd)), (226, (zst 1 (zbx 3 L xs))), (227, (zlx 0 1))]
theorem kL_5 (L : Nat) (xs : Nat → Int32) : ∀ q ∈ tL_5 L xs, zOk (zgL L xs) iL_law q.1 q.2 := (z_c (ok_sld zx_scr dL_law_216) (z_c (ok_aloadx dL_law_217 rfl) (z_c (ok_iload_n dL_law_218 rfl) (z_c (ok_iconst (v := (3)) dL_law_219 (by decide)) (z_c (ok_iadd dL_law_220) (z_c (ok_sld zx_scr dL_law_221) (z_c (ok_aloadx dL_law_222 rfl) (z_c (ok_iload_n dL_law_223 rfl) (z_c (ok_iconst (v := (4)) dL_law_224 (by decide)) (z_c (ok_iadd dL_law_225) (z_c (ok_sld zx_scr dL_law_226) (z_c (ok_aloadx dL_law_227 rfl) z_n))))))))))))
noncomputable def tL_6 (L : Nat) (xs : Nat → Int32) : List (Nat × zF) := [(228, (zli4 3 1)), (229, (zst 1 (zp (.int (5))))), (230, (zst 1 z_iadd)), (231, (zst 1 (zbx 3 L xs))), (232, (zcv 167 5 12)), (235, (zst 1 zpo)), (236, (zgt 1042)), (239, (zla4 1 1)), (240, (zlx 0 1)), (241, (zli4 3 1)), (242, (zst 1 (zp (.int (1))))), (243, (zst 1 z_iadd))]
theorem kL_6 (L : Nat) (xs : Nat → Int32) : ∀ q ∈ tL_6 L xs, zOk (zgL L xs) iL_law q.1 q.2 := (z_c (ok_iload_n dL_law_228 rfl) (z_c (ok_iconst (v := (5)) dL_law_229 (by decide)) (z_c (ok_iadd dL_law_230) (z_c (ok_sld zx_scr dL_law_231) (z_c (ok_callV zcal_167 (q := (RX12, TX12, 73)) rfl zw_1528 zw_1529 zw_1530 dL_law_232) (z_c (ok_pop dL_law_235) (z_c (ok_goto dL_law_236 (by decide)) (z_c (ok_aload_n dL_law_239 rfl) (z_c (ok_aloadx dL_law_240 rfl) (z_c (ok_iload_n dL_law_241 rfl) (z_c (ok_iconst (v := (1)) dL_law_242 (by decide)) (z_c (ok_iadd dL_law_243) z_n))))))))))))
noncomputable def tL_7 (L : Nat) (xs : Nat → Int32) : List (Nat × zF) := [(244, (zst 1 (zbx 3 L xs))), (245, (zcv 113 1 11)), (248, (zst 1 zpo)), (249, (zla4 2 1)), (250, (zlx 0 1)), (251, (zli4 3 1)), (252, (zst 1 (zp (.int (1))))), (253, (zst 1 z_iadd)), (254, (zst 1 (zbx 3 L xs))), (255, (zcv 168 1 12)), (258, (zst 1 zpo)), (259, (zgt 1042))]
theorem kL_7 (L : Nat) (xs : Nat → Int32) : ∀ q ∈ tL_7 L xs, zOk (zgL L xs) iL_law q.1 q.2 := (z_c (ok_sld zx_scr dL_law_244) (z_c (ok_callV zcal_113 (q := (RX11, TX11, 16)) rfl zw_1531 zw_1532 zw_1533 dL_law_245) (z_c (ok_pop dL_law_248) (z_c (ok_aload_n dL_law_249 rfl) (z_c (ok_aloadx dL_law_250 rfl) (z_c (ok_iload_n dL_law_251 rfl) (z_c (ok_iconst (v := (1)) dL_law_252 (by decide)) (z_c (ok_iadd dL_law_253) (z_c (ok_sld zx_scr dL_law_254) (z_c (ok_callV zcal_168 (q := (RX12, TX12, 73)) rfl zw_1534 zw_1535 zw_1536 dL_law_255) (z_c (ok_pop dL_law_258) (z_c (ok_goto dL_law_259 (by decide)) z_n))))))))))))
noncomputable def tL_8 (L : Nat) (xs : Nat → Int32) : List (Nat × zF) := [(262, (zla4 1 1)), (263, (zcv 114 0 11)), (266, (zst 1 zpo)), (267, (zla4 2 1)), (268, (zcv 206 0 12)), (271, (zst 1 zpo)), (272, (zgt 1042)), (275, (zla4 1 1)), (276, (zlx 0 1)), (277, (zli4 3 1)), (278, (zst 1 (zp (.int (1))))), (279, (zst 1 z_iadd))]
theorem kL_8 (L : Nat) (xs : Nat → Int32) : ∀ q ∈ tL_8 L xs, zOk (zgL L xs) iL_law q.1 q.2 := (z_c (ok_aload_n dL_law_262 rfl) (z_c (ok_callV zcal_114 (q := (RX11, TX11, 16)) rfl zw_1537 zw_1538 zw_1539 dL_law_263) (z_c (ok_pop dL_law_266) (z_c (ok_aload_n dL_law_267 rfl) (z_c (ok_callV zcal_206 (q := (RX12, TX12, 73)) rfl zw_1540 zw_1541 zw_1542 dL_law_268) (z_c (ok_pop dL_law_271) (z_c (ok_goto dL_law_272 (by decide)) (z_c (ok_aload_n dL_law_275 rfl) (z_c (ok_aloadx dL_law_276 rfl) (z_c (ok_iload_n dL_law_277 rfl) (z_c (ok_iconst (v := (1)) dL_law_278 (by decide)) (z_c (ok_iadd dL_law_279) z_n))))))))))))
noncomputable def tL_9 (L : Nat) (xs : Nat → Int32) : List (Nat × zF) := [(280, (zst 1 (zbx 3 L xs))), (281, (zcv 115 1 11)), (284, (zst 1 zpo)), (285, (zla4 2 1)), (286, (zlx 0 1)), (287, (zli4 3 1)), (288, (zst 1 (zp (.int (1))))), (289, (zst 1 z_iadd)), (290, (zst 1 (zbx 3 L xs))), (291, (zcv 207 1 12)), (294, (zst 1 zpo)), (295, (zgt 1042))]
theorem kL_9 (L : Nat) (xs : Nat → Int32) : ∀ q ∈ tL_9 L xs, zOk (zgL L xs) iL_law q.1 q.2 := (z_c (ok_sld zx_scr dL_law_280) (z_c (ok_callV zcal_115 (q := (RX11, TX11, 16)) rfl zw_1543 zw_1544 zw_1545 dL_law_281) (z_c (ok_pop dL_law_284) (z_c (ok_aload_n dL_law_285 rfl) (z_c (ok_aloadx dL_law_286 rfl) (z_c (ok_iload_n dL_law_287 rfl) (z_c (ok_iconst (v := (1)) dL_law_288 (by decide)) (z_c (ok_iadd dL_law_289) (z_c (ok_sld zx_scr dL_law_290) (z_c (ok_callV zcal_207 (q := (RX12, TX12, 73)) rfl zw_1546 zw_1547 zw_1548 dL_law_291) (z_c (ok_pop dL_law_294) (z_c (ok_goto dL_law_295 (by decide)) z_n))))))))))))
noncomputable def tL_10 (L : Nat) (xs : Nat → Int32) : List (Nat × zF) := [(298, (zla4 1 1)), (299, (zlx 0 1)), (300, (zli4 3 1)), (301, (zst 1 (zp (.int (1))))), (302, (zst 1 z_iadd)), (303, (zst 1 (zbx 3 L xs))), (304, (zcv 116 1 11)), (307, (zst 1 zpo)), (308, (zla4 2 1)), (309, (zlx 0 1)), (310, (zli4 3 1)), (311, (zst 1 (zp (.int (1)))))]
theorem kL_10 (L : Nat) (xs : Nat → Int32) : ∀ q ∈ tL_10 L xs, zOk (zgL L xs) iL_law q.1 q.2 := (z_c (ok_aload_n dL_law_298 rfl) (z_c (ok_aloadx dL_law_299 rfl) (z_c (ok_iload_n dL_law_300 rfl) (z_c (ok_iconst (v := (1)) dL_law_301 (by decide)) (z_c (ok_iadd dL_law_302) (z_c (ok_sld zx_scr dL_law_303) (z_c (ok_callV zcal_116 (q := (RX11, TX11, 16)) rfl zw_1549 zw_1550 zw_1551 dL_law_304) (z_c (ok_pop dL_law_307) (z_c (ok_aload_n dL_law_308 rfl) (z_c (ok_aloadx dL_law_309 rfl) (z_c (ok_iload_n dL_law_310 rfl) (z_c (ok_iconst (v := (1)) dL_law_311 (by decide)) z_n))))))))))))
noncomputable def tL_11 (L : Nat) (xs : Nat → Int32) : List (Nat × zF) := [(312, (zst 1 z_iadd)), (313, (zst 1 (zbx 3 L xs))), (314, (zcv 239 1 12)), (317, (zst 1 zpo)), (318, (zgt 1042)), (321, (zla4 1 1)), (322, (zlx 0 1)), (323, (zli4 3 1)), (324, (zst 1 (zp (.int (1))))), (325, (zst 1 z_iadd)), (326, (zst 1 (zbx 3 L xs))), (327, (zlx 0 1))]
theorem kL_11 (L : Nat) (xs : Nat → Int32) : ∀ q ∈ tL_11 L xs, zOk (zgL L xs) iL_law q.1 q.2 := (z_c (ok_iadd dL_law_312) (z_c (ok_sld zx_scr dL_law_313) (z_c (ok_callV zcal_239 (q := (RX12, TX12, 73)) rfl zw_1552 zw_1553 zw_1554 dL_law_314) (z_c (ok_pop dL_law_317) (z_c (ok_goto dL_law_318 (by decide)) (z_c (ok_aload_n dL_law_321 rfl) (z_c (ok_aloadx dL_law_322 rfl) (z_c (ok_iload_n dL_law_323 rfl) (z_c (ok_iconst (v := (1)) dL_law_324 (by decide)) (z_c (ok_iadd dL_law_325) (z_c (ok_sld zx_scr dL_law_326) (z_c (ok_aloadx dL_law_327 rfl) z_n))))))))))))
noncomputable def tL_12 (L : Nat) (xs : Nat → Int32) : List (Nat × zF) := [(328, (zli4 3 1)), (329, (zst 1 (zp (.int (2))))), (330, (zst 1 z_iadd)), (331, (zst 1 (zbx 3 L xs))), (332, (zlx 0 1)), (333, (zli4 3 1)), (334, (zst 1 (zp (.int (3))))), (335, (zst 1 z_iadd)), (336, (zst 1 (zbx 3 L xs))), (337, (zcv 117 3 11)), (340, (zst 1 zpo)), (341, (zla4 2 1))]
theorem kL_12 (L : Nat) (xs : Nat → Int32) : ∀ q ∈ tL_12 L xs, zOk (zgL L xs) iL_law q.1 q.2 := (z_c (ok_iload_n dL_law_328 rfl) (z_c (ok_iconst (v := (2)) dL_law_329 (by decide)) (z_c (ok_iadd dL_law_330) (z_c (ok_sld zx_scr dL_law_331) (z_c (ok_aloadx dL_law_332 rfl) (z_c (ok_iload_n dL_law_333 rfl) (z_c (ok_iconst (v := (3)) dL_law_334 (by decide)) (z_c (ok_iadd dL_law_335) (z_c (ok_sld zx_scr dL_law_336) (z_c (ok_callV zcal_117 (q := (RX11, TX11, 16)) rfl zw_1555 zw_1556 zw_1557 dL_law_337) (z_c (ok_pop dL_law_340) (z_c (ok_aload_n dL_law_341 rfl) z_n))))))))))))
noncomputable def tL_13 (L : Nat) (xs : Nat → Int32) : List (Nat × zF) := [(342, (zlx 0 1)), (343, (zli4 3 1)), (344, (zst 1 (zp (.int (1))))), (345, (zst 1 z_iadd)), (346, (zst 1 (zbx 3 L xs))), (347, (zlx 0 1)), (348, (zli4 3 1)), (349, (zst 1 (zp (.int (2))))), (350, (zst 1 z_iadd)), (351, (zst 1 (zbx 3 L xs))), (352, (zlx 0 1)), (353, (zli4 3 1))]
theorem kL_13 (L : Nat) (xs : Nat → Int32) : ∀ q ∈ tL_13 L xs, zOk (zgL L xs) iL_law q.1 q.2 := (z_c (ok_aloadx dL_law_342 rfl) (z_c (ok_iload_n dL_law_343 rfl) (z_c (ok_iconst (v := (1)) dL_law_344 (by decide)) (z_c (ok_iadd dL_law_345) (z_c (ok_sld zx_scr dL_law_346) (z_c (ok_aloadx dL_law_347 rfl) (z_c (ok_iload_n dL_law_348 rfl) (z_c (ok_iconst (v := (2)) dL_law_349 (by decide)) (z_c (ok_iadd dL_law_350) (z_c (ok_sld zx_scr dL_law_351) (z_c (ok_aloadx dL_law_352 rfl) (z_c (ok_iload_n dL_law_353 rfl) z_n))))))))))))
noncomputable def tL_14 (L : Nat) (xs : Nat → Int32) : List (Nat × zF) := [(354, (zst 1 (zp (.int (3))))), (355, (zst 1 z_iadd)), (356, (zst 1 (zbx 3 L xs))), (357, (zcv 240 3 12)), (360, (zst 1 zpo)), (361, (zgt 1042)), (364, (zla4 1 1)), (365, (zlx 0 1)), (366, (zli4 3 1)), (367, (zst 1 (zp (.int (1))))), (368, (zst 1 z_iadd)), (369, (zst 1 (zbx 3 L xs)))]
theorem kL_14 (L : Nat) (xs : Nat → Int32) : ∀ q ∈ tL_14 L xs, zOk (zgL L xs) iL_law q.1 q.2 := (z_c (ok_iconst (v := (3)) dL_law_354 (by decide)) (z_c (ok_iadd dL_law_355) (z_c (ok_sld zx_scr dL_law_356) (z_c (ok_callV zcal_240 (q := (RX12, TX12, 73)) rfl zw_1558 zw_1559 zw_1560 dL_law_357) (z_c (ok_pop dL_law_360) (z_c (ok_goto dL_law_361 (by decide)) (z_c (ok_aload_n dL_law_364 rfl) (z_c (ok_aloadx dL_law_365 rfl) (z_c (ok_iload_n dL_law_366 rfl) (z_c (ok_iconst (v := (1)) dL_law_367 (by decide)) (z_c (ok_iadd dL_law_368) (z_c (ok_sld zx_scr dL_law_369) z_n))))))))))))
noncomputable def tL_15 (L : Nat) (xs : Nat → Int32) : List (Nat × zF) := [(370, (zlx 0 1)), (371, (zli4 3 1)), (372, (zst 1 (zp (.int (2))))), (373, (zst 1 z_iadd)), (374, (zst 1 (zbx 3 L xs))), (375, (zlx 0 1)), (376, (zli4 3 1)), (377, (zst 1 (zp (.int (3))))), (378, (zst 1 z_iadd)), (379, (zst 1 (zbx 3 L xs))), (380, (zcv 118 3 11)), (383, (zst 1 zpo))]
theorem kL_15 (L : Nat) (xs : Nat → Int32) : ∀ q ∈ tL_15 L xs, zOk (zgL L xs) iL_law q.1 q.2 := (z_c (ok_aloadx dL_law_370 rfl) (z_c (ok_iload_n dL_law_371 rfl) (z_c (ok_iconst (v := (2)) dL_law_372 (by decide)) (z_c (ok_iadd dL_law_373) (z_c (ok_sld zx_scr dL_law_374) (z_c (ok_aloadx dL_law_375 rfl) (z_c (ok_iload_n dL_law_376 rfl) (z_c (ok_iconst (v := (3)) dL_law_377 (by decide)) (z_c (ok_iadd dL_law_378) (z_c (ok_sld zx_scr dL_law_379) (z_c (ok_callV zcal_118 (q := (RX11, TX11, 16)) rfl zw_1561 zw_1562 zw_1563 dL_law_380) (z_c (ok_pop dL_law_383) z_n))))))))))))
noncomputable def tL_16 (L : Nat) (xs : Nat → Int32) : List (Nat × zF) := [(384, (zla4 2 1)), (385, (zlx 0 1)), (386, (zli4 3 1)), (387, (zst 1 (zp (.int (1))))), (388, (zst 1 z_iadd)), (389, (zst 1 (zbx 3 L xs))), (390, (zlx 0 1)), (391, (zli4 3 1)), (392, (zst 1 (zp (.int (2))))), (393, (zst 1 z_iadd)), (394, (zst 1 (zbx 3 L xs))), (395, (zlx 0 1))]
theorem kL_16 (L : Nat) (xs : Nat → Int32) : ∀ q ∈ tL_16 L xs, zOk (zgL L xs) iL_law q.1 q.2 := (z_c (ok_aload_n dL_law_384 rfl) (z_c (ok_aloadx dL_law_385 rfl) (z_c (ok_iload_n dL_law_386 rfl) (z_c (ok_iconst (v := (1)) dL_law_387 (by decide)) (z_c (ok_iadd dL_law_388) (z_c (ok_sld zx_scr dL_law_389) (z_c (ok_aloadx dL_law_390 rfl) (z_c (ok_iload_n dL_law_391 rfl) (z_c (ok_iconst (v := (2)) dL_law_392 (by decide)) (z_c (ok_iadd dL_law_393) (z_c (ok_sld zx_scr dL_law_394) (z_c (ok_aloadx dL_law_395 rfl) z_n))))))))))))
noncomputable def tL_17 (L : Nat) (xs : Nat → Int32) : List (Nat × zF) := [(396, (zli4 3 1)), (397, (zst 1 (zp (.int (3))))), (398, (zst 1 z_iadd)), (399, (zst 1 (zbx 3 L xs))), (400, (zcv 241 3 12)), (403, (zst 1 zpo)), (404, (zgt 1042)), (407, (zla4 1 1)), (408, (zlx 0 1)), (409, (zli4 3 1)), (410, (zst 1 (zp (.int (1))))), (411, (zst 1 z_iadd))]
theorem kL_17 (L : Nat) (xs : Nat → Int32) : ∀ q ∈ tL_17 L xs, zOk (zgL L xs) iL_law q.1 q.2 := (z_c (ok_iload_n dL_law_396 rfl) (z_c (ok_iconst (v := (3)) dL_law_397 (by decide)) (z_c (ok_iadd dL_law_398) (z_c (ok_sld zx_scr dL_law_399) (z_c (ok_callV zcal_241 (q := (RX12, TX12, 73)) rfl zw_1564 zw_1565 zw_1566 dL_law_400) (z_c (ok_pop dL_law_403) (z_c (ok_goto dL_law_404 (by decide)) (z_c (ok_aload_n dL_law_407 rfl) (z_c (ok_aloadx dL_law_408 rfl) (z_c (ok_iload_n dL_law_409 rfl) (z_c (ok_iconst (v := (1)) dL_law_410 (by decide)) (z_c (ok_iadd dL_law_411) z_n))))))))))))
noncomputable def tL_18 (L : Nat) (xs : Nat → Int32) : List (Nat × zF) := [(412, (zst 1 (zbx 3 L xs))), (413, (zlx 0 1)), (414, (zli4 3 1)), (415, (zst 1 (zp (.int (2))))), (416, (zst 1 z_iadd)), (417, (zst 1 (zbx 3 L xs))), (418, (zcv 119 2 11)), (421, (zst 1 zpo)), (422, (zla4 2 1)), (423, (zlx 0 1)), (424, (zli4 3 1)), (425, (zst 1 (zp (.int (1)))))]
theorem kL_18 (L : Nat) (xs : Nat → Int32) : ∀ q ∈ tL_18 L xs, zOk (zgL L xs) iL_law q.1 q.2 := (z_c (ok_sld zx_scr dL_law_412) (z_c (ok_aloadx dL_law_413 rfl) (z_c (ok_iload_n dL_law_414 rfl) (z_c (ok_iconst (v := (2)) dL_law_415 (by decide)) (z_c (ok_iadd dL_law_416) (z_c (ok_sld zx_scr dL_law_417) (z_c (ok_callV zcal_119 (q := (RX11, TX11, 16)) rfl zw_1567 zw_1568 zw_1569 dL_law_418) (z_c (ok_pop dL_law_421) (z_c (ok_aload_n dL_law_422 rfl) (z_c (ok_aloadx dL_law_423 rfl) (z_c (ok_iload_n dL_law_424 rfl) (z_c (ok_iconst (v := (1)) dL_law_425 (by decide)) z_n))))))))))))
noncomputable def tL_19 (L : Nat) (xs : Nat → Int32) : List (Nat × zF) := [(426, (zst 1 z_iadd)), (427, (zst 1 (zbx 3 L xs))), (428, (zlx 0 1)), (429, (zli4 3 1)), (430, (zst 1 (zp (.int (2))))), (431, (zst 1 z_iadd)), (432, (zst 1 (zbx 3 L xs))), (433, (zcv 243 2 12)), (436, (zst 1 zpo)), (437, (zgt 1042)), (440, (zla4 1 1)), (441, (zlx 0 1))]
theorem kL_19 (L : Nat) (xs : Nat → Int32) : ∀ q ∈ tL_19 L xs, zOk (zgL L xs) iL_law q.1 q.2 := (z_c (ok_iadd dL_law_426) (z_c (ok_sld zx_scr dL_law_427) (z_c (ok_aloadx dL_law_428 rfl) (z_c (ok_iload_n dL_law_429 rfl) (z_c (ok_iconst (v := (2)) dL_law_430 (by decide)) (z_c (ok_iadd dL_law_431) (z_c (ok_sld zx_scr dL_law_432) (z_c (ok_callV zcal_243 (q := (RX12, TX12, 73)) rfl zw_1570 zw_1571 zw_1572 dL_law_433) (z_c (ok_pop dL_law_436) (z_c (ok_goto dL_law_437 (by decide)) (z_c (ok_aload_n dL_law_440 rfl) (z_c (ok_aloadx dL_law_441 rfl) z_n))))))))))))
noncomputable def tL_20 (L : Nat) (xs : Nat → Int32) : List (Nat × zF) := [(442, (zli4 3 1)), (443, (zst 1 (zp (.int (1))))), (444, (zst 1 z_iadd)), (445, (zst 1 (zbx 3 L xs))), (446, (zlx 0 1)), (447, (zli4 3 1)), (448, (zst 1 (zp (.int (2))))), (449, (zst 1 z_iadd)), (450, (zst 1 (zbx 3 L xs))), (451, (zcv 120 2 11)), (454, (zst 1 zpo)), (455, (zla4 2 1))]
theorem kL_20 (L : Nat) (xs : Nat → Int32) : ∀ q ∈ tL_20 L xs, zOk (zgL L xs) iL_law q.1 q.2 := (z_c (ok_iload_n dL_law_442 rfl) (z_c (ok_iconst (v := (1)) dL_law_443 (by decide)) (z_c (ok_iadd dL_law_444) (z_c (ok_sld zx_scr dL_law_445) (z_c (ok_aloadx dL_law_446 rfl) (z_c (ok_iload_n dL_law_447 rfl) (z_c (ok_iconst (v := (2)) dL_law_448 (by decide)) (z_c (ok_iadd dL_law_449) (z_c (ok_sld zx_scr dL_law_450) (z_c (ok_callV zcal_120 (q := (RX11, TX11, 16)) rfl zw_1573 zw_1574 zw_1575 dL_law_451) (z_c (ok_pop dL_law_454) (z_c (ok_aload_n dL_law_455 rfl) z_n))))))))))))
noncomputable def tL_21 (L : Nat) (xs : Nat → Int32) : List (Nat × zF) := [(456, (zlx 0 1)), (457, (zli4 3 1)), (458, (zst 1 (zp (.int (1))))), (459, (zst 1 z_iadd)), (460, (zst 1 (zbx 3 L xs))), (461, (zlx 0 1)), (462, (zli4 3 1)), (463, (zst 1 (zp (.int (2))))), (464, (zst 1 z_iadd)), (465, (zst 1 (zbx 3 L xs))), (466, (zcv 244 2 12)), (469, (zst 1 zpo))]
theorem kL_21 (L : Nat) (xs : Nat → Int32) : ∀ q ∈ tL_21 L xs, zOk (zgL L xs) iL_law q.1 q.2 := (z_c (ok_aloadx dL_law_456 rfl) (z_c (ok_iload_n dL_law_457 rfl) (z_c (ok_iconst (v := (1)) dL_law_458 (by decide)) (z_c (ok_iadd dL_law_459) (z_c (ok_sld zx_scr dL_law_460) (z_c (ok_aloadx dL_law_461 rfl) (z_c (ok_iload_n dL_law_462 rfl) (z_c (ok_iconst (v := (2)) dL_law_463 (by decide)) (z_c (ok_iadd dL_law_464) (z_c (ok_sld zx_scr dL_law_465) (z_c (ok_callV zcal_244 (q := (RX12, TX12, 73)) rfl zw_1576 zw_1577 zw_1578 dL_law_466) (z_c (ok_pop dL_law_469) z_n))))))))))))
noncomputable def tL_22 (L : Nat) (xs : Nat → Int32) : List (Nat × zF) := [(470, (zgt 1042)), (473, (zla4 1 1)), (474, (zlx 0 1)), (475, (zli4 3 1)), (476, (zst 1 (zp (.int (1))))), (477, (zst 1 z_iadd)), (478, (zst 1 (zbx 3 L xs))), (479, (zlx 0 1)), (480, (zli4 3 1)), (481, (zst 1 (zp (.int (2))))), (482, (zst 1 z_iadd)), (483, (zst 1 (zbx 3 L xs)))]
theorem kL_22 (L : Nat) (xs : Nat → Int32) : ∀ q ∈ tL_22 L xs, zOk (zgL L xs) iL_law q.1 q.2 := (z_c (ok_goto dL_law_470 (by decide)) (z_c (ok_aload_n dL_law_473 rfl) (z_c (ok_aloadx dL_law_474 rfl) (z_c (ok_iload_n dL_law_475 rfl) (z_c (ok_iconst (v := (1)) dL_law_476 (by decide)) (z_c (ok_iadd dL_law_477) (z_c (ok_sld zx_scr dL_law_478) (z_c (ok_aloadx dL_law_479 rfl) (z_c (ok_iload_n dL_law_480 rfl) (z_c (ok_iconst (v := (2)) dL_law_481 (by decide)) (z_c (ok_iadd dL_law_482) (z_c (ok_sld zx_scr dL_law_483) z_n))))))))))))
noncomputable def tL_23 (L : Nat) (xs : Nat → Int32) : List (Nat × zF) := [(484, (zlx 0 1)), (485, (zli4 3 1)), (486, (zst 1 (zp (.int (3))))), (487, (zst 1 z_iadd)), (488, (zst 1 (zbx 3 L xs))), (489, (zcv 121 3 11)), (492, (zst 1 zpo)), (493, (zla4 2 1)), (494, (zlx 0 1)), (495, (zli4 3 1)), (496, (zst 1 (zp (.int (1))))), (497, (zst 1 z_iadd))]
theorem kL_23 (L : Nat) (xs : Nat → Int32) : ∀ q ∈ tL_23 L xs, zOk (zgL L xs) iL_law q.1 q.2 := (z_c (ok_aloadx dL_law_484 rfl) (z_c (ok_iload_n dL_law_485 rfl) (z_c (ok_iconst (v := (3)) dL_law_486 (by decide)) (z_c (ok_iadd dL_law_487) (z_c (ok_sld zx_scr dL_law_488) (z_c (ok_callV zcal_121 (q := (RX11, TX11, 16)) rfl zw_1579 zw_1580 zw_1581 dL_law_489) (z_c (ok_pop dL_law_492) (z_c (ok_aload_n dL_law_493 rfl) (z_c (ok_aloadx dL_law_494 rfl) (z_c (ok_iload_n dL_law_495 rfl) (z_c (ok_iconst (v := (1)) dL_law_496 (by decide)) (z_c (ok_iadd dL_law_497) z_n))))))))))))
noncomputable def tL_24 (L : Nat) (xs : Nat → Int32) : List (Nat × zF) := [(498, (zst 1 (zbx 3 L xs))), (499, (zlx 0 1)), (500, (zli4 3 1)), (501, (zst 1 (zp (.int (2))))), (502, (zst 1 z_iadd)), (503, (zst 1 (zbx 3 L xs))), (504, (zlx 0 1)), (505, (zli4 3 1)), (506, (zst 1 (zp (.int (3))))), (507, (zst 1 z_iadd)), (508, (zst 1 (zbx 3 L xs))), (509, (zcv 247 3 12))]
theorem kL_24 (L : Nat) (xs : Nat → Int32) : ∀ q ∈ tL_24 L xs, zOk (zgL L xs) iL_law q.1 q.2 := (z_c (ok_sld zx_scr dL_law_498) (z_c (ok_aloadx dL_law_499 rfl) (z_c (ok_iload_n dL_law_500 rfl) (z_c (ok_iconst (v := (2)) dL_law_501 (by decide)) (z_c (ok_iadd dL_law_502) (z_c (ok_sld zx_scr dL_law_503) (z_c (ok_aloadx dL_law_504 rfl) (z_c (ok_iload_n dL_law_505 rfl) (z_c (ok_iconst (v := (3)) dL_law_506 (by decide)) (z_c (ok_iadd dL_law_507) (z_c (ok_sld zx_scr dL_law_508) (z_c (ok_callV zcal_247 (q := (RX12, TX12, 73)) rfl zw_1582 zw_1583 zw_1584 dL_law_509) z_n))))))))))))
noncomputable def tL_25 (L : Nat) (xs : Nat → Int32) : List (Nat × zF) := [(512, (zst 1 zpo)), (513, (zgt 1042)), (516, (zla4 1 1)), (517, (zlx 0 1)), (518, (zli4 3 1)), (519, (zst 1 (zp (.int (1))))), (520, (zst 1 z_iadd)), (521, (zst 1 (zbx 3 L xs))), (522, (zcv 122 1 11)), (525, (zst 1 zpo)), (526, (zla4 2 1)), (527, (zlx 0 1))]
theorem kL_25 (L : Nat) (xs : Nat → Int32) : ∀ q ∈ tL_25 L xs, zOk (zgL L xs) iL_law q.1 q.2 := (z_c (ok_pop dL_law_512) (z_c (ok_goto dL_law_513 (by decide)) (z_c (ok_aload_n dL_law_516 rfl) (z_c (ok_aloadx dL_law_517 rfl) (z_c (ok_iload_n dL_law_518 rfl) (z_c (ok_iconst (v := (1)) dL_law_519 (by decide)) (z_c (ok_iadd dL_law_520) (z_c (ok_sld zx_scr dL_law_521) (z_c (ok_callV zcal_122 (q := (RX11, TX11, 16)) rfl zw_1585 zw_1586 zw_1587 dL_law_522) (z_c (ok_pop dL_law_525) (z_c (ok_aload_n dL_law_526 rfl) (z_c (ok_aloadx dL_law_527 rfl) z_n))))))))))))
noncomputable def tL_26 (L : Nat) (xs : Nat → Int32) : List (Nat × zF) := [(528, (zli4 3 1)), (529, (zst 1 (zp (.int (1))))), (530, (zst 1 z_iadd)), (531, (zst 1 (zbx 3 L xs))), (532, (zcv 248 1 12)), (535, (zst 1 zpo)), (536, (zgt 1042)), (539, (zla4 1 1)), (540, (zlx 0 1)), (541, (zli4 3 1)), (542, (zst 1 (zp (.int (1))))), (543, (zst 1 z_iadd))]
theorem kL_26 (L : Nat) (xs : Nat → Int32) : ∀ q ∈ tL_26 L xs, zOk (zgL L xs) iL_law q.1 q.2 := (z_c (ok_iload_n dL_law_528 rfl) (z_c (ok_iconst (v := (1)) dL_law_529 (by decide)) (z_c (ok_iadd dL_law_530) (z_c (ok_sld zx_scr dL_law_531) (z_c (ok_callV zcal_248 (q := (RX12, TX12, 73)) rfl zw_1588 zw_1589 zw_1590 dL_law_532) (z_c (ok_pop dL_law_535) (z_c (ok_goto dL_law_536 (by decide)) (z_c (ok_aload_n dL_law_539 rfl) (z_c (ok_aloadx dL_law_540 rfl) (z_c (ok_iload_n dL_law_541 rfl) (z_c (ok_iconst (v := (1)) dL_law_542 (by decide)) (z_c (ok_iadd dL_law_543) z_n))))))))))))
noncomputable def tL_27 (L : Nat) (xs : Nat → Int32) : List (Nat × zF) := [(544, (zst 1 (zbx 3 L xs))), (545, (zlx 0 1)), (546, (zli4 3 1)), (547, (zst 1 (zp (.int (2))))), (548, (zst 1 z_iadd)), (549, (zst 1 (zbx 3 L xs))), (550, (zcv 123 2 11)), (553, (zst 1 zpo)), (554, (zla4 2 1)), (555, (zlx 0 1)), (556, (zli4 3 1)), (557, (zst 1 (zp (.int (1)))))]
theorem kL_27 (L : Nat) (xs : Nat → Int32) : ∀ q ∈ tL_27 L xs, zOk (zgL L xs) iL_law q.1 q.2 := (z_c (ok_sld zx_scr dL_law_544) (z_c (ok_aloadx dL_law_545 rfl) (z_c (ok_iload_n dL_law_546 rfl) (z_c (ok_iconst (v := (2)) dL_law_547 (by decide)) (z_c (ok_iadd dL_law_548) (z_c (ok_sld zx_scr dL_law_549) (z_c (ok_callV zcal_123 (q := (RX11, TX11, 16)) rfl zw_1591 zw_1592 zw_1593 dL_law_550) (z_c (ok_pop dL_law_553) (z_c (ok_aload_n dL_law_554 rfl) (z_c (ok_aloadx dL_law_555 rfl) (z_c (ok_iload_n dL_law_556 rfl) (z_c (ok_iconst (v := (1)) dL_law_557 (by decide)) z_n))))))))))))
noncomputable def tL_28 (L : Nat) (xs : Nat → Int32) : List (Nat × zF) := [(558, (zst 1 z_iadd)), (559, (zst 1 (zbx 3 L xs))), (560, (zlx 0 1)), (561, (zli4 3 1)), (562, (zst 1 (zp (.int (2))))), (563, (zst 1 z_iadd)), (564, (zst 1 (zbx 3 L xs))), (565, (zcv 249 2 12)), (568, (zst 1 zpo)), (569, (zgt 1042)), (572, (zla4 1 1)), (573, (zlx 0 1))]
theorem kL_28 (L : Nat) (xs : Nat → Int32) : ∀ q ∈ tL_28 L xs, zOk (zgL L xs) iL_law q.1 q.2 := (z_c (ok_iadd dL_law_558) (z_c (ok_sld zx_scr dL_law_559) (z_c (ok_aloadx dL_law_560 rfl) (z_c (ok_iload_n dL_law_561 rfl) (z_c (ok_iconst (v := (2)) dL_law_562 (by decide)) (z_c (ok_iadd dL_law_563) (z_c (ok_sld zx_scr dL_law_564) (z_c (ok_callV zcal_249 (q := (RX12, TX12, 73)) rfl zw_1594 zw_1595 zw_1596 dL_law_565) (z_c (ok_pop dL_law_568) (z_c (ok_goto dL_law_569 (by decide)) (z_c (ok_aload_n dL_law_572 rfl) (z_c (ok_aloadx dL_law_573 rfl) z_n))))))))))))
noncomputable def tL_29 (L : Nat) (xs : Nat → Int32) : List (Nat × zF) := [(574, (zli4 3 1)), (575, (zst 1 (zp (.int (1))))), (576, (zst 1 z_iadd)), (577, (zst 1 (zbx 3 L xs))), (578, (zlx 0 1)), (579, (zli4 3 1)), (580, (zst 1 (zp (.int (2))))), (581, (zst 1 z_iadd)), (582, (zst 1 (zbx 3 L xs))), (583, (zcv 124 2 11)), (586, (zst 1 zpo)), (587, (zla4 2 1))]
theorem kL_29 (L : Nat) (xs : Nat → Int32) : ∀ q ∈ tL_29 L xs, zOk (zgL L xs) iL_law q.1 q.2 := (z_c (ok_iload_n dL_law_574 rfl) (z_c (ok_iconst (v := (1)) dL_law_575 (by decide)) (z_c (ok_iadd dL_law_576) (z_c (ok_sld zx_scr dL_law_577) (z_c (ok_aloadx dL_law_578 rfl) (z_c (ok_iload_n dL_law_579 rfl) (z_c (ok_iconst (v := (2)) dL_law_580 (by decide)) (z_c (ok_iadd dL_law_581) (z_c (ok_sld zx_scr dL_law_582) (z_c (ok_callV zcal_124 (q := (RX11, TX11, 16)) rfl zw_1597 zw_1598 zw_1599 dL_law_583) (z_c (ok_pop dL_law_586) (z_c (ok_aload_n dL_law_587 rfl) z_n))))))))))))
noncomputable def tL_30 (L : Nat) (xs : Nat → Int32) : List (Nat × zF) := [(588, (zlx 0 1)), (589, (zli4 3 1)), (590, (zst 1 (zp (.int (1))))), (591, (zst 1 z_iadd)), (592, (zst 1 (zbx 3 L xs))), (593, (zlx 0 1)), (594, (zli4 3 1)), (595, (zst 1 (zp (.int (2))))), (596, (zst 1 z_iadd)), (597, (zst 1 (zbx 3 L xs))), (598, (zcv 251 2 12)), (601, (zst 1 zpo))]
theorem kL_30 (L : Nat) (xs : Nat → Int32) : ∀ q ∈ tL_30 L xs, zOk (zgL L xs) iL_law q.1 q.2 := (z_c (ok_aloadx dL_law_588 rfl) (z_c (ok_iload_n dL_law_589 rfl) (z_c (ok_iconst (v := (1)) dL_law_590 (by decide)) (z_c (ok_iadd dL_law_591) (z_c (ok_sld zx_scr dL_law_592) (z_c (ok_aloadx dL_law_593 rfl) (z_c (ok_iload_n dL_law_594 rfl) (z_c (ok_iconst (v := (2)) dL_law_595 (by decide)) (z_c (ok_iadd dL_law_596) (z_c (ok_sld zx_scr dL_law_597) (z_c (ok_callV zcal_251 (q := (RX12, TX12, 73)) rfl zw_1600 zw_1601 zw_1602 dL_law_598) (z_c (ok_pop dL_law_601) z_n))))))))))))
noncomputable def tL_31 (L : Nat) (xs : Nat → Int32) : List (Nat × zF) := [(602, (zgt 1042)), (605, (zla4 1 1)), (606, (zlx 0 1)), (607, (zli4 3 1)), (608, (zst 1 (zp (.int (1))))), (609, (zst 1 z_iadd)), (610, (zst 1 (zbx 3 L xs))), (611, (zlx 0 1)), (612, (zli4 3 1)), (613, (zst 1 (zp (.int (2))))), (614, (zst 1 z_iadd)), (615, (zst 1 (zbx 3 L xs)))]
theorem kL_31 (L : Nat) (xs : Nat → Int32) : ∀ q ∈ tL_31 L xs, zOk (zgL L xs) iL_law q.1 q.2 := (z_c (ok_goto dL_law_602 (by decide)) (z_c (ok_aload_n dL_law_605 rfl) (z_c (ok_aloadx dL_law_606 rfl) (z_c (ok_iload_n dL_law_607 rfl) (z_c (ok_iconst (v := (1)) dL_law_608 (by decide)) (z_c (ok_iadd dL_law_609) (z_c (ok_sld zx_scr dL_law_610) (z_c (ok_aloadx dL_law_611 rfl) (z_c (ok_iload_n dL_law_612 rfl) (z_c (ok_iconst (v := (2)) dL_law_613 (by decide)) (z_c (ok_iadd dL_law_614) (z_c (ok_sld zx_scr dL_law_615) z_n))))))))))))
noncomputable def tL_32 (L : Nat) (xs : Nat → Int32) : List (Nat × zF) := [(616, (zcv 125 2 11)), (619, (zst 1 zpo)), (620, (zla4 2 1)), (621, (zlx 0 1)), (622, (zli4 3 1)), (623, (zst 1 (zp (.int (1))))), (624, (zst 1 z_iadd)), (625, (zst 1 (zbx 3 L xs))), (626, (zlx 0 1)), (627, (zli4 3 1)), (628, (zst 1 (zp (.int (2))))), (629, (zst 1 z_iadd))]
theorem kL_32 (L : Nat) (xs : Nat → Int32) : ∀ q ∈ tL_32 L xs, zOk (zgL L xs) iL_law q.1 q.2 := (z_c (ok_callV zcal_125 (q := (RX11, TX11, 16)) rfl zw_1603 zw_1604 zw_1605 dL_law_616) (z_c (ok_pop dL_law_619) (z_c (ok_aload_n dL_law_620 rfl) (z_c (ok_aloadx dL_law_621 rfl) (z_c (ok_iload_n dL_law_622 rfl) (z_c (ok_iconst (v := (1)) dL_law_623 (by decide)) (z_c (ok_iadd dL_law_624) (z_c (ok_sld zx_scr dL_law_625) (z_c (ok_aloadx dL_law_626 rfl) (z_c (ok_iload_n dL_law_627 rfl) (z_c (ok_iconst (v := (2)) dL_law_628 (by decide)) (z_c (ok_iadd dL_law_629) z_n))))))))))))
noncomputable def tL_33 (L : Nat) (xs : Nat → Int32) : List (Nat × zF) := [(630, (zst 1 (zbx 3 L xs))), (631, (zcv 252 2 12)), (634, (zst 1 zpo)), (635, (zgt 1042)), (638, (zla4 1 1)), (639, (zcv 126 0 11)), (642, (zst 1 zpo)), (643, (zla4 2 1)), (644, (zcv 253 0 12)), (647, (zst 1 zpo)), (648, (zgt 1042)), (651, (zla4 1 1))]
theorem kL_33 (L : Nat) (xs : Nat → Int32) : ∀ q ∈ tL_33 L xs, zOk (zgL L xs) iL_law q.1 q.2 := (z_c (ok_sld zx_scr dL_law_630) (z_c (ok_callV zcal_252 (q := (RX12, TX12, 73)) rfl zw_1606 zw_1607 zw_1608 dL_law_631) (z_c (ok_pop dL_law_634) (z_c (ok_goto dL_law_635 (by decide)) (z_c (ok_aload_n dL_law_638 rfl) (z_c (ok_callV zcal_126 (q := (RX11, TX11, 16)) rfl zw_1609 zw_1610 zw_1611 dL_law_639) (z_c (ok_pop dL_law_642) (z_c (ok_aload_n dL_law_643 rfl) (z_c (ok_callV zcal_253 (q := (RX12, TX12, 73)) rfl zw_1612 zw_1613 zw_1614 dL_law_644) (z_c (ok_pop dL_law_647) (z_c (ok_goto dL_law_648 (by decide)) (z_c (ok_aload_n dL_law_651 rfl) z_n))))))))))))
noncomputable def tL_34 (L : Nat) (xs : Nat → Int32) : List (Nat × zF) := [(652, (zlx 0 1)), (653, (zli4 3 1)), (654, (zst 1 (zp (.int (1))))), (655, (zst 1 z_iadd)), (656, (zst 1 (zbx 3 L xs))), (657, (zcv 127 1 11)), (660, (zst 1 zpo)), (661, (zla4 2 1)), (662, (zlx 0 1)), (663, (zli4 3 1)), (664, (zst 1 (zp (.int (1))))), (665, (zst 1 z_iadd))]
theorem kL_34 (L : Nat) (xs : Nat → Int32) : ∀ q ∈ tL_34 L xs, zOk (zgL L xs) iL_law q.1 q.2 := (z_c (ok_aloadx dL_law_652 rfl) (z_c (ok_iload_n dL_law_653 rfl) (z_c (ok_iconst (v := (1)) dL_law_654 (by decide)) (z_c (ok_iadd dL_law_655) (z_c (ok_sld zx_scr dL_law_656) (z_c (ok_callV zcal_127 (q := (RX11, TX11, 16)) rfl zw_1615 zw_1616 zw_1617 dL_law_657) (z_c (ok_pop dL_law_660) (z_c (ok_aload_n dL_law_661 rfl) (z_c (ok_aloadx dL_law_662 rfl) (z_c (ok_iload_n dL_law_663 rfl) (z_c (ok_iconst (v := (1)) dL_law_664 (by decide)) (z_c (ok_iadd dL_law_665) z_n))))))))))))
noncomputable def tL_35 (L : Nat) (xs : Nat → Int32) : List (Nat × zF) := [(666, (zst 1 (zbx 3 L xs))), (667, (zcv 257 1 12)), (670, (zst 1 zpo)), (671, (zgt 1042)), (674, (zla4 1 1)), (675, (zlx 0 1)), (676, (zli4 3 1)), (677, (zst 1 (zp (.int (1))))), (678, (zst 1 z_iadd)), (679, (zst 1 (zbx 3 L xs))), (680, (zcv 128 1 11)), (683, (zst 1 zpo))]
theorem kL_35 (L : Nat) (xs : Nat → Int32) : ∀ q ∈ tL_35 L xs, zOk (zgL L xs) iL_law q.1 q.2 := (z_c (ok_sld zx_scr dL_law_666) (z_c (ok_callV zcal_257 (q := (RX12, TX12, 73)) rfl zw_1618 zw_1619 zw_1620 dL_law_667) (z_c (ok_pop dL_law_670) (z_c (ok_goto dL_law_671 (by decide)) (z_c (ok_aload_n dL_law_674 rfl) (z_c (ok_aloadx dL_law_675 rfl) (z_c (ok_iload_n dL_law_676 rfl) (z_c (ok_iconst (v := (1)) dL_law_677 (by decide)) (z_c (ok_iadd dL_law_678) (z_c (ok_sld zx_scr dL_law_679) (z_c (ok_callV zcal_128 (q := (RX11, TX11, 16)) rfl zw_1621 zw_1622 zw_1623 dL_law_680) (z_c (ok_pop dL_law_683) z_n))))))))))))
noncomputable def tL_36 (L : Nat) (xs : Nat → Int32) : List (Nat × zF) := [(684, (zla4 2 1)), (685, (zlx 0 1)), (686, (zli4 3 1)), (687, (zst 1 (zp (.int (1))))), (688, (zst 1 z_iadd)), (689, (zst 1 (zbx 3 L xs))), (690, (zcv 258 1 12)), (693, (zst 1 zpo)), (694, (zgt 1042)), (697, (zla4 1 1)), (698, (zcv 129 0 11)), (701, (zst 1 zpo))]
theorem kL_36 (L : Nat) (xs : Nat → Int32) : ∀ q ∈ tL_36 L xs, zOk (zgL L xs) iL_law q.1 q.2 := (z_c (ok_aload_n dL_law_684 rfl) (z_c (ok_aloadx dL_law_685 rfl) (z_c (ok_iload_n dL_law_686 rfl) (z_c (ok_iconst (v := (1)) dL_law_687 (by decide)) (z_c (ok_iadd dL_law_688) (z_c (ok_sld zx_scr dL_law_689) (z_c (ok_callV zcal_258 (q := (RX12, TX12, 73)) rfl zw_1624 zw_1625 zw_1626 dL_law_690) (z_c (ok_pop dL_law_693) (z_c (ok_goto dL_law_694 (by decide)) (z_c (ok_aload_n dL_law_697 rfl) (z_c (ok_callV zcal_129 (q := (RX11, TX11, 16)) rfl zw_1627 zw_1628 zw_1629 dL_law_698) (z_c (ok_pop dL_law_701) z_n))))))))))))
noncomputable def tL_37 (L : Nat) (xs : Nat → Int32) : List (Nat × zF) := [(702, (zla4 2 1)), (703, (zcv 259 0 12)), (706, (zst 1 zpo)), (707, (zgt 1042)), (710, (zla4 1 1)), (711, (zlx 0 1)), (712, (zli4 3 1)), (713, (zst 1 (zp (.int (1))))), (714, (zst 1 z_iadd)), (715, (zst 1 (zbx 3 L xs))), (716, (zcv 130 1 11)), (719, (zst 1 zpo))]
theorem kL_37 (L : Nat) (xs : Nat → Int32) : ∀ q ∈ tL_37 L xs, zOk (zgL L xs) iL_law q.1 q.2 := (z_c (ok_aload_n dL_law_702 rfl) (z_c (ok_callV zcal_259 (q := (RX12, TX12, 73)) rfl zw_1630 zw_1631 zw_1632 dL_law_703) (z_c (ok_pop dL_law_706) (z_c (ok_goto dL_law_707 (by decide)) (z_c (ok_aload_n dL_law_710 rfl) (z_c (ok_aloadx dL_law_711 rfl) (z_c (ok_iload_n dL_law_712 rfl) (z_c (ok_iconst (v := (1)) dL_law_713 (by decide)) (z_c (ok_iadd dL_law_714) (z_c (ok_sld zx_scr dL_law_715) (z_c (ok_callV zcal_130 (q := (RX11, TX11, 16)) rfl zw_1633 zw_1634 zw_1635 dL_law_716) (z_c (ok_pop dL_law_719) z_n))))))))))))
noncomputable def tL_38 (L : Nat) (xs : Nat → Int32) : List (Nat × zF) := [(720, (zla4 2 1)), (721, (zlx 0 1)), (722, (zli4 3 1)), (723, (zst 1 (zp (.int (1))))), (724, (zst 1 z_iadd)), (725, (zst 1 (zbx 3 L xs))), (726, (zcv 261 1 12)), (729, (zst 1 zpo)), (730, (zgt 1042)), (733, (zla4 1 1)), (734, (zlx 0 1)), (735, (zli4 3 1))]
theorem kL_38 (L : Nat) (xs : Nat → Int32) : ∀ q ∈ tL_38 L xs, zOk (zgL L xs) iL_law q.1 q.2 := (z_c (ok_aload_n dL_law_720 rfl) (z_c (ok_aloadx dL_law_721 rfl) (z_c (ok_iload_n dL_law_722 rfl) (z_c (ok_iconst (v := (1)) dL_law_723 (by decide)) (z_c (ok_iadd dL_law_724) (z_c (ok_sld zx_scr dL_law_725) (z_c (ok_callV zcal_261 (q := (RX12, TX12, 73)) rfl zw_1636 zw_1637 zw_1638 dL_law_726) (z_c (ok_pop dL_law_729) (z_c (ok_goto dL_law_730 (by decide)) (z_c (ok_aload_n dL_law_733 rfl) (z_c (ok_aloadx dL_law_734 rfl) (z_c (ok_iload_n dL_law_735 rfl) z_n))))))))))))
noncomputable def tL_39 (L : Nat) (xs : Nat → Int32) : List (Nat × zF) := [(736, (zst 1 (zp (.int (1))))), (737, (zst 1 z_iadd)), (738, (zst 1 (zbx 3 L xs))), (739, (zlx 0 1)), (740, (zli4 3 1)), (741, (zst 1 (zp (.int (2))))), (742, (zst 1 z_iadd)), (743, (zst 1 (zbx 3 L xs))), (744, (zcv 131 2 11)), (747, (zst 1 zpo)), (748, (zla4 2 1)), (749, (zlx 0 1))]
theorem kL_39 (L : Nat) (xs : Nat → Int32) : ∀ q ∈ tL_39 L xs, zOk (zgL L xs) iL_law q.1 q.2 := (z_c (ok_iconst (v := (1)) dL_law_736 (by decide)) (z_c (ok_iadd dL_law_737) (z_c (ok_sld zx_scr dL_law_738) (z_c (ok_aloadx dL_law_739 rfl) (z_c (ok_iload_n dL_law_740 rfl) (z_c (ok_iconst (v := (2)) dL_law_741 (by decide)) (z_c (ok_iadd dL_law_742) (z_c (ok_sld zx_scr dL_law_743) (z_c (ok_callV zcal_131 (q := (RX11, TX11, 16)) rfl zw_1639 zw_1640 zw_1641 dL_law_744) (z_c (ok_pop dL_law_747) (z_c (ok_aload_n dL_law_748 rfl) (z_c (ok_aloadx dL_law_749 rfl) z_n))))))))))))
noncomputable def tL_40 (L : Nat) (xs : Nat → Int32) : List (Nat × zF) := [(750, (zli4 3 1)), (751, (zst 1 (zp (.int (1))))), (752, (zst 1 z_iadd)), (753, (zst 1 (zbx 3 L xs))), (754, (zlx 0 1)), (755, (zli4 3 1)), (756, (zst 1 (zp (.int (2))))), (757, (zst 1 z_iadd)), (758, (zst 1 (zbx 3 L xs))), (759, (zcv 263 2 12)), (762, (zst 1 zpo)), (763, (zgt 1042))]
theorem kL_40 (L : Nat) (xs : Nat → Int32) : ∀ q ∈ tL_40 L xs, zOk (zgL L xs) iL_law q.1 q.2 := (z_c (ok_iload_n dL_law_750 rfl) (z_c (ok_iconst (v := (1)) dL_law_751 (by decide)) (z_c (ok_iadd dL_law_752) (z_c (ok_sld zx_scr dL_law_753) (z_c (ok_aloadx dL_law_754 rfl) (z_c (ok_iload_n dL_law_755 rfl) (z_c (ok_iconst (v := (2)) dL_law_756 (by decide)) (z_c (ok_iadd dL_law_757) (z_c (ok_sld zx_scr dL_law_758) (z_c (ok_callV zcal_263 (q := (RX12, TX12, 73)) rfl zw_1642 zw_1643 zw_1644 dL_law_759) (z_c (ok_pop dL_law_762) (z_c (ok_goto dL_law_763 (by decide)) z_n))))))))))))
noncomputable def tL_41 (L : Nat) (xs : Nat → Int32) : List (Nat × zF) := [(766, (zla4 1 1)), (767, (zlx 0 1)), (768, (zli4 3 1)), (769, (zst 1 (zp (.int (1))))), (770, (zst 1 z_iadd)), (771, (zst 1 (zbx 3 L xs))), (772, (zcv 132 1 11)), (775, (zla4 2 1)), (776, (zlx 0 1)), (777, (zli4 3 1)), (778, (zst 1 (zp (.int (1))))), (779, (zst 1 z_iadd))]
theorem kL_41 (L : Nat) (xs : Nat → Int32) : ∀ q ∈ tL_41 L xs, zOk (zgL L xs) iL_law q.1 q.2 := (z_c (ok_aload_n dL_law_766 rfl) (z_c (ok_aloadx dL_law_767 rfl) (z_c (ok_iload_n dL_law_768 rfl) (z_c (ok_iconst (v := (1)) dL_law_769 (by decide)) (z_c (ok_iadd dL_law_770) (z_c (ok_sld zx_scr dL_law_771) (z_c (ok_callV zcal_132 (q := (RX11, TX11, 16)) rfl zw_1645 zw_1646 zw_1647 dL_law_772) (z_c (ok_aload_n dL_law_775 rfl) (z_c (ok_aloadx dL_law_776 rfl) (z_c (ok_iload_n dL_law_777 rfl) (z_c (ok_iconst (v := (1)) dL_law_778 (by decide)) (z_c (ok_iadd dL_law_779) z_n))))))))))))
noncomputable def tL_42 (L : Nat) (xs : Nat → Int32) : List (Nat × zF) := [(780, (zst 1 (zbx 3 L xs))), (781, (zcv 264 1 12)), (784, (z_ic_eq 1042)), (787, (zst 1 (zp (.int (0))))), (788, (zri true)), (789, (zla4 1 1)), (790, (zlx 0 1)), (791, (zli4 3 1)), (792, (zst 1 (zp (.int (1))))), (793, (zst 1 z_iadd)), (794, (zst 1 (zbx 3 L xs))), (795, (zcv 133 1 11))]
theorem kL_42 (L : Nat) (xs : Nat → Int32) : ∀ q ∈ tL_42 L xs, zOk (zgL L xs) iL_law q.1 q.2 := (z_c (ok_sld zx_scr dL_law_780) (z_c (ok_callV zcal_264 (q := (RX12, TX12, 73)) rfl zw_1648 zw_1649 zw_1650 dL_law_781) (z_c (ok_icmp_eq dL_law_784 (by decide)) (z_c (ok_iconst (v := (0)) dL_law_787 (by decide)) (z_c (ok_zreturn rfl dL_law_788) (z_c (ok_aload_n dL_law_789 rfl) (z_c (ok_aloadx dL_law_790 rfl) (z_c (ok_iload_n dL_law_791 rfl) (z_c (ok_iconst (v := (1)) dL_law_792 (by decide)) (z_c (ok_iadd dL_law_793) (z_c (ok_sld zx_scr dL_law_794) (z_c (ok_callV zcal_133 (q := (RX11, TX11, 16)) rfl zw_1651 zw_1652 zw_1653 dL_law_795) z_n))))))))))))
noncomputable def tL_43 (L : Nat) (xs : Nat → Int32) : List (Nat × zF) := [(798, (zst 1 zpo)), (799, (zla4 2 1)), (800, (zlx 0 1)), (801, (zli4 3 1)), (802, (zst 1 (zp (.int (1))))), (803, (zst 1 z_iadd)), (804, (zst 1 (zbx 3 L xs))), (805, (zcv 266 1 12)), (808, (zst 1 zpo)), (809, (zgt 1042)), (812, (zla4 1 1)), (813, (zlx 0 1))]
theorem kL_43 (L : Nat) (xs : Nat → Int32) : ∀ q ∈ tL_43 L xs, zOk (zgL L xs) iL_law q.1 q.2 := (z_c (ok_pop dL_law_798) (z_c (ok_aload_n dL_law_799 rfl) (z_c (ok_aloadx dL_law_800 rfl) (z_c (ok_iload_n dL_law_801 rfl) (z_c (ok_iconst (v := (1)) dL_law_802 (by decide)) (z_c (ok_iadd dL_law_803) (z_c (ok_sld zx_scr dL_law_804) (z_c (ok_callV zcal_266 (q := (RX12, TX12, 73)) rfl zw_1654 zw_1655 zw_1656 dL_law_805) (z_c (ok_pop dL_law_808) (z_c (ok_goto dL_law_809 (by decide)) (z_c (ok_aload_n dL_law_812 rfl) (z_c (ok_aloadx dL_law_813 rfl) z_n))))))))))))
noncomputable def tL_44 (L : Nat) (xs : Nat → Int32) : List (Nat × zF) := [(814, (zli4 3 1)), (815, (zst 1 (zp (.int (1))))), (816, (zst 1 z_iadd)), (817, (zst 1 (zbx 3 L xs))), (818, (zcv 134 1 11)), (821, (zst 1 zpo)), (822, (zla4 2 1)), (823, (zlx 0 1)), (824, (zli4 3 1)), (825, (zst 1 (zp (.int (1))))), (826, (zst 1 z_iadd)), (827, (zst 1 (zbx 3 L xs)))]
theorem kL_44 (L : Nat) (xs : Nat → Int32) : ∀ q ∈ tL_44 L xs, zOk (zgL L xs) iL_law q.1 q.2 := (z_c (ok_iload_n dL_law_814 rfl) (z_c (ok_iconst (v := (1)) dL_law_815 (by decide)) (z_c (ok_iadd dL_law_816) (z_c (ok_sld zx_scr dL_law_817) (z_c (ok_callV zcal_134 (q := (RX11, TX11, 16)) rfl zw_1657 zw_1658 zw_1659 dL_law_818) (z_c (ok_pop dL_law_821) (z_c (ok_aload_n dL_law_822 rfl) (z_c (ok_aloadx dL_law_823 rfl) (z_c (ok_iload_n dL_law_824 rfl) (z_c (ok_iconst (v := (1)) dL_law_825 (by decide)) (z_c (ok_iadd dL_law_826) (z_c (ok_sld zx_scr dL_law_827) z_n))))))))))))
noncomputable def tL_45 (L : Nat) (xs : Nat → Int32) : List (Nat × zF) := [(828, (zcv 268 1 12)), (831, (zst 1 zpo)), (832, (zgt 1042)), (835, (zla4 1 1)), (836, (zlx 0 1)), (837, (zli4 3 1)), (838, (zst 1 (zp (.int (1))))), (839, (zst 1 z_iadd)), (840, (zst 1 (zbx 3 L xs))), (841, (zcv 135 1 11)), (844, (zst 1 zpo)), (845, (zla4 2 1))]
theorem kL_45 (L : Nat) (xs : Nat → Int32) : ∀ q ∈ tL_45 L xs, zOk (zgL L xs) iL_law q.1 q.2 := (z_c (ok_callV zcal_268 (q := (RX12, TX12, 73)) rfl zw_1660 zw_1661 zw_1662 dL_law_828) (z_c (ok_pop dL_law_831) (z_c (ok_goto dL_law_832 (by decide)) (z_c (ok_aload_n dL_law_835 rfl) (z_c (ok_aloadx dL_law_836 rfl) (z_c (ok_iload_n dL_law_837 rfl) (z_c (ok_iconst (v := (1)) dL_law_838 (by decide)) (z_c (ok_iadd dL_law_839) (z_c (ok_sld zx_scr dL_law_840) (z_c (ok_callV zcal_135 (q := (RX11, TX11, 16)) rfl zw_1663 zw_1664 zw_1665 dL_law_841) (z_c (ok_pop dL_law_844) (z_c (ok_aload_n dL_law_845 rfl) z_n))))))))))))
noncomputable def tL_46 (L : Nat) (xs : Nat → Int32) : List (Nat × zF) := [(846, (zlx 0 1)), (847, (zli4 3 1)), (848, (zst 1 (zp (.int (1))))), (849, (zst 1 z_iadd)), (850, (zst 1 (zbx 3 L xs))), (851, (zcv 269 1 12)), (854, (zst 1 zpo)), (855, (zgt 1042)), (858, (zla4 1 1)), (859, (zlx 0 1)), (860, (zli4 3 1)), (861, (zst 1 (zp (.int (1)))))]
theorem kL_46 (L : Nat) (xs : Nat → Int32) : ∀ q ∈ tL_46 L xs, zOk (zgL L xs) iL_law q.1 q.2 := (z_c (ok_aloadx dL_law_846 rfl) (z_c (ok_iload_n dL_law_847 rfl) (z_c (ok_iconst (v := (1)) dL_law_848 (by decide)) (z_c (ok_iadd dL_law_849) (z_c (ok_sld zx_scr dL_law_850) (z_c (ok_callV zcal_269 (q := (RX12, TX12, 73)) rfl zw_1666 zw_1667 zw_1668 dL_law_851) (z_c (ok_pop dL_law_854) (z_c (ok_goto dL_law_855 (by decide)) (z_c (ok_aload_n dL_law_858 rfl) (z_c (ok_aloadx dL_law_859 rfl) (z_c (ok_iload_n dL_law_860 rfl) (z_c (ok_iconst (v := (1)) dL_law_861 (by decide)) z_n))))))))))))
noncomputable def tL_47 (L : Nat) (xs : Nat → Int32) : List (Nat × zF) := [(862, (zst 1 z_iadd)), (863, (zst 1 (zbx 3 L xs))), (864, (zlx 0 1)), (865, (zli4 3 1)), (866, (zst 1 (zp (.int (2))))), (867, (zst 1 z_iadd)), (868, (zst 1 (zbx 3 L xs))), (869, (zlx 0 1)), (870, (zli4 3 1)), (871, (zst 1 (zp (.int (3))))), (872, (zst 1 z_iadd)), (873, (zst 1 (zbx 3 L xs)))]
theorem kL_47 (L : Nat) (xs : Nat → Int32) : ∀ q ∈ tL_47 L xs, zOk (zgL L xs) iL_law q.1 q.2 := (z_c (ok_iadd dL_law_862) (z_c (ok_sld zx_scr dL_law_863) (z_c (ok_aloadx dL_law_864 rfl) (z_c (ok_iload_n dL_law_865 rfl) (z_c (ok_iconst (v := (2)) dL_law_866 (by decide)) (z_c (ok_iadd dL_law_867) (z_c (ok_sld zx_scr dL_law_868) (z_c (ok_aloadx dL_law_869 rfl) (z_c (ok_iload_n dL_law_870 rfl) (z_c (ok_iconst (v := (3)) dL_law_871 (by decide)) (z_c (ok_iadd dL_law_872) (z_c (ok_sld zx_scr dL_law_873) z_n))))))))))))
noncomputable def tL_48 (L : Nat) (xs : Nat → Int32) : List (Nat × zF) := [(874, (zcv 136 3 11)), (877, (zst 1 zpo)), (878, (zla4 2 1)), (879, (zlx 0 1)), (880, (zli4 3 1)), (881, (zst 1 (zp (.int (1))))), (882, (zst 1 z_iadd)), (883, (zst 1 (zbx 3 L xs))), (884, (zlx 0 1)), (885, (zli4 3 1)), (886, (zst 1 (zp (.int (2))))), (887, (zst 1 z_iadd))]
theorem kL_48 (L : Nat) (xs : Nat → Int32) : ∀ q ∈ tL_48 L xs, zOk (zgL L xs) iL_law q.1 q.2 := (z_c (ok_callV zcal_136 (q := (RX11, TX11, 16)) rfl zw_1669 zw_1670 zw_1671 dL_law_874) (z_c (ok_pop dL_law_877) (z_c (ok_aload_n dL_law_878 rfl) (z_c (ok_aloadx dL_law_879 rfl) (z_c (ok_iload_n dL_law_880 rfl) (z_c (ok_iconst (v := (1)) dL_law_881 (by decide)) (z_c (ok_iadd dL_law_882) (z_c (ok_sld zx_scr dL_law_883) (z_c (ok_aloadx dL_law_884 rfl) (z_c (ok_iload_n dL_law_885 rfl) (z_c (ok_iconst (v := (2)) dL_law_886 (by decide)) (z_c (ok_iadd dL_law_887) z_n))))))))))))
noncomputable def tL_49 (L : Nat) (xs : Nat → Int32) : List (Nat × zF) := [(888, (zst 1 (zbx 3 L xs))), (889, (zlx 0 1)), (890, (zli4 3 1)), (891, (zst 1 (zp (.int (3))))), (892, (zst 1 z_iadd)), (893, (zst 1 (zbx 3 L xs))), (894, (zcv 270 3 12)), (897, (zst 1 zpo)), (898, (zgt 1042)), (901, (zla4 1 1)), (902, (zcv 137 0 11)), (905, (zst 1 zpo))]
theorem kL_49 (L : Nat) (xs : Nat → Int32) : ∀ q ∈ tL_49 L xs, zOk (zgL L xs) iL_law q.1 q.2 := (z_c (ok_sld zx_scr dL_law_888) (z_c (ok_aloadx dL_law_889 rfl) (z_c (ok_iload_n dL_law_890 rfl) (z_c (ok_iconst (v := (3)) dL_law_891 (by decide)) (z_c (ok_iadd dL_law_892) (z_c (ok_sld zx_scr dL_law_893) (z_c (ok_callV zcal_270 (q := (RX12, TX12, 73)) rfl zw_1672 zw_1673 zw_1674 dL_law_894) (z_c (ok_pop dL_law_897) (z_c (ok_goto dL_law_898 (by decide)) (z_c (ok_aload_n dL_law_901 rfl) (z_c (ok_callV zcal_137 (q := (RX11, TX11, 16)) rfl zw_1675 zw_1676 zw_1677 dL_law_902) (z_c (ok_pop dL_law_905) z_n))))))))))))
noncomputable def tL_50 (L : Nat) (xs : Nat → Int32) : List (Nat × zF) := [(906, (zla4 2 1)), (907, (zcv 214 0 12)), (910, (zst 1 zpo)), (911, (zgt 1042)), (914, (zla4 1 1)), (915, (zlx 0 1)), (916, (zli4 3 1)), (917, (zst 1 (zp (.int (1))))), (918, (zst 1 z_iadd)), (919, (zst 1 (zbx 3 L xs))), (920, (zcv 138 1 11)), (923, (zst 1 zpo))]
theorem kL_50 (L : Nat) (xs : Nat → Int32) : ∀ q ∈ tL_50 L xs, zOk (zgL L xs) iL_law q.1 q.2 := (z_c (ok_aload_n dL_law_906 rfl) (z_c (ok_callV zcal_214 (q := (RX12, TX12, 73)) rfl zw_1678 zw_1679 zw_1680 dL_law_907) (z_c (ok_pop dL_law_910) (z_c (ok_goto dL_law_911 (by decide)) (z_c (ok_aload_n dL_law_914 rfl) (z_c (ok_aloadx dL_law_915 rfl) (z_c (ok_iload_n dL_law_916 rfl) (z_c (ok_iconst (v := (1)) dL_law_917 (by decide)) (z_c (ok_iadd dL_law_918) (z_c (ok_sld zx_scr dL_law_919) (z_c (ok_callV zcal_138 (q := (RX11, TX11, 16)) rfl zw_1681 zw_1682 zw_1683 dL_law_920) (z_c (ok_pop dL_law_923) z_n))))))))))))
noncomputable def tL_51 (L : Nat) (xs : Nat → Int32) : List (Nat × zF) := [(924, (zla4 2 1)), (925, (zlx 0 1)), (926, (zli4 3 1)), (927, (zst 1 (zp (.int (1))))), (928, (zst 1 z_iadd)), (929, (zst 1 (zbx 3 L xs))), (930, (zcv 271 1 12)), (933, (zst 1 zpo)), (934, (zgt 1042)), (937, (zla4 1 1)), (938, (zlx 0 1)), (939, (zli4 3 1))]
theorem kL_51 (L : Nat) (xs : Nat → Int32) : ∀ q ∈ tL_51 L xs, zOk (zgL L xs) iL_law q.1 q.2 := (z_c (ok_aload_n dL_law_924 rfl) (z_c (ok_aloadx dL_law_925 rfl) (z_c (ok_iload_n dL_law_926 rfl) (z_c (ok_iconst (v := (1)) dL_law_927 (by decide)) (z_c (ok_iadd dL_law_928) (z_c (ok_sld zx_scr dL_law_929) (z_c (ok_callV zcal_271 (q := (RX12, TX12, 73)) rfl zw_1684 zw_1685 zw_1686 dL_law_930) (z_c (ok_pop dL_law_933) (z_c (ok_goto dL_law_934 (by decide)) (z_c (ok_aload_n dL_law_937 rfl) (z_c (ok_aloadx dL_law_938 rfl) (z_c (ok_iload_n dL_law_939 rfl) z_n))))))))))))
noncomputable def tL_52 (L : Nat) (xs : Nat → Int32) : List (Nat × zF) := [(940, (zst 1 (zp (.int (1))))), (941, (zst 1 z_iadd)), (942, (zst 1 (zbx 3 L xs))), (943, (zlx 0 1)), (944, (zli4 3 1)), (945, (zst 1 (zp (.int (2))))), (946, (zst 1 z_iadd)), (947, (zst 1 (zbx 3 L xs))), (948, (zcv 139 2 11)), (951, (zst 1 zpo)), (952, (zla4 2 1)), (953, (zlx 0 1))]
theorem kL_52 (L : Nat) (xs : Nat → Int32) : ∀ q ∈ tL_52 L xs, zOk (zgL L xs) iL_law q.1 q.2 := (z_c (ok_iconst (v := (1)) dL_law_940 (by decide)) (z_c (ok_iadd dL_law_941) (z_c (ok_sld zx_scr dL_law_942) (z_c (ok_aloadx dL_law_943 rfl) (z_c (ok_iload_n dL_law_944 rfl) (z_c (ok_iconst (v := (2)) dL_law_945 (by decide)) (z_c (ok_iadd dL_law_946) (z_c (ok_sld zx_scr dL_law_947) (z_c (ok_callV zcal_139 (q := (RX11, TX11, 16)) rfl zw_1687 zw_1688 zw_1689 dL_law_948) (z_c (ok_pop dL_law_951) (z_c (ok_aload_n dL_law_952 rfl) (z_c (ok_aloadx dL_law_953 rfl) z_n))))))))))))
noncomputable def tL_53 (L : Nat) (xs : Nat → Int32) : List (Nat × zF) := [(954, (zli4 3 1)), (955, (zst 1 (zp (.int (1))))), (956, (zst 1 z_iadd)), (957, (zst 1 (zbx 3 L xs))), (958, (zlx 0 1)), (959, (zli4 3 1)), (960, (zst 1 (zp (.int (2))))), (961, (zst 1 z_iadd)), (962, (zst 1 (zbx 3 L xs))), (963, (zcv 272 2 12)), (966, (zst 1 zpo)), (967, (zgt 1042))]
theorem kL_53 (L : Nat) (xs : Nat → Int32) : ∀ q ∈ tL_53 L xs, zOk (zgL L xs) iL_law q.1 q.2 := (z_c (ok_iload_n dL_law_954 rfl) (z_c (ok_iconst (v := (1)) dL_law_955 (by decide)) (z_c (ok_iadd dL_law_956) (z_c (ok_sld zx_scr dL_law_957) (z_c (ok_aloadx dL_law_958 rfl) (z_c (ok_iload_n dL_law_959 rfl) (z_c (ok_iconst (v := (2)) dL_law_960 (by decide)) (z_c (ok_iadd dL_law_961) (z_c (ok_sld zx_scr dL_law_962) (z_c (ok_callV zcal_272 (q := (RX12, TX12, 73)) rfl zw_1690 zw_1691 zw_1692 dL_law_963) (z_c (ok_pop dL_law_966) (z_c (ok_goto dL_law_967 (by decide)) z_n))))))))))))
noncomputable def tL_54 (L : Nat) (xs : Nat → Int32) : List (Nat × zF) := [(970, (zla4 1 1)), (971, (zcv 140 0 11)), (974, (zst 1 zpo)), (975, (zla4 2 1)), (976, (zcv 274 0 12)), (979, (zst 1 zpo)), (980, (zgt 1042)), (983, (zla4 1 1)), (984, (zlx 0 1)), (985, (zli4 3 1)), (986, (zst 1 (zp (.int (1))))), (987, (zst 1 z_iadd))]
theorem kL_54 (L : Nat) (xs : Nat → Int32) : ∀ q ∈ tL_54 L xs, zOk (zgL L xs) iL_law q.1 q.2 := (z_c (ok_aload_n dL_law_970 rfl) (z_c (ok_callV zcal_140 (q := (RX11, TX11, 16)) rfl zw_1693 zw_1694 zw_1695 dL_law_971) (z_c (ok_pop dL_law_974) (z_c (ok_aload_n dL_law_975 rfl) (z_c (ok_callV zcal_274 (q := (RX12, TX12, 73)) rfl zw_1696 zw_1697 zw_1698 dL_law_976) (z_c (ok_pop dL_law_979) (z_c (ok_goto dL_law_980 (by decide)) (z_c (ok_aload_n dL_law_983 rfl) (z_c (ok_aloadx dL_law_984 rfl) (z_c (ok_iload_n dL_law_985 rfl) (z_c (ok_iconst (v := (1)) dL_law_986 (by decide)) (z_c (ok_iadd dL_law_987) z_n))))))))))))
noncomputable def tL_55 (L : Nat) (xs : Nat → Int32) : List (Nat × zF) := [(988, (zst 1 (zbx 3 L xs))), (989, (zcv 141 1 11)), (992, (zst 1 zpo)), (993, (zla4 2 1)), (994, (zlx 0 1)), (995, (zli4 3 1)), (996, (zst 1 (zp (.int (1))))), (997, (zst 1 z_iadd)), (998, (zst 1 (zbx 3 L xs))), (999, (zcv 275 1 12)), (1002, (zst 1 zpo)), (1003, (zgt 1042))]
theorem kL_55 (L : Nat) (xs : Nat → Int32) : ∀ q ∈ tL_55 L xs, zOk (zgL L xs) iL_law q.1 q.2 := (z_c (ok_sld zx_scr dL_law_988) (z_c (ok_callV zcal_141 (q := (RX11, TX11, 16)) rfl zw_1699 zw_1700 zw_1701 dL_law_989) (z_c (ok_pop dL_law_992) (z_c (ok_aload_n dL_law_993 rfl) (z_c (ok_aloadx dL_law_994 rfl) (z_c (ok_iload_n dL_law_995 rfl) (z_c (ok_iconst (v := (1)) dL_law_996 (by decide)) (z_c (ok_iadd dL_law_997) (z_c (ok_sld zx_scr dL_law_998) (z_c (ok_callV zcal_275 (q := (RX12, TX12, 73)) rfl zw_1702 zw_1703 zw_1704 dL_law_999) (z_c (ok_pop dL_law_1002) (z_c (ok_goto dL_law_1003 (by decide)) z_n))))))))))))
noncomputable def tL_56 (L : Nat) (xs : Nat → Int32) : List (Nat × zF) := [(1006, (zla4 1 1)), (1007, (zcv 142 0 11)), (1010, (zst 1 zpo)), (1011, (zla4 2 1)), (1012, (zcv 278 0 12)), (1015, (zst 1 zpo)), (1016, (zgt 1042)), (1019, (zla4 1 1)), (1020, (zlx 0 1)), (1021, (zli4 3 1)), (1022, (zst 1 (zp (.int (1))))), (1023, (zst 1 z_iadd))]
theorem kL_56 (L : Nat) (xs : Nat → Int32) : ∀ q ∈ tL_56 L xs, zOk (zgL L xs) iL_law q.1 q.2 := (z_c (ok_aload_n dL_law_1006 rfl) (z_c (ok_callV zcal_142 (q := (RX11, TX11, 16)) rfl zw_1705 zw_1706 zw_1707 dL_law_1007) (z_c (ok_pop dL_law_1010) (z_c (ok_aload_n dL_law_1011 rfl) (z_c (ok_callV zcal_278 (q := (RX12, TX12, 73)) rfl zw_1708 zw_1709 zw_1710 dL_law_1012) (z_c (ok_pop dL_law_1015) (z_c (ok_goto dL_law_1016 (by decide)) (z_c (ok_aload_n dL_law_1019 rfl) (z_c (ok_aloadx dL_law_1020 rfl) (z_c (ok_iload_n dL_law_1021 rfl) (z_c (ok_iconst (v := (1)) dL_law_1022 (by decide)) (z_c (ok_iadd dL_law_1023) z_n))))))))))))
noncomputable def tL_57 (L : Nat) (xs : Nat → Int32) : List (Nat × zF) := [(1024, (zst 1 (zbx 3 L xs))), (1025, (zcv 143 1 11)), (1028, (zst 1 zpo)), (1029, (zla4 2 1)), (1030, (zlx 0 1)), (1031, (zli4 3 1)), (1032, (zst 1 (zp (.int (1))))), (1033, (zst 1 z_iadd)), (1034, (zst 1 (zbx 3 L xs))), (1035, (zcv 209 1 12)), (1038, (zst 1 zpo)), (1039, (zgt 1042))]
theorem kL_57 (L : Nat) (xs : Nat → Int32) : ∀ q ∈ tL_57 L xs, zOk (zgL L xs) iL_law q.1 q.2 := (z_c (ok_sld zx_scr dL_law_1024) (z_c (ok_callV zcal_143 (q := (RX11, TX11, 16)) rfl zw_1711 zw_1712 zw_1713 dL_law_1025) (z_c (ok_pop dL_law_1028) (z_c (ok_aload_n dL_law_1029 rfl) (z_c (ok_aloadx dL_law_1030 rfl) (z_c (ok_iload_n dL_law_1031 rfl) (z_c (ok_iconst (v := (1)) dL_law_1032 (by decide)) (z_c (ok_iadd dL_law_1033) (z_c (ok_sld zx_scr dL_law_1034) (z_c (ok_callV zcal_209 (q := (RX12, TX12, 73)) rfl zw_1714 zw_1715 zw_1716 dL_law_1035) (z_c (ok_pop dL_law_1038) (z_c (ok_goto dL_law_1039 (by decide)) z_n))))))))))))
noncomputable def tL_58 (L : Nat) (xs : Nat → Int32) : List (Nat × zF) := [(1042, (zin4 4 3 (6))), (1045, (zgt 18)), (1048, (zst 1 (zp (.int (1))))), (1049, (zri true))]
theorem kL_58 (L : Nat) (xs : Nat → Int32) : ∀ q ∈ tL_58 L xs, zOk (zgL L xs) iL_law q.1 q.2 := (z_c (ok_iinc (v := (6)) dL_law_1042 (by decide)) (z_c (ok_goto dL_law_1045 (by decide)) (z_c (ok_iconst (v := (1)) dL_law_1048 (by decide)) (z_c (ok_zreturn rfl dL_law_1049) z_n))))
noncomputable def tL (L : Nat) (xs : Nat → Int32) : zT := [(20, tL_0 L xs), (178, tL_1 L xs), (190, tL_2 L xs), (202, tL_3 L xs), (216, tL_4 L xs), (228, tL_5 L xs), (244, tL_6 L xs), (262, tL_7 L xs), (280, tL_8 L xs), (298, tL_9 L xs), (312, tL_10 L xs), (328, tL_11 L xs), (342, tL_12 L xs), (354, tL_13 L xs), (370, tL_14 L xs), (384, tL_15 L xs), (396, tL_16 L xs), (412, tL_17 L xs), (426, tL_18 L xs), (442, tL_19 L xs), (456, tL_20 L xs), (470, tL_21 L xs), (484, tL_22 L xs), (498, tL_23 L xs), (512, tL_24 L xs), (528, tL_25 L xs), (544, tL_26 L xs), (558, tL_27 L xs), (574, tL_28 L xs), (588, tL_29 L xs), (602, tL_30 L xs), (616, tL_31 L xs), (630, tL_32 L xs), (652, tL_33 L xs), (666, tL_34 L xs), (684, tL_35 L xs), (702, tL_36 L xs), (720, tL_37 L xs), (736, tL_38 L xs), (750, tL_39 L xs), (766, tL_40 L xs), (780, tL_41 L xs), (798, tL_42 L xs), (814, tL_43 L xs), (828, tL_44 L xs), (846, tL_45 L xs), (862, tL_46 L xs), (874, tL_47 L xs), (888, tL_48 L xs), (906, tL_49 L xs), (924, tL_50 L xs), (940, tL_51 L xs), (954, tL_52 L xs), (970, tL_53 L xs), (988, tL_54 L xs), (1006, tL_55 L xs), (1024, tL_56 L xs), (1042, tL_57 L xs), (100000, tL_58 L xs)]
theorem kL (L : Nat) (xs : Nat → Int32) : zTok (zgL L xs) iL_law (tL L xs) := (z_t (kL_0 L xs) (z_t (kL_1 L xs) (z_t (kL_2 L xs) (z_t (kL_3 L xs) (z_t (kL_4 L xs) (z_t (kL_5 L xs) (z_t (kL_6 L xs) (z_t (kL_7 L xs) (z_t (kL_8 L xs) (z_t (kL_9 L xs) (z_t (kL_10 L xs) (z_t (kL_11 L xs) (z_t (kL_12 L xs) (z_t (kL_13 L xs) (z_t (kL_14 L xs) (z_t (kL_15 L xs) (z_t (kL_16 L xs) (z_t (kL_17 L xs) (z_t (kL_18 L xs) (z_t (kL_19 L xs) (z_t (kL_20 L xs) (z_t (kL_21 L xs) (z_t (kL_22 L xs) (z_t (kL_23 L xs) (z_t (kL_24 L xs) (z_t (kL_25 L xs) (z_t (kL_26 L xs) (z_t (kL_27 L xs) (z_t (kL_28 L xs) (z_t (kL_29 L xs) (z_t (kL_30 L xs) (z_t (kL_31 L xs) (z_t (kL_32 L xs) (z_t (kL_33 L xs) (z_t (kL_34 L xs) (z_t (kL_35 L xs) (z_t (kL_36 L xs) (z_t (kL_37 L xs) (z_t (kL_38 L xs) (z_t (kL_39 L xs) (z_t (kL_40 L xs) (z_t (kL_41 L xs) (z_t (kL_42 L xs) (z_t (kL_43 L xs) (z_t (kL_44 L xs) (z_t (kL_45 L xs) (z_t (kL_46 L xs) (z_t (kL_47 L xs) (z_t (kL_48 L xs) (z_t (kL_49 L xs) (z_t (kL_50 L xs) (z_t (kL_51 L xs) (z_t (kL_52 L xs) (z_t (kL_53 L xs) (z_t (kL_54 L xs) (z_t (kL_55 L xs) (z_t (kL_56 L xs) (z_t (kL_57 L xs) (z_t (kL_58 L xs) z_tn)))))))))))))))))))))))))))))))))))))))))))))))))))))))))))
/-! contracts, weaker starts; the oracle: a list of contracts answers the calls -/
theorem z_weak {L : Nat} {xs : Nat → Int32} {X : zX} {d j : Nat} {av : List Value} {mem mem' : zM} {r : Option Value} (h : zMet zg X d j av mem r mem') : zMet (zgL L xs) X d j av mem r mem' := by
  intro i hi p e ha hc hk s m args below hf happ hP hK
  obtain ⟨h0, h1, h2, h3, h4⟩ := hP
  exact h i hi p e ha hc hk s m args below hf happ ⟨h0, h1, h2, h3, h4.1⟩ hK
noncomputable def zor {Y : Type} (j0 : Nat) (av0 : List Value) (mem0 : zM) (r0 : Option Value) (mem1 : zM) (next : zRec Y) : zRec Y := fun j av mem κ => @ite _ (j = j0 ∧ av = av0 ∧ mem = mem0) (Classical.propDecidable _) (κ r0 mem1) (next j av mem κ)
theorem zor_yes {Y : Type} {j0 : Nat} {av0 : List Value} {mem0 : zM} {r0 : Option Value} {mem1 : zM} {next : zRec Y} (κ : Option Value → zM → Option Y) : zor j0 av0 mem0 r0 mem1 next j0 av0 mem0 κ = κ r0 mem1 := if_pos ⟨rfl, rfl, rfl⟩
theorem zor_no {Y : Type} {j0 j : Nat} {av0 av : List Value} {mem0 mem : zM} {r0 : Option Value} {mem1 : zM} {next : zRec Y} {κ : Option Value → zM → Option Y} (h : ¬ j = j0) : zor j0 av0 mem0 r0 mem1 next j av mem κ = next j av mem κ := if_neg (fun q => h q.1)
theorem zor_ok {g : zG} {X : zX} {d : Nat} {Y : Type} {j0 : Nat} {av0 : List Value} {mem0 : zM} {r0 : Option Value} {mem1 : zM} {next : zRec Y} (hl : zle mem0 mem1) (h : zMet g X d j0 av0 mem0 r0 mem1) (hn : zRecOk g X d Y next) : zRecOk g X d Y (zor j0 av0 mem0 r0 mem1 next) := by
  intro j av mem κ y hy
  unfold zor at hy
  by_cases hc : j = j0 ∧ av = av0 ∧ mem = mem0
  · rw [if_pos hc] at hy
    obtain ⟨rfl, rfl, rfl⟩ := hc
    exact ⟨r0, mem1, hy, hl, h⟩
  · rw [if_neg hc] at hy
    exact hn j av mem κ y hy
theorem zor_nil {g : zG} {X : zX} {d : Nat} {Y : Type} : zRecOk g X d Y (fun _ _ _ _ => none) := fun _ _ _ _ _ h => by cases h
