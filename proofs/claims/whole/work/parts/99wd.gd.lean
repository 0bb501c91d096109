/-! ===== z, 10: the tables' words of the makings ===== -/
theorem zu_1 (i : Nat) {w : Cond} (h : tables_1_1[i]? = some w) (hg : zIsN w = true) : w ∈ zNs := List.mem_filter.mpr ⟨List.mem_append_right _ ((fun h : w ∈ tables_1_1 => (show w ∈ tables_1 from (List.mem_append_left _ h))) (List.mem_of_getElem? h)), hg⟩
theorem zu_2 (i : Nat) {w : Cond} (h : tables_1_2[i]? = some w) (hg : zIsN w = true) : w ∈ zNs := List.mem_filter.mpr ⟨List.mem_append_right _ ((fun h : w ∈ tables_1_2 => (show w ∈ tables_1 from (List.mem_append_right _ (List.mem_append_left _ h)))) (List.mem_of_getElem? h)), hg⟩
theorem zu_3 (i : Nat) {w : Cond} (h : tables_1_3[i]? = some w) (hg : zIsN w = true) : w ∈ zNs := List.mem_filter.mpr ⟨List.mem_append_right _ ((fun h : w ∈ tables_1_3 => (show w ∈ tables_1 from (List.mem_append_right _ (List.mem_append_right _ (List.mem_append_left _ h))))) (List.mem_of_getElem? h)), hg⟩
theorem zu_4 (i : Nat) {w : Cond} (h : tables_1_4[i]? = some w) (hg : zIsN w = true) : w ∈ zNs := List.mem_filter.mpr ⟨List.mem_append_right _ ((fun h : w ∈ tables_1_4 => (show w ∈ tables_1 from (List.mem_append_right _ (List.mem_append_right _ (List.mem_append_right _ (List.mem_append_left _ h)))))) (List.mem_of_getElem? h)), hg⟩
theorem zu_5 (i : Nat) {w : Cond} (h : tables_1_5[i]? = some w) (hg : zIsN w = true) : w ∈ zNs := List.mem_filter.mpr ⟨List.mem_append_right _ ((fun h : w ∈ tables_1_5 => (show w ∈ tables_1 from (List.mem_append_right _ (List.mem_append_right _ (List.mem_append_right _ (List.mem_append_right _ (List.mem_append_left _ h))))))) (List.mem_of_getElem? h)), hg⟩
theorem zu_6 (i : Nat) {w : Cond} (h : tables_1_6[i]? = some w) (hg : zIsN w = true) : w ∈ zNs := List.mem_filter.mpr ⟨List.mem_append_right _ ((fun h : w ∈ tables_1_6 => (show w ∈ tables_1 from (List.mem_append_right _ (List.mem_append_right _ (List.mem_append_right _ (List.mem_append_right _ (List.mem_append_right _ (List.mem_append_left _ h)))))))) (List.mem_of_getElem? h)), hg⟩
theorem zu_7 (i : Nat) {w : Cond} (h : tables_1_7[i]? = some w) (hg : zIsN w = true) : w ∈ zNs := List.mem_filter.mpr ⟨List.mem_append_right _ ((fun h : w ∈ tables_1_7 => (show w ∈ tables_1 from (List.mem_append_right _ (List.mem_append_right _ (List.mem_append_right _ (List.mem_append_right _ (List.mem_append_right _ (List.mem_append_right _ h)))))))) (List.mem_of_getElem? h)), hg⟩
theorem zy_L_7 : Cond.classLink RL 7 (zRR 10) ∈ zTb ∧ Cond.instantiable (zRR 10) (znf 10) ∈ zTb ∧ Cond.initialized (zRR 10) ∈ zTb := ⟨(zt_1 23 (by decide +kernel) rfl), (zt_1 24 (by decide +kernel) rfl), (zt_1 1 (by decide +kernel) rfl)⟩
theorem zy_X11_7 : Cond.classLink RX11 7 (zRR 7) ∈ zTb ∧ Cond.instantiable (zRR 7) (znf 7) ∈ zTb ∧ Cond.initialized (zRR 7) ∈ zTb := ⟨(zt_1 31 (by decide +kernel) rfl), (zt_1 32 (by decide +kernel) rfl), (zt_1 2 (by decide +kernel) rfl)⟩
theorem zy_X11_16 : Cond.classLink RX11 16 (zRR 0) ∈ zTb ∧ Cond.instantiable (zRR 0) (znf 0) ∈ zTb ∧ Cond.initialized (zRR 0) ∈ zTb := ⟨(zt_1 47 (by decide +kernel) rfl), (zt_1 48 (by decide +kernel) rfl), (zt_1 3 (by decide +kernel) rfl)⟩
theorem zy_X11_23 : Cond.classLink RX11 23 (zRR 2) ∈ zTb ∧ Cond.instantiable (zRR 2) (znf 2) ∈ zTb ∧ Cond.initialized (zRR 2) ∈ zTb := ⟨(zt_1 64 (by decide +kernel) rfl), (zt_1 65 (by decide +kernel) rfl), (zt_1 4 (by decide +kernel) rfl)⟩
theorem zy_X2_19 : Cond.classLink RX2 19 (zRR 0) ∈ zTb ∧ Cond.instantiable (zRR 0) (znf 0) ∈ zTb ∧ Cond.initialized (zRR 0) ∈ zTb := ⟨(zt_1 70 (by decide +kernel) rfl), (zt_1 48 (by decide +kernel) rfl), (zt_1 3 (by decide +kernel) rfl)⟩
theorem zy_X11_33 : Cond.classLink RX11 33 (zRR 4) ∈ zTb ∧ Cond.instantiable (zRR 4) (znf 4) ∈ zTb ∧ Cond.initialized (zRR 4) ∈ zTb := ⟨(zt_1 135 (by decide +kernel) rfl), (zt_1 136 (by decide +kernel) rfl), (zt_1 5 (by decide +kernel) rfl)⟩
theorem zy_X5_32 : Cond.classLink RX5 32 (zRR 8) ∈ zTb ∧ Cond.instantiable (zRR 8) (znf 8) ∈ zTb ∧ Cond.initialized (zRR 8) ∈ zTb := ⟨(zt_1 141 (by decide +kernel) rfl), (zt_1 142 (by decide +kernel) rfl), (zt_1 6 (by decide +kernel) rfl)⟩
theorem zy_X11_42 : Cond.classLink RX11 42 (zRR 3) ∈ zTb ∧ Cond.instantiable (zRR 3) (znf 3) ∈ zTb ∧ Cond.initialized (zRR 3) ∈ zTb := ⟨(zt_2 8 (by decide +kernel) rfl), (zt_2 9 (by decide +kernel) rfl), (zt_1 11 (by decide +kernel) rfl)⟩
theorem zy_X4_13 : Cond.classLink RX4 13 ("[" ++ (FieldType.array .int).toString) ∈ zTb := (zt_2 14 (by decide +kernel) rfl)
theorem zy_X11_49 : Cond.classLink RX11 49 (zRR 5) ∈ zTb ∧ Cond.instantiable (zRR 5) (znf 5) ∈ zTb ∧ Cond.initialized (zRR 5) ∈ zTb := ⟨(zt_2 35 (by decide +kernel) rfl), (zt_2 36 (by decide +kernel) rfl), (zt_1 12 (by decide +kernel) rfl)⟩
theorem zy_X11_51 : Cond.classLink RX11 51 (zRR 9) ∈ zTb ∧ Cond.instantiable (zRR 9) (znf 9) ∈ zTb ∧ Cond.initialized (zRR 9) ∈ zTb := ⟨(zt_2 37 (by decide +kernel) rfl), (zt_2 38 (by decide +kernel) rfl), (zt_1 13 (by decide +kernel) rfl)⟩
theorem zy_X10_11 : Cond.classLink RX10 11 ("[" ++ (FieldType.array .int).toString) ∈ zTb := (zt_2 43 (by decide +kernel) rfl)
theorem zy_X11_76 : Cond.classLink RX11 76 (zRR 6) ∈ zTb ∧ Cond.instantiable (zRR 6) (znf 6) ∈ zTb ∧ Cond.initialized (zRR 6) ∈ zTb := ⟨(zt_2 95 (by decide +kernel) rfl), (zt_2 96 (by decide +kernel) rfl), (zt_1 14 (by decide +kernel) rfl)⟩
theorem zy_X11_83 : Cond.classLink RX11 83 (zRR 1) ∈ zTb ∧ Cond.instantiable (zRR 1) (znf 1) ∈ zTb ∧ Cond.initialized (zRR 1) ∈ zTb := ⟨(zt_2 126 (by decide +kernel) rfl), (zt_2 127 (by decide +kernel) rfl), (zt_1 15 (by decide +kernel) rfl)⟩
theorem zy_X1_13 : Cond.classLink RX1 13 ("[" ++ (FieldType.array .int).toString) ∈ zTb := (zt_2 132 (by decide +kernel) rfl)
theorem zy_X1_36 : Cond.classLink RX1 36 (zRR 5) ∈ zTb ∧ Cond.instantiable (zRR 5) (znf 5) ∈ zTb ∧ Cond.initialized (zRR 5) ∈ zTb := ⟨(zt_2 133 (by decide +kernel) rfl), (zt_2 36 (by decide +kernel) rfl), (zt_1 12 (by decide +kernel) rfl)⟩
theorem zy_X1_38 : Cond.classLink RX1 38 (zRR 9) ∈ zTb ∧ Cond.instantiable (zRR 9) (znf 9) ∈ zTb ∧ Cond.initialized (zRR 9) ∈ zTb := ⟨(zt_2 134 (by decide +kernel) rfl), (zt_2 38 (by decide +kernel) rfl), (zt_1 13 (by decide +kernel) rfl)⟩
theorem zy_L_10 : Cond.classLink RL 10 (zRR 11) ∈ zTb ∧ Cond.instantiable (zRR 11) (znf 11) ∈ zTb ∧ Cond.initialized (zRR 11) ∈ zTb := ⟨(zt_5 57 (by decide +kernel) rfl), (zt_5 58 (by decide +kernel) rfl), (zt_1 16 (by decide +kernel) rfl)⟩
theorem zz_byte : Cond.arrayClass .byte ∈ zTb := (zt_1 46 (by decide +kernel) rfl)
theorem zz_int : Cond.arrayClass .int ∈ zTb := (zt_1 63 (by decide +kernel) rfl)
theorem zz_long : Cond.arrayClass .long ∈ zTb := (zt_1 134 (by decide +kernel) rfl)
theorem zz_boolean : Cond.arrayClass .boolean ∈ zTb := (zt_2 125 (by decide +kernel) rfl)
theorem zl_X11_9 : zCN RX11 9 zm_X8_init 0 "NinetyNights" := ⟨(zu_1 33 (by decide +kernel) rfl), zk_X8_init, (zt_1 2 (by decide +kernel) rfl), by decide +kernel, by decide⟩
theorem zl_X11_18 : zCN RX11 18 zm_X0_init 0 "NinetyNights" := ⟨(zu_1 49 (by decide +kernel) rfl), zk_X0_init, (zt_1 3 (by decide +kernel) rfl), by decide +kernel, by decide⟩
theorem zl_X11_25 : zCN RX11 25 zm_X2_init 0 "NinetyNights" := ⟨(zu_1 66 (by decide +kernel) rfl), zk_X2_init, (zt_1 4 (by decide +kernel) rfl), by decide +kernel, by decide⟩
theorem zl_X2_21 : zCN RX2 21 zm_X0_init 0 "NinetyNights" := ⟨(zu_1 71 (by decide +kernel) rfl), zk_X0_init, (zt_1 3 (by decide +kernel) rfl), by decide +kernel, by decide⟩
theorem zl_X11_44 : zCN RX11 44 zm_X4_init 0 "NinetyNights" := ⟨(zu_2 10 (by decide +kernel) rfl), zk_X4_init, (zt_1 11 (by decide +kernel) rfl), by decide +kernel, by decide⟩
theorem zl_X11_53 : zCN RX11 53 zm_X10_init 0 "NinetyNights" := ⟨(zu_2 39 (by decide +kernel) rfl), zk_X10_init, (zt_1 13 (by decide +kernel) rfl), by decide +kernel, by decide⟩
theorem zl_X11_78 : zCN RX11 78 zm_X7_init 0 "NinetyNights" := ⟨(zu_2 97 (by decide +kernel) rfl), zk_X7_init, (zt_1 14 (by decide +kernel) rfl), by decide +kernel, by decide⟩
theorem zl_X1_40 : zCN RX1 40 zm_X10_init 0 "NinetyNights" := ⟨(zu_2 135 (by decide +kernel) rfl), zk_X10_init, (zt_1 13 (by decide +kernel) rfl), by decide +kernel, by decide⟩
theorem zx_X11_init : Cond.instanceMethod (zm_X11_init).1 ∈ zTb := (zt_1 26 (by decide +kernel) rfl)
theorem zx_X8_init : Cond.instanceMethod (zm_X8_init).1 ∈ zTb := (zt_1 34 (by decide +kernel) rfl)
theorem zx_X0_init : Cond.instanceMethod (zm_X0_init).1 ∈ zTb := (zt_1 50 (by decide +kernel) rfl)
theorem zx_X2_init : Cond.instanceMethod (zm_X2_init).1 ∈ zTb := (zt_1 67 (by decide +kernel) rfl)
theorem zx_X5_init : Cond.instanceMethod (zm_X5_init).1 ∈ zTb := (zt_1 138 (by decide +kernel) rfl)
theorem zx_X9_init : Cond.instanceMethod (zm_X9_init).1 ∈ zTb := (zt_1 144 (by decide +kernel) rfl)
theorem zx_X4_init : Cond.instanceMethod (zm_X4_init).1 ∈ zTb := (zt_2 11 (by decide +kernel) rfl)
theorem zx_X10_init : Cond.instanceMethod (zm_X10_init).1 ∈ zTb := (zt_2 40 (by decide +kernel) rfl)
theorem zx_X6_init : Cond.instanceMethod (zm_X6_init).1 ∈ zTb := (zt_2 52 (by decide +kernel) rfl)
theorem zx_X7_init : Cond.instanceMethod (zm_X7_init).1 ∈ zTb := (zt_2 98 (by decide +kernel) rfl)
theorem zx_X1_init : Cond.instanceMethod (zm_X1_init).1 ∈ zTb := (zt_2 129 (by decide +kernel) rfl)
theorem zx_X12_init : Cond.instanceMethod (zm_X12_init).1 ∈ zTb := (zt_5 60 (by decide +kernel) rfl)
theorem zx_oi : Cond.instanceMethod Lib.objectInit ∈ zTb := (zt_1 29 (by decide +kernel) rfl)
theorem zx_oc : Cond.code Lib.objectInit ⟨#[0xb1]⟩ 1 none ∈ zTb := List.mem_filter.mpr ⟨by decide +kernel, rfl⟩
theorem zl_X11_1 : Cond.methodLink RX11 1 Lib.objectInit ∈ zTb ∧ Cond.instanceMethod Lib.objectInit ∈ zTb ∧ Cond.code Lib.objectInit ⟨#[0xb1]⟩ 1 none ∈ zTb := ⟨List.mem_filter.mpr ⟨by decide +kernel, rfl⟩, zx_oi, zx_oc⟩
theorem zl_X8_3 : Cond.methodLink RX8 3 Lib.objectInit ∈ zTb ∧ Cond.instanceMethod Lib.objectInit ∈ zTb ∧ Cond.code Lib.objectInit ⟨#[0xb1]⟩ 1 none ∈ zTb := ⟨List.mem_filter.mpr ⟨by decide +kernel, rfl⟩, zx_oi, zx_oc⟩
theorem zl_X0_3 : Cond.methodLink RX0 3 Lib.objectInit ∈ zTb ∧ Cond.instanceMethod Lib.objectInit ∈ zTb ∧ Cond.code Lib.objectInit ⟨#[0xb1]⟩ 1 none ∈ zTb := ⟨List.mem_filter.mpr ⟨by decide +kernel, rfl⟩, zx_oi, zx_oc⟩
theorem zl_X2_3 : Cond.methodLink RX2 3 Lib.objectInit ∈ zTb ∧ Cond.instanceMethod Lib.objectInit ∈ zTb ∧ Cond.code Lib.objectInit ⟨#[0xb1]⟩ 1 none ∈ zTb := ⟨List.mem_filter.mpr ⟨by decide +kernel, rfl⟩, zx_oi, zx_oc⟩
theorem zl_X5_3 : Cond.methodLink RX5 3 Lib.objectInit ∈ zTb ∧ Cond.instanceMethod Lib.objectInit ∈ zTb ∧ Cond.code Lib.objectInit ⟨#[0xb1]⟩ 1 none ∈ zTb := ⟨List.mem_filter.mpr ⟨by decide +kernel, rfl⟩, zx_oi, zx_oc⟩
theorem zl_X9_3 : Cond.methodLink RX9 3 Lib.objectInit ∈ zTb ∧ Cond.instanceMethod Lib.objectInit ∈ zTb ∧ Cond.code Lib.objectInit ⟨#[0xb1]⟩ 1 none ∈ zTb := ⟨List.mem_filter.mpr ⟨by decide +kernel, rfl⟩, zx_oi, zx_oc⟩
theorem zl_X4_3 : Cond.methodLink RX4 3 Lib.objectInit ∈ zTb ∧ Cond.instanceMethod Lib.objectInit ∈ zTb ∧ Cond.code Lib.objectInit ⟨#[0xb1]⟩ 1 none ∈ zTb := ⟨List.mem_filter.mpr ⟨by decide +kernel, rfl⟩, zx_oi, zx_oc⟩
theorem zl_X10_3 : Cond.methodLink RX10 3 Lib.objectInit ∈ zTb ∧ Cond.instanceMethod Lib.objectInit ∈ zTb ∧ Cond.code Lib.objectInit ⟨#[0xb1]⟩ 1 none ∈ zTb := ⟨List.mem_filter.mpr ⟨by decide +kernel, rfl⟩, zx_oi, zx_oc⟩
theorem zl_X6_3 : Cond.methodLink RX6 3 Lib.objectInit ∈ zTb ∧ Cond.instanceMethod Lib.objectInit ∈ zTb ∧ Cond.code Lib.objectInit ⟨#[0xb1]⟩ 1 none ∈ zTb := ⟨List.mem_filter.mpr ⟨by decide +kernel, rfl⟩, zx_oi, zx_oc⟩
theorem zl_X7_3 : Cond.methodLink RX7 3 Lib.objectInit ∈ zTb ∧ Cond.instanceMethod Lib.objectInit ∈ zTb ∧ Cond.code Lib.objectInit ⟨#[0xb1]⟩ 1 none ∈ zTb := ⟨List.mem_filter.mpr ⟨by decide +kernel, rfl⟩, zx_oi, zx_oc⟩
theorem zl_X1_3 : Cond.methodLink RX1 3 Lib.objectInit ∈ zTb ∧ Cond.instanceMethod Lib.objectInit ∈ zTb ∧ Cond.code Lib.objectInit ⟨#[0xb1]⟩ 1 none ∈ zTb := ⟨List.mem_filter.mpr ⟨by decide +kernel, rfl⟩, zx_oi, zx_oc⟩
theorem zl_X12_1 : Cond.methodLink RX12 1 Lib.objectInit ∈ zTb ∧ Cond.instanceMethod Lib.objectInit ∈ zTb ∧ Cond.code Lib.objectInit ⟨#[0xb1]⟩ 1 none ∈ zTb := ⟨List.mem_filter.mpr ⟨by decide +kernel, rfl⟩, zx_oi, zx_oc⟩
