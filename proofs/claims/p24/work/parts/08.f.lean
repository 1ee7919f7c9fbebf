section GFLD
variable {Z : gZ} {B : gB} {n : Nat × Nat} {V : gMem} {pc : Nat} {L : List (Nat × Value)} {st : List Value} {cc : ByteArray} {own : String} {b i idx : Nat}
theorem gg_X6_code (X : gX Z B cc own) (hp : gP 0 0 0) (hq : gFL own idx RX6 "code" "LFogBridge$Code;") (d : decode cc pc = .ok (.getfield idx, 3)) (kk : gG Z B n V (pc + 3) L (.ref (B.2.1 1 0 0) :: st)) : gG Z B n V pc L (.ref (B.2.1 0 0 0) :: st) := g_get X (ci := 5) (N := 5) (C := RX6) (T := TX6) rfl gU_X6 0 (by decide) rfl hp rfl rfl hq d kk
theorem gg_X6_fog (X : gX Z B cc own) (hp : gP 0 0 0) (hq : gFL own idx RX6 "fog" "[I") (d : decode cc pc = .ok (.getfield idx, 3)) (kk : gG Z B n V (pc + 3) L (.ref (B.2.1 4 0 0) :: st)) : gG Z B n V pc L (.ref (B.2.1 0 0 0) :: st) := g_get X (ci := 5) (N := 5) (C := RX6) (T := TX6) rfl gU_X6 1 (by decide) rfl hp rfl rfl hq d kk
theorem gg_X6_bridge (X : gX Z B cc own) (hp : gP 0 0 0) (hq : gFL own idx RX6 "bridge" "LFogBridge$Bridge;") (d : decode cc pc = .ok (.getfield idx, 3)) (kk : gG Z B n V (pc + 3) L (.ref (B.2.1 10 0 0) :: st)) : gG Z B n V pc L (.ref (B.2.1 0 0 0) :: st) := g_get X (ci := 5) (N := 5) (C := RX6) (T := TX6) rfl gU_X6 2 (by decide) rfl hp rfl rfl hq d kk
theorem gg_X6_ahead (X : gX Z B cc own) (hp : gP 0 0 0) (hq : gFL own idx RX6 "ahead" "LFogBridge$Bridge;") (d : decode cc pc = .ok (.getfield idx, 3)) (kk : gG Z B n V (pc + 3) L (.ref (B.2.1 10 1 0) :: st)) : gG Z B n V pc L (.ref (B.2.1 0 0 0) :: st) := g_get X (ci := 5) (N := 5) (C := RX6) (T := TX6) rfl gU_X6 3 (by decide) rfl hp rfl rfl hq d kk
theorem gg_X6_branch (X : gX Z B cc own) (hp : gP 0 0 0) (hq : gFL own idx RX6 "branch" "LFogBridge$Bridge;") (d : decode cc pc = .ok (.getfield idx, 3)) (kk : gG Z B n V (pc + 3) L (.ref (B.2.1 10 2 0) :: st)) : gG Z B n V pc L (.ref (B.2.1 0 0 0) :: st) := g_get X (ci := 5) (N := 5) (C := RX6) (T := TX6) rfl gU_X6 4 (by decide) rfl hp rfl rfl hq d kk
theorem gg_X2_signals (X : gX Z B cc own) (hp : gP 1 0 0) (hq : gFL own idx RX2 "signals" "[I") (d : decode cc pc = .ok (.getfield idx, 3)) (kk : gG Z B n V (pc + 3) L (.ref (B.2.1 2 0 0) :: st)) : gG Z B n V pc L (.ref (B.2.1 1 0 0) :: st) := g_get X (ci := 2) (N := 3) (C := RX2) (T := TX2) rfl gU_X2 0 (by decide) rfl hp rfl rfl hq d kk
theorem gg_X2_rowsOfLength (X : gX Z B cc own) (hp : gP 1 0 0) (hq : gFL own idx RX2 "rowsOfLength" "[I") (d : decode cc pc = .ok (.getfield idx, 3)) (kk : gG Z B n V (pc + 3) L (.ref (B.2.1 3 0 0) :: st)) : gG Z B n V pc L (.ref (B.2.1 1 0 0) :: st) := g_get X (ci := 2) (N := 3) (C := RX2) (T := TX2) rfl gU_X2 1 (by decide) rfl hp rfl rfl hq d kk
theorem gg_X2_size (X : gX Z B cc own) (hp : gP 1 0 0) (hq : gFL own idx RX2 "size" "I") (d : decode cc pc = .ok (.getfield idx, 3)) (kk : gG Z B n V (pc + 3) L (.int (V 1 0 0 2) :: st)) : gG Z B n V pc L (.ref (B.2.1 1 0 0) :: st) := g_get X (ci := 2) (N := 3) (C := RX2) (T := TX2) rfl gU_X2 2 (by decide) rfl hp rfl rfl hq d kk
theorem gp_X2_size (X : gX Z B cc own) {x : Int32} (hp : gP 1 0 0) (hq : gFL own idx RX2 "size" "I") (d : decode cc pc = .ok (.putfield idx, 3)) (kk : gG Z B n (gup V 1 0 0 2 x) (pc + 3) L st) : gG Z B n V pc L (.int x :: .ref (B.2.1 1 0 0) :: st) := g_put X (ci := 2) (N := 3) (C := RX2) (T := TX2) (ty := .int) rfl gU_X2 tyX2 tyX2_ok nmX2 2 (by decide) rfl rfl (by decide +kernel) rfl rfl hp rfl (by simp) rfl hq d kk
theorem gg_X0_tick (X : gX Z B cc own) (hp : gP 10 b 0) (hq : gFL own idx RX0 "tick" "I") (d : decode cc pc = .ok (.getfield idx, 3)) (kk : gG Z B n V (pc + 3) L (.int (V 10 b 0 0) :: st)) : gG Z B n V pc L (.ref (B.2.1 10 b 0) :: st) := g_get X (ci := 0) (N := 11) (C := RX0) (T := TX0) rfl gU_X0 0 (by decide) rfl hp rfl rfl hq d kk
theorem gp_X0_tick (X : gX Z B cc own) {x : Int32} (hp : gP 10 b 0) (hq : gFL own idx RX0 "tick" "I") (d : decode cc pc = .ok (.putfield idx, 3)) (kk : gG Z B n (gup V 10 b 0 0 x) (pc + 3) L st) : gG Z B n V pc L (.int x :: .ref (B.2.1 10 b 0) :: st) := g_put X (ci := 0) (N := 11) (C := RX0) (T := TX0) (ty := .int) rfl gU_X0 tyX0 tyX0_ok nmX0 0 (by decide) rfl rfl (by decide +kernel) rfl rfl hp rfl (by simp) rfl hq d kk
theorem gg_X0_direction (X : gX Z B cc own) (hp : gP 10 b 0) (hq : gFL own idx RX0 "direction" "I") (d : decode cc pc = .ok (.getfield idx, 3)) (kk : gG Z B n V (pc + 3) L (.int (V 10 b 0 1) :: st)) : gG Z B n V pc L (.ref (B.2.1 10 b 0) :: st) := g_get X (ci := 0) (N := 11) (C := RX0) (T := TX0) rfl gU_X0 1 (by decide) rfl hp rfl rfl hq d kk
theorem gp_X0_direction (X : gX Z B cc own) {x : Int32} (hp : gP 10 b 0) (hq : gFL own idx RX0 "direction" "I") (d : decode cc pc = .ok (.putfield idx, 3)) (kk : gG Z B n (gup V 10 b 0 1 x) (pc + 3) L st) : gG Z B n V pc L (.int x :: .ref (B.2.1 10 b 0) :: st) := g_put X (ci := 0) (N := 11) (C := RX0) (T := TX0) (ty := .int) rfl gU_X0 tyX0 tyX0_ok nmX0 1 (by decide) rfl rfl (by decide +kernel) rfl rfl hp rfl (by simp) rfl hq d kk
theorem gg_X0_places (X : gX Z B cc own) (hp : gP 10 b 0) (hq : gFL own idx RX0 "places" "I") (d : decode cc pc = .ok (.getfield idx, 3)) (kk : gG Z B n V (pc + 3) L (.int (V 10 b 0 2) :: st)) : gG Z B n V pc L (.ref (B.2.1 10 b 0) :: st) := g_get X (ci := 0) (N := 11) (C := RX0) (T := TX0) rfl gU_X0 2 (by decide) rfl hp rfl rfl hq d kk
theorem gp_X0_places (X : gX Z B cc own) {x : Int32} (hp : gP 10 b 0) (hq : gFL own idx RX0 "places" "I") (d : decode cc pc = .ok (.putfield idx, 3)) (kk : gG Z B n (gup V 10 b 0 2 x) (pc + 3) L st) : gG Z B n V pc L (.int x :: .ref (B.2.1 10 b 0) :: st) := g_put X (ci := 0) (N := 11) (C := RX0) (T := TX0) (ty := .int) rfl gU_X0 tyX0 tyX0_ok nmX0 2 (by decide) rfl rfl (by decide +kernel) rfl rfl hp rfl (by simp) rfl hq d kk
theorem gg_X0_bears (X : gX Z B cc own) (hp : gP 10 b 0) (hq : gFL own idx RX0 "bears" "I") (d : decode cc pc = .ok (.getfield idx, 3)) (kk : gG Z B n V (pc + 3) L (.int (V 10 b 0 3) :: st)) : gG Z B n V pc L (.ref (B.2.1 10 b 0) :: st) := g_get X (ci := 0) (N := 11) (C := RX0) (T := TX0) rfl gU_X0 3 (by decide) rfl hp rfl rfl hq d kk
theorem gp_X0_bears (X : gX Z B cc own) {x : Int32} (hp : gP 10 b 0) (hq : gFL own idx RX0 "bears" "I") (d : decode cc pc = .ok (.putfield idx, 3)) (kk : gG Z B n (gup V 10 b 0 3 x) (pc + 3) L st) : gG Z B n V pc L (.int x :: .ref (B.2.1 10 b 0) :: st) := g_put X (ci := 0) (N := 11) (C := RX0) (T := TX0) (ty := .int) rfl gU_X0 tyX0 tyX0_ok nmX0 3 (by decide) rfl rfl (by decide +kernel) rfl rfl hp rfl (by simp) rfl hq d kk
theorem gg_X0_axleToll (X : gX Z B cc own) (hp : gP 10 b 0) (hq : gFL own idx RX0 "axleToll" "I") (d : decode cc pc = .ok (.getfield idx, 3)) (kk : gG Z B n V (pc + 3) L (.int (V 10 b 0 4) :: st)) : gG Z B n V pc L (.ref (B.2.1 10 b 0) :: st) := g_get X (ci := 0) (N := 11) (C := RX0) (T := TX0) rfl gU_X0 4 (by decide) rfl hp rfl rfl hq d kk
theorem gp_X0_axleToll (X : gX Z B cc own) {x : Int32} (hp : gP 10 b 0) (hq : gFL own idx RX0 "axleToll" "I") (d : decode cc pc = .ok (.putfield idx, 3)) (kk : gG Z B n (gup V 10 b 0 4 x) (pc + 3) L st) : gG Z B n V pc L (.int x :: .ref (B.2.1 10 b 0) :: st) := g_put X (ci := 0) (N := 11) (C := RX0) (T := TX0) (ty := .int) rfl gU_X0 tyX0 tyX0_ok nmX0 4 (by decide) rfl rfl (by decide +kernel) rfl rfl hp rfl (by simp) rfl hq d kk
theorem gg_X0_tenToll (X : gX Z B cc own) (hp : gP 10 b 0) (hq : gFL own idx RX0 "tenToll" "I") (d : decode cc pc = .ok (.getfield idx, 3)) (kk : gG Z B n V (pc + 3) L (.int (V 10 b 0 5) :: st)) : gG Z B n V pc L (.ref (B.2.1 10 b 0) :: st) := g_get X (ci := 0) (N := 11) (C := RX0) (T := TX0) rfl gU_X0 5 (by decide) rfl hp rfl rfl hq d kk
theorem gp_X0_tenToll (X : gX Z B cc own) {x : Int32} (hp : gP 10 b 0) (hq : gFL own idx RX0 "tenToll" "I") (d : decode cc pc = .ok (.putfield idx, 3)) (kk : gG Z B n (gup V 10 b 0 5 x) (pc + 3) L st) : gG Z B n V pc L (.int x :: .ref (B.2.1 10 b 0) :: st) := g_put X (ci := 0) (N := 11) (C := RX0) (T := TX0) (ty := .int) rfl gU_X0 tyX0 tyX0_ok nmX0 5 (by decide) rfl rfl (by decide +kernel) rfl rfl hp rfl (by simp) rfl hq d kk
theorem gg_X0_cartCount (X : gX Z B cc own) (hp : gP 10 b 0) (hq : gFL own idx RX0 "cartCount" "I") (d : decode cc pc = .ok (.getfield idx, 3)) (kk : gG Z B n V (pc + 3) L (.int (V 10 b 0 6) :: st)) : gG Z B n V pc L (.ref (B.2.1 10 b 0) :: st) := g_get X (ci := 0) (N := 11) (C := RX0) (T := TX0) rfl gU_X0 6 (by decide) rfl hp rfl rfl hq d kk
theorem gp_X0_cartCount (X : gX Z B cc own) {x : Int32} (hp : gP 10 b 0) (hq : gFL own idx RX0 "cartCount" "I") (d : decode cc pc = .ok (.putfield idx, 3)) (kk : gG Z B n (gup V 10 b 0 6 x) (pc + 3) L st) : gG Z B n V pc L (.int x :: .ref (B.2.1 10 b 0) :: st) := g_put X (ci := 0) (N := 11) (C := RX0) (T := TX0) (ty := .int) rfl gU_X0 tyX0 tyX0_ok nmX0 6 (by decide) rfl rfl (by decide +kernel) rfl rfl hp rfl (by simp) rfl hq d kk
theorem gg_X0_carts (X : gX Z B cc own) (hp : gP 10 b 0) (hq : gFL own idx RX0 "carts" "[LFogBridge$Cart;") (d : decode cc pc = .ok (.getfield idx, 3)) (kk : gG Z B n V (pc + 3) L (.ref (B.2.1 11 b 0) :: st)) : gG Z B n V pc L (.ref (B.2.1 10 b 0) :: st) := g_get X (ci := 0) (N := 11) (C := RX0) (T := TX0) rfl gU_X0 7 (by decide) rfl hp rfl rfl hq d kk
theorem gg_X0_firstGate (X : gX Z B cc own) (hp : gP 10 b 0) (hq : gFL own idx RX0 "firstGate" "LFogBridge$Gate;") (d : decode cc pc = .ok (.getfield idx, 3)) (kk : gG Z B n V (pc + 3) L (.ref (B.2.1 12 b 0) :: st)) : gG Z B n V pc L (.ref (B.2.1 10 b 0) :: st) := g_get X (ci := 0) (N := 11) (C := RX0) (T := TX0) rfl gU_X0 8 (by decide) rfl hp rfl rfl hq d kk
theorem gg_X0_secondGate (X : gX Z B cc own) (hp : gP 10 b 0) (hq : gFL own idx RX0 "secondGate" "LFogBridge$Gate;") (d : decode cc pc = .ok (.getfield idx, 3)) (kk : gG Z B n V (pc + 3) L (.ref (B.2.1 12 b 1) :: st)) : gG Z B n V pc L (.ref (B.2.1 10 b 0) :: st) := g_get X (ci := 0) (N := 11) (C := RX0) (T := TX0) rfl gU_X0 9 (by decide) rfl hp rfl rfl hq d kk
theorem gg_X0_crossing (X : gX Z B cc own) (hp : gP 10 b 0) (hq : gFL own idx RX0 "crossing" "LFogBridge$Row;") (d : decode cc pc = .ok (.getfield idx, 3)) (kk : gG Z B n V (pc + 3) L (.ref (B.2.1 13 b 2) :: st)) : gG Z B n V pc L (.ref (B.2.1 10 b 0) :: st) := g_get X (ci := 0) (N := 11) (C := RX0) (T := TX0) rfl gU_X0 10 (by decide) rfl hp rfl rfl hq d kk
theorem gg_X3_waiting (X : gX Z B cc own) (hp : gP 12 b i) (hq : gFL own idx RX3 "waiting" "LFogBridge$Row;") (d : decode cc pc = .ok (.getfield idx, 3)) (kk : gG Z B n V (pc + 3) L (.ref (B.2.1 13 b i) :: st)) : gG Z B n V pc L (.ref (B.2.1 12 b i) :: st) := g_get X (ci := 3) (N := 5) (C := RX3) (T := TX3) rfl gU_X3 0 (by decide) rfl hp rfl rfl hq d kk
theorem gg_X3_coins (X : gX Z B cc own) (hp : gP 12 b i) (hq : gFL own idx RX3 "coins" "I") (d : decode cc pc = .ok (.getfield idx, 3)) (kk : gG Z B n V (pc + 3) L (.int (V 12 b i 1) :: st)) : gG Z B n V pc L (.ref (B.2.1 12 b i) :: st) := g_get X (ci := 3) (N := 5) (C := RX3) (T := TX3) rfl gU_X3 1 (by decide) rfl hp rfl rfl hq d kk
theorem gp_X3_coins (X : gX Z B cc own) {x : Int32} (hp : gP 12 b i) (hq : gFL own idx RX3 "coins" "I") (d : decode cc pc = .ok (.putfield idx, 3)) (kk : gG Z B n (gup V 12 b i 1 x) (pc + 3) L st) : gG Z B n V pc L (.int x :: .ref (B.2.1 12 b i) :: st) := g_put X (ci := 3) (N := 5) (C := RX3) (T := TX3) (ty := .int) rfl gU_X3 tyX3 tyX3_ok nmX3 1 (by decide) rfl rfl (by decide +kernel) rfl rfl hp rfl (by simp) rfl hq d kk
theorem gg_X3_payers (X : gX Z B cc own) (hp : gP 12 b i) (hq : gFL own idx RX3 "payers" "I") (d : decode cc pc = .ok (.getfield idx, 3)) (kk : gG Z B n V (pc + 3) L (.int (V 12 b i 2) :: st)) : gG Z B n V pc L (.ref (B.2.1 12 b i) :: st) := g_get X (ci := 3) (N := 5) (C := RX3) (T := TX3) rfl gU_X3 2 (by decide) rfl hp rfl rfl hq d kk
theorem gp_X3_payers (X : gX Z B cc own) {x : Int32} (hp : gP 12 b i) (hq : gFL own idx RX3 "payers" "I") (d : decode cc pc = .ok (.putfield idx, 3)) (kk : gG Z B n (gup V 12 b i 2 x) (pc + 3) L st) : gG Z B n V pc L (.int x :: .ref (B.2.1 12 b i) :: st) := g_put X (ci := 3) (N := 5) (C := RX3) (T := TX3) (ty := .int) rfl gU_X3 tyX3 tyX3_ok nmX3 2 (by decide) rfl rfl (by decide +kernel) rfl rfl hp rfl (by simp) rfl hq d kk
theorem gg_X3_axles (X : gX Z B cc own) (hp : gP 12 b i) (hq : gFL own idx RX3 "axles" "I") (d : decode cc pc = .ok (.getfield idx, 3)) (kk : gG Z B n V (pc + 3) L (.int (V 12 b i 3) :: st)) : gG Z B n V pc L (.ref (B.2.1 12 b i) :: st) := g_get X (ci := 3) (N := 5) (C := RX3) (T := TX3) rfl gU_X3 3 (by decide) rfl hp rfl rfl hq d kk
theorem gp_X3_axles (X : gX Z B cc own) {x : Int32} (hp : gP 12 b i) (hq : gFL own idx RX3 "axles" "I") (d : decode cc pc = .ok (.putfield idx, 3)) (kk : gG Z B n (gup V 12 b i 3 x) (pc + 3) L st) : gG Z B n V pc L (.int x :: .ref (B.2.1 12 b i) :: st) := g_put X (ci := 3) (N := 5) (C := RX3) (T := TX3) (ty := .int) rfl gU_X3 tyX3 tyX3_ok nmX3 3 (by decide) rfl rfl (by decide +kernel) rfl rfl hp rfl (by simp) rfl hq d kk
theorem gg_X3_keptByCheats (X : gX Z B cc own) (hp : gP 12 b i) (hq : gFL own idx RX3 "keptByCheats" "I") (d : decode cc pc = .ok (.getfield idx, 3)) (kk : gG Z B n V (pc + 3) L (.int (V 12 b i 4) :: st)) : gG Z B n V pc L (.ref (B.2.1 12 b i) :: st) := g_get X (ci := 3) (N := 5) (C := RX3) (T := TX3) rfl gU_X3 4 (by decide) rfl hp rfl rfl hq d kk
theorem gp_X3_keptByCheats (X : gX Z B cc own) {x : Int32} (hp : gP 12 b i) (hq : gFL own idx RX3 "keptByCheats" "I") (d : decode cc pc = .ok (.putfield idx, 3)) (kk : gG Z B n (gup V 12 b i 4 x) (pc + 3) L st) : gG Z B n V pc L (.int x :: .ref (B.2.1 12 b i) :: st) := g_put X (ci := 3) (N := 5) (C := RX3) (T := TX3) (ty := .int) rfl gU_X3 tyX3 tyX3_ok nmX3 4 (by decide) rfl rfl (by decide +kernel) rfl rfl hp rfl (by simp) rfl hq d kk
theorem gg_X5_carts (X : gX Z B cc own) (hp : gP 13 b i) (hq : gFL own idx RX5 "carts" "[I") (d : decode cc pc = .ok (.getfield idx, 3)) (kk : gG Z B n V (pc + 3) L (.ref (B.2.1 14 b i) :: st)) : gG Z B n V pc L (.ref (B.2.1 13 b i) :: st) := g_get X (ci := 4) (N := 2) (C := RX5) (T := TX5) rfl gU_X5 0 (by decide) rfl hp rfl rfl hq d kk
theorem gg_X5_size (X : gX Z B cc own) (hp : gP 13 b i) (hq : gFL own idx RX5 "size" "I") (d : decode cc pc = .ok (.getfield idx, 3)) (kk : gG Z B n V (pc + 3) L (.int (V 13 b i 1) :: st)) : gG Z B n V pc L (.ref (B.2.1 13 b i) :: st) := g_get X (ci := 4) (N := 2) (C := RX5) (T := TX5) rfl gU_X5 1 (by decide) rfl hp rfl rfl hq d kk
theorem gp_X5_size (X : gX Z B cc own) {x : Int32} (hp : gP 13 b i) (hq : gFL own idx RX5 "size" "I") (d : decode cc pc = .ok (.putfield idx, 3)) (kk : gG Z B n (gup V 13 b i 1 x) (pc + 3) L st) : gG Z B n V pc L (.int x :: .ref (B.2.1 13 b i) :: st) := g_put X (ci := 4) (N := 2) (C := RX5) (T := TX5) (ty := .int) rfl gU_X5 tyX5 tyX5_ok nmX5 1 (by decide) rfl rfl (by decide +kernel) rfl rfl hp rfl (by simp) rfl hq d kk
theorem gg_X1_number (X : gX Z B cc own) (hp : gP 15 b i) (hq : gFL own idx RX1 "number" "I") (d : decode cc pc = .ok (.getfield idx, 3)) (kk : gG Z B n V (pc + 3) L (.int (V 15 b i 0) :: st)) : gG Z B n V pc L (.ref (B.2.1 15 b i) :: st) := g_get X (ci := 1) (N := 11) (C := RX1) (T := TX1) rfl gU_X1 0 (by decide) rfl hp rfl rfl hq d kk
theorem gg_X1_end (X : gX Z B cc own) (hp : gP 15 b i) (hq : gFL own idx RX1 "end" "I") (d : decode cc pc = .ok (.getfield idx, 3)) (kk : gG Z B n V (pc + 3) L (.int (V 15 b i 1) :: st)) : gG Z B n V pc L (.ref (B.2.1 15 b i) :: st) := g_get X (ci := 1) (N := 11) (C := RX1) (T := TX1) rfl gU_X1 1 (by decide) rfl hp rfl rfl hq d kk
theorem gp_X1_end (X : gX Z B cc own) {x : Int32} (hp : gP 15 b i) (hq : gFL own idx RX1 "end" "I") (d : decode cc pc = .ok (.putfield idx, 3)) (kk : gG Z B n (gup V 15 b i 1 x) (pc + 3) L st) : gG Z B n V pc L (.int x :: .ref (B.2.1 15 b i) :: st) := g_put X (ci := 1) (N := 11) (C := RX1) (T := TX1) (ty := .int) rfl gU_X1 tyX1 tyX1_ok nmX1 1 (by decide) rfl rfl (by decide +kernel) rfl rfl hp rfl (by simp) rfl hq d kk
theorem gg_X1_axles (X : gX Z B cc own) (hp : gP 15 b i) (hq : gFL own idx RX1 "axles" "I") (d : decode cc pc = .ok (.getfield idx, 3)) (kk : gG Z B n V (pc + 3) L (.int (V 15 b i 2) :: st)) : gG Z B n V pc L (.ref (B.2.1 15 b i) :: st) := g_get X (ci := 1) (N := 11) (C := RX1) (T := TX1) rfl gU_X1 2 (by decide) rfl hp rfl rfl hq d kk
theorem gp_X1_axles (X : gX Z B cc own) {x : Int32} (hp : gP 15 b i) (hq : gFL own idx RX1 "axles" "I") (d : decode cc pc = .ok (.putfield idx, 3)) (kk : gG Z B n (gup V 15 b i 2 x) (pc + 3) L st) : gG Z B n V pc L (.int x :: .ref (B.2.1 15 b i) :: st) := g_put X (ci := 1) (N := 11) (C := RX1) (T := TX1) (ty := .int) rfl gU_X1 tyX1 tyX1_ok nmX1 2 (by decide) rfl rfl (by decide +kernel) rfl rfl hp rfl (by simp) rfl hq d kk
theorem gg_X1_weight (X : gX Z B cc own) (hp : gP 15 b i) (hq : gFL own idx RX1 "weight" "I") (d : decode cc pc = .ok (.getfield idx, 3)) (kk : gG Z B n V (pc + 3) L (.int (V 15 b i 3) :: st)) : gG Z B n V pc L (.ref (B.2.1 15 b i) :: st) := g_get X (ci := 1) (N := 11) (C := RX1) (T := TX1) rfl gU_X1 3 (by decide) rfl hp rfl rfl hq d kk
theorem gp_X1_weight (X : gX Z B cc own) {x : Int32} (hp : gP 15 b i) (hq : gFL own idx RX1 "weight" "I") (d : decode cc pc = .ok (.putfield idx, 3)) (kk : gG Z B n (gup V 15 b i 3 x) (pc + 3) L st) : gG Z B n V pc L (.int x :: .ref (B.2.1 15 b i) :: st) := g_put X (ci := 1) (N := 11) (C := RX1) (T := TX1) (ty := .int) rfl gU_X1 tyX1 tyX1_ok nmX1 3 (by decide) rfl rfl (by decide +kernel) rfl rfl hp rfl (by simp) rfl hq d kk
theorem gg_X1_pace (X : gX Z B cc own) (hp : gP 15 b i) (hq : gFL own idx RX1 "pace" "I") (d : decode cc pc = .ok (.getfield idx, 3)) (kk : gG Z B n V (pc + 3) L (.int (V 15 b i 4) :: st)) : gG Z B n V pc L (.ref (B.2.1 15 b i) :: st) := g_get X (ci := 1) (N := 11) (C := RX1) (T := TX1) rfl gU_X1 4 (by decide) rfl hp rfl rfl hq d kk
theorem gp_X1_pace (X : gX Z B cc own) {x : Int32} (hp : gP 15 b i) (hq : gFL own idx RX1 "pace" "I") (d : decode cc pc = .ok (.putfield idx, 3)) (kk : gG Z B n (gup V 15 b i 4 x) (pc + 3) L st) : gG Z B n V pc L (.int x :: .ref (B.2.1 15 b i) :: st) := g_put X (ci := 1) (N := 11) (C := RX1) (T := TX1) (ty := .int) rfl gU_X1 tyX1 tyX1_ok nmX1 4 (by decide) rfl rfl (by decide +kernel) rfl rfl hp rfl (by simp) rfl hq d kk
theorem gg_X1_coins (X : gX Z B cc own) (hp : gP 15 b i) (hq : gFL own idx RX1 "coins" "I") (d : decode cc pc = .ok (.getfield idx, 3)) (kk : gG Z B n V (pc + 3) L (.int (V 15 b i 5) :: st)) : gG Z B n V pc L (.ref (B.2.1 15 b i) :: st) := g_get X (ci := 1) (N := 11) (C := RX1) (T := TX1) rfl gU_X1 5 (by decide) rfl hp rfl rfl hq d kk
theorem gp_X1_coins (X : gX Z B cc own) {x : Int32} (hp : gP 15 b i) (hq : gFL own idx RX1 "coins" "I") (d : decode cc pc = .ok (.putfield idx, 3)) (kk : gG Z B n (gup V 15 b i 5 x) (pc + 3) L st) : gG Z B n V pc L (.int x :: .ref (B.2.1 15 b i) :: st) := g_put X (ci := 1) (N := 11) (C := RX1) (T := TX1) (ty := .int) rfl gU_X1 tyX1 tyX1_ok nmX1 5 (by decide) rfl rfl (by decide +kernel) rfl rfl hp rfl (by simp) rfl hq d kk
theorem gg_X1_isCheat (X : gX Z B cc own) (hp : gP 15 b i) (hq : gFL own idx RX1 "isCheat" "Z") (d : decode cc pc = .ok (.getfield idx, 3)) (kk : gG Z B n V (pc + 3) L (.int (V 15 b i 6) :: st)) : gG Z B n V pc L (.ref (B.2.1 15 b i) :: st) := g_get X (ci := 1) (N := 11) (C := RX1) (T := TX1) rfl gU_X1 6 (by decide) rfl hp rfl rfl hq d kk
theorem gp_X1_isCheat (X : gX Z B cc own) {x : Int32} (hx : narrow .boolean (.int x) = .int x) (hx2 : fits .boolean (.int x) = true) (hp : gP 15 b i) (hq : gFL own idx RX1 "isCheat" "Z") (d : decode cc pc = .ok (.putfield idx, 3)) (kk : gG Z B n (gup V 15 b i 6 x) (pc + 3) L st) : gG Z B n V pc L (.int x :: .ref (B.2.1 15 b i) :: st) := g_put X (ci := 1) (N := 11) (C := RX1) (T := TX1) (ty := .boolean) rfl gU_X1 tyX1 tyX1_ok nmX1 6 (by decide) rfl rfl (by decide +kernel) hx hx2 hp rfl (by simp) rfl hq d kk
theorem gg_X1_hasPaid (X : gX Z B cc own) (hp : gP 15 b i) (hq : gFL own idx RX1 "hasPaid" "Z") (d : decode cc pc = .ok (.getfield idx, 3)) (kk : gG Z B n V (pc + 3) L (.int (V 15 b i 7) :: st)) : gG Z B n V pc L (.ref (B.2.1 15 b i) :: st) := g_get X (ci := 1) (N := 11) (C := RX1) (T := TX1) rfl gU_X1 7 (by decide) rfl hp rfl rfl hq d kk
theorem gp_X1_hasPaid (X : gX Z B cc own) {x : Int32} (hx : narrow .boolean (.int x) = .int x) (hx2 : fits .boolean (.int x) = true) (hp : gP 15 b i) (hq : gFL own idx RX1 "hasPaid" "Z") (d : decode cc pc = .ok (.putfield idx, 3)) (kk : gG Z B n (gup V 15 b i 7 x) (pc + 3) L st) : gG Z B n V pc L (.int x :: .ref (B.2.1 15 b i) :: st) := g_put X (ci := 1) (N := 11) (C := RX1) (T := TX1) (ty := .boolean) rfl gU_X1 tyX1 tyX1_ok nmX1 7 (by decide) rfl rfl (by decide +kernel) hx hx2 hp rfl (by simp) rfl hq d kk
theorem gg_X1_state (X : gX Z B cc own) (hp : gP 15 b i) (hq : gFL own idx RX1 "state" "I") (d : decode cc pc = .ok (.getfield idx, 3)) (kk : gG Z B n V (pc + 3) L (.int (V 15 b i 8) :: st)) : gG Z B n V pc L (.ref (B.2.1 15 b i) :: st) := g_get X (ci := 1) (N := 11) (C := RX1) (T := TX1) rfl gU_X1 8 (by decide) rfl hp rfl rfl hq d kk
theorem gp_X1_state (X : gX Z B cc own) {x : Int32} (hp : gP 15 b i) (hq : gFL own idx RX1 "state" "I") (d : decode cc pc = .ok (.putfield idx, 3)) (kk : gG Z B n (gup V 15 b i 8 x) (pc + 3) L st) : gG Z B n V pc L (.int x :: .ref (B.2.1 15 b i) :: st) := g_put X (ci := 1) (N := 11) (C := RX1) (T := TX1) (ty := .int) rfl gU_X1 tyX1 tyX1_ok nmX1 8 (by decide) rfl rfl (by decide +kernel) rfl rfl hp rfl (by simp) rfl hq d kk
theorem gg_X1_way (X : gX Z B cc own) (hp : gP 15 b i) (hq : gFL own idx RX1 "way" "I") (d : decode cc pc = .ok (.getfield idx, 3)) (kk : gG Z B n V (pc + 3) L (.int (V 15 b i 9) :: st)) : gG Z B n V pc L (.ref (B.2.1 15 b i) :: st) := g_get X (ci := 1) (N := 11) (C := RX1) (T := TX1) rfl gU_X1 9 (by decide) rfl hp rfl rfl hq d kk
theorem gp_X1_way (X : gX Z B cc own) {x : Int32} (hp : gP 15 b i) (hq : gFL own idx RX1 "way" "I") (d : decode cc pc = .ok (.putfield idx, 3)) (kk : gG Z B n (gup V 15 b i 9 x) (pc + 3) L st) : gG Z B n V pc L (.int x :: .ref (B.2.1 15 b i) :: st) := g_put X (ci := 1) (N := 11) (C := RX1) (T := TX1) (ty := .int) rfl gU_X1 tyX1 tyX1_ok nmX1 9 (by decide) rfl rfl (by decide +kernel) rfl rfl hp rfl (by simp) rfl hq d kk
theorem gg_X1_overTick (X : gX Z B cc own) (hp : gP 15 b i) (hq : gFL own idx RX1 "overTick" "I") (d : decode cc pc = .ok (.getfield idx, 3)) (kk : gG Z B n V (pc + 3) L (.int (V 15 b i 10) :: st)) : gG Z B n V pc L (.ref (B.2.1 15 b i) :: st) := g_get X (ci := 1) (N := 11) (C := RX1) (T := TX1) rfl gU_X1 10 (by decide) rfl hp rfl rfl hq d kk
theorem gp_X1_overTick (X : gX Z B cc own) {x : Int32} (hp : gP 15 b i) (hq : gFL own idx RX1 "overTick" "I") (d : decode cc pc = .ok (.putfield idx, 3)) (kk : gG Z B n (gup V 15 b i 10 x) (pc + 3) L st) : gG Z B n V pc L (.int x :: .ref (B.2.1 15 b i) :: st) := g_put X (ci := 1) (N := 11) (C := RX1) (T := TX1) (ty := .int) rfl gU_X1 tyX1 tyX1_ok nmX1 10 (by decide) rfl rfl (by decide +kernel) rfl rfl hp rfl (by simp) rfl hq d kk
end GFLD
theorem fX2_9 : gFL RX2 9 RX2 "signals" "[I" := Or.inl qF_X2_9
theorem fX2_15 : gFL RX2 15 RX2 "rowsOfLength" "[I" := Or.inl qF_X2_15
theorem fX2_18 : gFL RX2 18 RX2 "size" "I" := Or.inl qF_X2_18
theorem fX6_81 : gFL RX6 81 RX2 "size" "I" := Or.inr ⟨_, qFN_X6_81⟩
theorem fX5_9 : gFL RX5 9 RX5 "carts" "[I" := Or.inl qF_X5_9
theorem fX5_15 : gFL RX5 15 RX5 "size" "I" := Or.inl qF_X5_15
theorem fX3_34 : gFL RX3 34 RX5 "size" "I" := Or.inr ⟨_, qFN_X3_34⟩
theorem fX6_114 : gFL RX6 114 RX5 "size" "I" := Or.inr ⟨_, qFN_X6_114⟩
theorem fX0_80 : gFL RX0 80 RX5 "size" "I" := Or.inr ⟨_, qFN_X0_80⟩
theorem fX3_12 : gFL RX3 12 RX3 "waiting" "LFogBridge$Row;" := Or.inl qF_X3_12
theorem fX6_172 : gFL RX6 172 RX3 "waiting" "LFogBridge$Row;" := Or.inr ⟨_, qFN_X6_172⟩
theorem fX0_157 : gFL RX0 157 RX3 "waiting" "LFogBridge$Row;" := Or.inr ⟨_, qFN_X0_157⟩
theorem fX3_18 : gFL RX3 18 RX3 "coins" "I" := Or.inl qF_X3_18
theorem fX0_77 : gFL RX0 77 RX3 "coins" "I" := Or.inr ⟨_, qFN_X0_77⟩
theorem fX6_209 : gFL RX6 209 RX3 "coins" "I" := Or.inr ⟨_, qFN_X6_209⟩
theorem fX3_22 : gFL RX3 22 RX3 "payers" "I" := Or.inl qF_X3_22
theorem fX3_25 : gFL RX3 25 RX3 "axles" "I" := Or.inl qF_X3_25
theorem fX3_31 : gFL RX3 31 RX3 "keptByCheats" "I" := Or.inl qF_X3_31
theorem fX6_206 : gFL RX6 206 RX3 "keptByCheats" "I" := Or.inr ⟨_, qFN_X6_206⟩
theorem fX1_18 : gFL RX1 18 RX1 "number" "I" := Or.inl qF_X1_18
theorem fX6_177 : gFL RX6 177 RX1 "number" "I" := Or.inr ⟨_, qFN_X6_177⟩
theorem fX0_160 : gFL RX0 160 RX1 "number" "I" := Or.inr ⟨_, qFN_X0_160⟩
theorem fX1_21 : gFL RX1 21 RX1 "end" "I" := Or.inl qF_X1_21
theorem fX6_147 : gFL RX6 147 RX1 "end" "I" := Or.inr ⟨_, qFN_X6_147⟩
theorem fX0_100 : gFL RX0 100 RX1 "end" "I" := Or.inr ⟨_, qFN_X0_100⟩
theorem fX1_24 : gFL RX1 24 RX1 "axles" "I" := Or.inl qF_X1_24
theorem fX3_28 : gFL RX3 28 RX1 "axles" "I" := Or.inr ⟨_, qFN_X3_28⟩
theorem fX6_152 : gFL RX6 152 RX1 "axles" "I" := Or.inr ⟨_, qFN_X6_152⟩
theorem fX0_93 : gFL RX0 93 RX1 "axles" "I" := Or.inr ⟨_, qFN_X0_93⟩
theorem fX1_27 : gFL RX1 27 RX1 "weight" "I" := Or.inl qF_X1_27
theorem fX0_87 : gFL RX0 87 RX1 "weight" "I" := Or.inr ⟨_, qFN_X0_87⟩
theorem fX6_155 : gFL RX6 155 RX1 "weight" "I" := Or.inr ⟨_, qFN_X6_155⟩
theorem fX1_30 : gFL RX1 30 RX1 "pace" "I" := Or.inl qF_X1_30
theorem fX6_158 : gFL RX6 158 RX1 "pace" "I" := Or.inr ⟨_, qFN_X6_158⟩
theorem fX0_96 : gFL RX0 96 RX1 "pace" "I" := Or.inr ⟨_, qFN_X0_96⟩
theorem fX1_33 : gFL RX1 33 RX1 "coins" "I" := Or.inl qF_X1_33
theorem fX6_161 : gFL RX6 161 RX1 "coins" "I" := Or.inr ⟨_, qFN_X6_161⟩
theorem fX0_99 : gFL RX0 99 RX1 "coins" "I" := Or.inr ⟨_, qFN_X0_99⟩
theorem fX1_36 : gFL RX1 36 RX1 "isCheat" "Z" := Or.inl qF_X1_36
theorem fX6_164 : gFL RX6 164 RX1 "isCheat" "Z" := Or.inr ⟨_, qFN_X6_164⟩
theorem fX0_190 : gFL RX0 190 RX1 "isCheat" "Z" := Or.inr ⟨_, qFN_X0_190⟩
theorem fX1_40 : gFL RX1 40 RX1 "hasPaid" "Z" := Or.inl qF_X1_40
theorem fX0_173 : gFL RX0 173 RX1 "hasPaid" "Z" := Or.inr ⟨_, qFN_X0_173⟩
theorem fX1_9 : gFL RX1 9 RX1 "state" "I" := Or.inl qF_X1_9
theorem fX0_74 : gFL RX0 74 RX1 "state" "I" := Or.inr ⟨_, qFN_X0_74⟩
theorem fX1_43 : gFL RX1 43 RX1 "way" "I" := Or.inl qF_X1_43
theorem fX0_133 : gFL RX0 133 RX1 "way" "I" := Or.inr ⟨_, qFN_X0_133⟩
theorem fX1_15 : gFL RX1 15 RX1 "overTick" "I" := Or.inl qF_X1_15
theorem fX0_90 : gFL RX0 90 RX1 "overTick" "I" := Or.inr ⟨_, qFN_X0_90⟩
theorem fX0_71 : gFL RX0 71 RX0 "tick" "I" := Or.inl qF_X0_71
theorem fX6_90 : gFL RX6 90 RX0 "tick" "I" := Or.inr ⟨_, qFN_X6_90⟩
theorem fX0_61 : gFL RX0 61 RX0 "direction" "I" := Or.inl qF_X0_61
theorem fX6_136 : gFL RX6 136 RX0 "direction" "I" := Or.inr ⟨_, qFN_X6_136⟩
theorem fX0_9 : gFL RX0 9 RX0 "places" "I" := Or.inl qF_X0_9
theorem fX6_122 : gFL RX6 122 RX0 "places" "I" := Or.inr ⟨_, qFN_X6_122⟩
theorem fX0_15 : gFL RX0 15 RX0 "bears" "I" := Or.inl qF_X0_15
theorem fX6_119 : gFL RX6 119 RX0 "bears" "I" := Or.inr ⟨_, qFN_X6_119⟩
theorem fX0_18 : gFL RX0 18 RX0 "axleToll" "I" := Or.inl qF_X0_18
theorem fX6_127 : gFL RX6 127 RX0 "axleToll" "I" := Or.inr ⟨_, qFN_X6_127⟩
theorem fX0_21 : gFL RX0 21 RX0 "tenToll" "I" := Or.inl qF_X0_21
theorem fX6_130 : gFL RX6 130 RX0 "tenToll" "I" := Or.inr ⟨_, qFN_X6_130⟩
theorem fX0_50 : gFL RX0 50 RX0 "cartCount" "I" := Or.inl qF_X0_50
theorem fX6_258 : gFL RX6 258 RX0 "cartCount" "I" := Or.inr ⟨_, qFN_X6_258⟩
theorem fX0_26 : gFL RX0 26 RX0 "carts" "[LFogBridge$Cart;" := Or.inl qF_X0_26
theorem fX0_33 : gFL RX0 33 RX0 "firstGate" "LFogBridge$Gate;" := Or.inl qF_X0_33
theorem fX0_37 : gFL RX0 37 RX0 "secondGate" "LFogBridge$Gate;" := Or.inl qF_X0_37
theorem fX0_43 : gFL RX0 43 RX0 "crossing" "LFogBridge$Row;" := Or.inl qF_X0_43
theorem fX6_110 : gFL RX6 110 RX0 "crossing" "LFogBridge$Row;" := Or.inr ⟨_, qFN_X6_110⟩
theorem fX6_10 : gFL RX6 10 RX6 "code" "LFogBridge$Code;" := Or.inl qF_X6_10
theorem fX6_16 : gFL RX6 16 RX6 "fog" "[I" := Or.inl qF_X6_16
theorem fX6_23 : gFL RX6 23 RX6 "bridge" "LFogBridge$Bridge;" := Or.inl qF_X6_23
theorem fX6_27 : gFL RX6 27 RX6 "ahead" "LFogBridge$Bridge;" := Or.inl qF_X6_27
theorem fX6_30 : gFL RX6 30 RX6 "branch" "LFogBridge$Bridge;" := Or.inl qF_X6_30
theorem lL_25 : gML RL 25 yX6_setToll := Or.inl qL_L_25
theorem lX6_39 : gML RX6 39 yX6_isBetween := Or.inl qL_X6_39
theorem lL_49 : gML RL 49 yX6_change := Or.inl qL_L_49
theorem lX6_133 : gML RX6 133 yX0_turn := Or.inl qL_X6_133
theorem lL_40 : gML RL 40 yX6_cart := Or.inl qL_L_40
theorem lX6_184 : gML RX6 184 yX0_cartAt := Or.inl qL_X6_184
theorem lX0_53 : gML RX0 53 yX6_isIndex := Or.inr ⟨_, qMN_X0_53⟩
theorem lX6_68 : gML RX6 68 yX6_isIndex := Or.inl qL_X6_68
theorem lX6_190 : gML RX6 190 yX0_tellCart := Or.inl qL_X6_190
theorem lX0_103 : gML RX0 103 yX0_placeOf := Or.inl qL_X0_103
theorem lX0_107 : gML RX0 107 yX0_tollFor := Or.inl qL_X0_107
theorem lL_75 : gML RL 75 yX6_queue := Or.inl qL_L_75
theorem lX6_168 : gML RX6 168 yX0_gateAt := Or.inl qL_X6_168
theorem lX6_196 : gML RX6 196 yX5_at := Or.inl qL_X6_196
theorem lX5_19 : gML RX5 19 yX6_isIndex := Or.inr ⟨_, qMN_X5_19⟩
theorem lL_53 : gML RL 53 yX6_box := Or.inl qL_L_53
theorem lX6_201 : gML RX6 201 yX3_tell := Or.inl qL_X6_201
theorem lL_56 : gML RL 56 yX6_empty := Or.inl qL_L_56
theorem lL_72 : gML RL 72 yX6_pass := Or.inl qL_L_72
theorem lX6_212 : gML RX6 212 yX0_run := Or.inl qL_X6_212
theorem lX0_64 : gML RX0 64 yX0_move := Or.inl qL_X0_64
theorem lX0_83 : gML RX0 83 yX5_at := Or.inl qL_X0_83
theorem lX0_57 : gML RX0 57 yX0_cartAt := Or.inl qL_X0_57
theorem lX0_136 : gML RX0 136 yX0_goOn := Or.inl qL_X0_136
theorem lX0_142 : gML RX0 142 yJ9_min_7cf53 := Or.inl qL_X0_142
theorem lX0_147 : gML RX0 147 yX5_removeFirst := Or.inl qL_X0_147
theorem lX0_139 : gML RX0 139 yX0_goBack := Or.inl qL_X0_139
theorem lX0_150 : gML RX0 150 yJ9_max_7cf53 := Or.inl qL_X0_150
theorem lX0_153 : gML RX0 153 yX0_gateAt := Or.inl qL_X0_153
theorem lX0_163 : gML RX0 163 yX5_addFirst := Or.inl qL_X0_163
theorem lX0_166 : gML RX0 166 yX5_removeLast := Or.inl qL_X0_166
theorem lX0_68 : gML RX0 68 yX0_comeOn := Or.inl qL_X0_68
theorem lX0_169 : gML RX0 169 yX0_hasRoomFor := Or.inl qL_X0_169
theorem lX0_184 : gML RX0 184 yX5_last := Or.inl qL_X0_184
theorem lX5_23 : gML RX5 23 yX5_at := Or.inl qL_X5_23
theorem lX0_187 : gML RX0 187 yX0_weightOnBridge := Or.inl qL_X0_187
theorem lX0_177 : gML RX0 177 yX0_pays := Or.inl qL_X0_177
theorem lX0_193 : gML RX0 193 yX3_take := Or.inl qL_X0_193
theorem lX0_181 : gML RX0 181 yX5_addLast := Or.inl qL_X0_181
theorem lL_36 : gML RL 36 yX6_count := Or.inl qL_L_36
theorem lX6_217 : gML RX6 217 yX6_countOf := Or.inl qL_X6_217
theorem lX6_261 : gML RX6 261 yX0_cartsIn := Or.inl qL_X6_261
theorem lX6_264 : gML RX6 264 yX0_weightOnBridge := Or.inl qL_X6_264
theorem lL_69 : gML RL 69 yX6_over := Or.inl qL_L_69
theorem lX6_222 : gML RX6 222 yX0_copyFrom := Or.inl qL_X6_222
theorem lX0_123 : gML RX0 123 yX1_copyFrom := Or.inl qL_X0_123
theorem lX0_127 : gML RX0 127 yX3_copyFrom := Or.inl qL_X0_127
theorem lX3_48 : gML RX3 48 yX5_copyFrom := Or.inl qL_X3_48
theorem lX0_130 : gML RX0 130 yX5_copyFrom := Or.inl qL_X0_130
theorem lX6_226 : gML RX6 226 yX0_isOver := Or.inl qL_X6_226
theorem lL_66 : gML RL 66 yX6_keep := Or.inl qL_L_66
theorem lL_63 : gML RL 63 yX6_foresee := Or.inl qL_L_63
theorem lX6_231 : gML RX6 231 yX0_coinsInBoxes := Or.inl qL_X6_231
theorem lL_59 : gML RL 59 yX6_digest := Or.inl qL_L_59
theorem lX6_241 : gML RX6 241 yX6_mixed := Or.inl qL_X6_241
theorem lX6_245 : gML RX6 245 yX2_mixedInto := Or.inl qL_X6_245
theorem lX2_22 : gML RX2 22 yX2_ringsOf := Or.inl qL_X2_22
theorem lX2_32 : gML RX2 32 yX6_isIndex := Or.inr ⟨_, qMN_X2_32⟩
theorem lX2_54 : gML RX2 54 yX6_mixed := Or.inr ⟨_, qMN_X2_54⟩
theorem lX6_249 : gML RX6 249 yX0_mixedInto := Or.inl qL_X6_249
theorem lX0_111 : gML RX0 111 yX3_mixedInto := Or.inl qL_X0_111
theorem lX3_37 : gML RX3 37 yX3_tell := Or.inl qL_X3_37
theorem lX3_41 : gML RX3 41 yX6_mixed := Or.inr ⟨_, qMN_X3_41⟩
theorem lX3_45 : gML RX3 45 yX5_at := Or.inl qL_X3_45
theorem lX0_115 : gML RX0 115 yX0_tellCart := Or.inl qL_X0_115
theorem lX0_119 : gML RX0 119 yX6_mixed := Or.inr ⟨_, qMN_X0_119⟩
theorem lL_18 : gML RL 18 yL_below := Or.inl qL_L_18
theorem lL_12 : gML RL 12 yL_cell := Or.inl qL_L_12
theorem lL_32 : gML RL 32 yL_bridge := Or.inl qL_L_32
theorem lL_11 : gML RL 11 yX6_init := Or.inl qL_L_11
theorem lX6_1 : gML RX6 1 objectInit := Or.inl qL_X6_1
theorem lX6_9 : gML RX6 9 yX2_init := Or.inr ⟨_, qMN_X6_9⟩
theorem lX2_3 : gML RX2 3 objectInit := Or.inl qL_X2_3
theorem lX6_22 : gML RX6 22 yX0_init := Or.inl qL_X6_22
theorem lX0_3 : gML RX0 3 objectInit := Or.inl qL_X0_3
theorem lX0_32 : gML RX0 32 yX3_init := Or.inr ⟨_, qMN_X0_32⟩
theorem lX3_3 : gML RX3 3 objectInit := Or.inl qL_X3_3
theorem lX3_11 : gML RX3 11 yX5_init := Or.inr ⟨_, qMN_X3_11⟩
theorem lX5_3 : gML RX5 3 objectInit := Or.inl qL_X5_3
theorem lX0_42 : gML RX0 42 yX5_init := Or.inr ⟨_, qMN_X0_42⟩
theorem lX0_47 : gML RX0 47 yX1_init := Or.inl qL_X0_47
theorem lX1_3 : gML RX1 3 objectInit := Or.inl qL_X1_3
theorem lL_22 : gML RL 22 yX6_rebuild := Or.inl qL_L_22
theorem lL_28 : gML RL 28 yX6_come := Or.inl qL_L_28
theorem lX6_141 : gML RX6 141 yX0_newCart := Or.inl qL_X6_141
theorem lX6_180 : gML RX6 180 yX5_addLast := Or.inl qL_X6_180
theorem mX6_setToll : gCV yX6_setToll cX6_setToll 4 (some .int) 2 := ⟨qI_yX6_setToll, qS_yX6_setToll, qC_yX6_setToll, qN_X6, by decide +kernel, by decide +kernel⟩
theorem mX6_isBetween : gCS yX6_isBetween cX6_isBetween 3 (some .boolean) 3 := ⟨qT_yX6_isBetween, qC_yX6_isBetween, qN_X6, by decide +kernel, by decide +kernel⟩
theorem mX6_change : gCV yX6_change cX6_change 1 (some .int) 0 := ⟨qI_yX6_change, qS_yX6_change, qC_yX6_change, qN_X6, by decide +kernel, by decide +kernel⟩
theorem mX0_turn : gCV yX0_turn cX0_turn 1 none 0 := ⟨qI_yX0_turn, qS_yX0_turn, qC_yX0_turn, qN_X0, by decide +kernel, by decide +kernel⟩
theorem mX6_cart : gCV yX6_cart cX6_cart 4 (some .int) 2 := ⟨qI_yX6_cart, qS_yX6_cart, qC_yX6_cart, qN_X6, by decide +kernel, by decide +kernel⟩
theorem mX0_cartAt : gCV yX0_cartAt cX0_cartAt 2 (some (.object "FogBridge$Cart")) 1 := ⟨qI_yX0_cartAt, qS_yX0_cartAt, qC_yX0_cartAt, qN_X0, by decide +kernel, by decide +kernel⟩
theorem mX6_isIndex : gCS yX6_isIndex cX6_isIndex 2 (some .boolean) 2 := ⟨qT_yX6_isIndex, qC_yX6_isIndex, qN_X6, by decide +kernel, by decide +kernel⟩
theorem mX0_tellCart : gCV yX0_tellCart cX0_tellCart 3 (some .int) 2 := ⟨qI_yX0_tellCart, qS_yX0_tellCart, qC_yX0_tellCart, qN_X0, by decide +kernel, by decide +kernel⟩
theorem mX0_placeOf : gCV yX0_placeOf cX0_placeOf 2 (some .int) 1 := ⟨qI_yX0_placeOf, qS_yX0_placeOf, qC_yX0_placeOf, qN_X0, by decide +kernel, by decide +kernel⟩
theorem mX0_tollFor : gCV yX0_tollFor cX0_tollFor 3 (some .int) 2 := ⟨qI_yX0_tollFor, qS_yX0_tollFor, qC_yX0_tollFor, qN_X0, by decide +kernel, by decide +kernel⟩
theorem mX6_queue : gCV yX6_queue cX6_queue 3 (some .int) 2 := ⟨qI_yX6_queue, qS_yX6_queue, qC_yX6_queue, qN_X6, by decide +kernel, by decide +kernel⟩
theorem mX0_gateAt : gCV yX0_gateAt cX0_gateAt 2 (some (.object "FogBridge$Gate")) 1 := ⟨qI_yX0_gateAt, qS_yX0_gateAt, qC_yX0_gateAt, qN_X0, by decide +kernel, by decide +kernel⟩
theorem mX5_at : gCV yX5_at cX5_at 2 (some .int) 1 := ⟨qI_yX5_at, qS_yX5_at, qC_yX5_at, qN_X5, by decide +kernel, by decide +kernel⟩
theorem mX6_box : gCV yX6_box cX6_box 3 (some .int) 2 := ⟨qI_yX6_box, qS_yX6_box, qC_yX6_box, qN_X6, by decide +kernel, by decide +kernel⟩
theorem mX3_tell : gCV yX3_tell cX3_tell 2 (some .int) 1 := ⟨qI_yX3_tell, qS_yX3_tell, qC_yX3_tell, qN_X3, by decide +kernel, by decide +kernel⟩
theorem mX6_empty : gCV yX6_empty cX6_empty 4 (some .int) 1 := ⟨qI_yX6_empty, qS_yX6_empty, qC_yX6_empty, qN_X6, by decide +kernel, by decide +kernel⟩
theorem mX6_pass : gCV yX6_pass cX6_pass 2 (some .int) 1 := ⟨qI_yX6_pass, qS_yX6_pass, qC_yX6_pass, qN_X6, by decide +kernel, by decide +kernel⟩
theorem mX0_run : gCV yX0_run cX0_run 4 (some .int) 1 := ⟨qI_yX0_run, qS_yX0_run, qC_yX0_run, qN_X0, by decide +kernel, by decide +kernel⟩
theorem mX0_move : gCV yX0_move cX0_move 2 (some .int) 0 := ⟨qI_yX0_move, qS_yX0_move, qC_yX0_move, qN_X0, by decide +kernel, by decide +kernel⟩
theorem mX0_goOn : gCV yX0_goOn cX0_goOn 6 (some .int) 0 := ⟨qI_yX0_goOn, qS_yX0_goOn, qC_yX0_goOn, qN_X0, by decide +kernel, by decide +kernel⟩
theorem mJ9_min_7cf53 : gCS yJ9_min_7cf53 cJ9_min_7cf53 2 (some .int) 2 := ⟨qT_yJ9_min_7cf53, qC_yJ9_min_7cf53, qN_J9, by decide +kernel, by decide +kernel⟩
theorem mX5_removeFirst : gCV yX5_removeFirst cX5_removeFirst 2 none 0 := ⟨qI_yX5_removeFirst, qS_yX5_removeFirst, qC_yX5_removeFirst, qN_X5, by decide +kernel, by decide +kernel⟩
theorem mX0_goBack : gCV yX0_goBack cX0_goBack 5 none 0 := ⟨qI_yX0_goBack, qS_yX0_goBack, qC_yX0_goBack, qN_X0, by decide +kernel, by decide +kernel⟩
theorem mJ9_max_7cf53 : gCS yJ9_max_7cf53 cJ9_max_7cf53 2 (some .int) 2 := ⟨qT_yJ9_max_7cf53, qC_yJ9_max_7cf53, qN_J9, by decide +kernel, by decide +kernel⟩
theorem mX5_addFirst : gCV yX5_addFirst cX5_addFirst 3 none 1 := ⟨qI_yX5_addFirst, qS_yX5_addFirst, qC_yX5_addFirst, qN_X5, by decide +kernel, by decide +kernel⟩
theorem mX5_removeLast : gCV yX5_removeLast cX5_removeLast 1 none 0 := ⟨qI_yX5_removeLast, qS_yX5_removeLast, qC_yX5_removeLast, qN_X5, by decide +kernel, by decide +kernel⟩
theorem mX0_comeOn : gCV yX0_comeOn cX0_comeOn 3 none 0 := ⟨qI_yX0_comeOn, qS_yX0_comeOn, qC_yX0_comeOn, qN_X0, by decide +kernel, by decide +kernel⟩
theorem mX0_hasRoomFor : gCV yX0_hasRoomFor cX0_hasRoomFor 4 (some .boolean) 1 := ⟨qI_yX0_hasRoomFor, qS_yX0_hasRoomFor, qC_yX0_hasRoomFor, qN_X0, by decide +kernel, by decide +kernel⟩
theorem mX5_last : gCV yX5_last cX5_last 1 (some .int) 0 := ⟨qI_yX5_last, qS_yX5_last, qC_yX5_last, qN_X5, by decide +kernel, by decide +kernel⟩
theorem mX0_weightOnBridge : gCV yX0_weightOnBridge cX0_weightOnBridge 4 (some .int) 0 := ⟨qI_yX0_weightOnBridge, qS_yX0_weightOnBridge, qC_yX0_weightOnBridge, qN_X0, by decide +kernel, by decide +kernel⟩
theorem mX0_pays : gCV yX0_pays cX0_pays 5 (some .boolean) 2 := ⟨qI_yX0_pays, qS_yX0_pays, qC_yX0_pays, qN_X0, by decide +kernel, by decide +kernel⟩
theorem mX3_take : gCV yX3_take cX3_take 4 none 3 := ⟨qI_yX3_take, qS_yX3_take, qC_yX3_take, qN_X3, by decide +kernel, by decide +kernel⟩
theorem mX5_addLast : gCV yX5_addLast cX5_addLast 2 none 1 := ⟨qI_yX5_addLast, qS_yX5_addLast, qC_yX5_addLast, qN_X5, by decide +kernel, by decide +kernel⟩
theorem mX6_count : gCV yX6_count cX6_count 2 (some .int) 1 := ⟨qI_yX6_count, qS_yX6_count, qC_yX6_count, qN_X6, by decide +kernel, by decide +kernel⟩
theorem mX6_countOf : gCV yX6_countOf cX6_countOf 2 (some .int) 1 := ⟨qI_yX6_countOf, qS_yX6_countOf, qC_yX6_countOf, qN_X6, by decide +kernel, by decide +kernel⟩
theorem mX0_cartsIn : gCV yX0_cartsIn cX0_cartsIn 5 (some .int) 1 := ⟨qI_yX0_cartsIn, qS_yX0_cartsIn, qC_yX0_cartsIn, qN_X0, by decide +kernel, by decide +kernel⟩
theorem mX6_over : gCV yX6_over cX6_over 3 (some .int) 1 := ⟨qI_yX6_over, qS_yX6_over, qC_yX6_over, qN_X6, by decide +kernel, by decide +kernel⟩
theorem mX0_copyFrom : gCV yX0_copyFrom cX0_copyFrom 5 none 1 := ⟨qI_yX0_copyFrom, qS_yX0_copyFrom, qC_yX0_copyFrom, qN_X0, by decide +kernel, by decide +kernel⟩
theorem mX1_copyFrom : gCV yX1_copyFrom cX1_copyFrom 2 none 1 := ⟨qI_yX1_copyFrom, qS_yX1_copyFrom, qC_yX1_copyFrom, qN_X1, by decide +kernel, by decide +kernel⟩
theorem mX3_copyFrom : gCV yX3_copyFrom cX3_copyFrom 2 none 1 := ⟨qI_yX3_copyFrom, qS_yX3_copyFrom, qC_yX3_copyFrom, qN_X3, by decide +kernel, by decide +kernel⟩
theorem mX5_copyFrom : gCV yX5_copyFrom cX5_copyFrom 3 none 1 := ⟨qI_yX5_copyFrom, qS_yX5_copyFrom, qC_yX5_copyFrom, qN_X5, by decide +kernel, by decide +kernel⟩
theorem mX0_isOver : gCV yX0_isOver cX0_isOver 3 (some .boolean) 1 := ⟨qI_yX0_isOver, qS_yX0_isOver, qC_yX0_isOver, qN_X0, by decide +kernel, by decide +kernel⟩
theorem mX6_keep : gCV yX6_keep cX6_keep 6 (some .int) 0 := ⟨qI_yX6_keep, qS_yX6_keep, qC_yX6_keep, qN_X6, by decide +kernel, by decide +kernel⟩
theorem mX6_foresee : gCV yX6_foresee cX6_foresee 4 (some .int) 2 := ⟨qI_yX6_foresee, qS_yX6_foresee, qC_yX6_foresee, qN_X6, by decide +kernel, by decide +kernel⟩
theorem mX0_coinsInBoxes : gCV yX0_coinsInBoxes cX0_coinsInBoxes 1 (some .int) 0 := ⟨qI_yX0_coinsInBoxes, qS_yX0_coinsInBoxes, qC_yX0_coinsInBoxes, qN_X0, by decide +kernel, by decide +kernel⟩
theorem mX6_digest : gCV yX6_digest cX6_digest 4 (some .long) 0 := ⟨qI_yX6_digest, qS_yX6_digest, qC_yX6_digest, qN_X6, by decide +kernel, by decide +kernel⟩
theorem mX6_mixed : gCS yX6_mixed cX6_mixed 3 (some .long) 2 := ⟨qT_yX6_mixed, qC_yX6_mixed, qN_X6, by decide +kernel, by decide +kernel⟩
theorem mX2_mixedInto : gCV yX2_mixedInto cX2_mixedInto 6 (some .long) 1 := ⟨qI_yX2_mixedInto, qS_yX2_mixedInto, qC_yX2_mixedInto, qN_X2, by decide +kernel, by decide +kernel⟩
theorem mX2_ringsOf : gCV yX2_ringsOf cX2_ringsOf 2 (some .int) 1 := ⟨qI_yX2_ringsOf, qS_yX2_ringsOf, qC_yX2_ringsOf, qN_X2, by decide +kernel, by decide +kernel⟩
theorem mX0_mixedInto : gCV yX0_mixedInto cX0_mixedInto 8 (some .long) 1 := ⟨qI_yX0_mixedInto, qS_yX0_mixedInto, qC_yX0_mixedInto, qN_X0, by decide +kernel, by decide +kernel⟩
theorem mX3_mixedInto : gCV yX3_mixedInto cX3_mixedInto 6 (some .long) 1 := ⟨qI_yX3_mixedInto, qS_yX3_mixedInto, qC_yX3_mixedInto, qN_X3, by decide +kernel, by decide +kernel⟩
theorem mX6_rebuild : gCV yX6_rebuild cX6_rebuild 4 (some .int) 2 := ⟨qI_yX6_rebuild, qS_yX6_rebuild, qC_yX6_rebuild, qN_X6, by decide +kernel, by decide +kernel⟩
theorem mX6_come : gCV yX6_come cX6_come 8 (some .int) 6 := ⟨qI_yX6_come, qS_yX6_come, qC_yX6_come, qN_X6, by decide +kernel, by decide +kernel⟩
theorem mX0_newCart : gCV yX0_newCart cX0_newCart 1 (some (.object "FogBridge$Cart")) 0 := ⟨qI_yX0_newCart, qS_yX0_newCart, qC_yX0_newCart, qN_X0, by decide +kernel, by decide +kernel⟩
