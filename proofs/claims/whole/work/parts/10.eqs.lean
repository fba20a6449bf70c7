-- DeskMachine.isByte(I)Z ()
set_option maxRecDepth 100000 in
set_option maxHeartbeats 4000000 in
theorem e0_0 (C : xC) (k : xK) (v0 : Int32) (σ : xS) : x_b x_i0 C k 0 [(0, .int v0)] [] σ = (if v0 < 0 then some ((0 : Int32), σ) else (if (255 : Int32) < v0 then some ((0 : Int32), σ) else some ((1 : Int32), σ))) := rfl
-- DeskMachine$KeyQueue.isFull()Z (8,)
set_option maxRecDepth 100000 in
set_option maxHeartbeats 4000000 in
theorem e1_0 (C : xC) (k : xK) (σ : xS) : x_b x_i1 C k 0 [(0, .ref 8)] [] σ = (if (σ 8 2) = (40 : Int32) then some ((1 : Int32), σ) else some ((0 : Int32), σ)) := rfl
-- DeskMachine$KeyQueue.add(I)V (8,)
set_option maxRecDepth 100000 in
set_option maxHeartbeats 4000000 in
theorem e2_0 (C : xC) (k : xK) (v1 : Int32) (σ : xS) : x_b x_i2 C k 0 [(0, .ref 8), (1, .int v1)] [] σ = (if (((σ 8 1) + (σ 8 2)) - ((σ 8 1) + (σ 8 2)) / (40 : Int32) * (40 : Int32)) < 0 ∨ 40 ≤ (((σ 8 1) + (σ 8 2)) - ((σ 8 1) + (σ 8 2)) / (40 : Int32) * (40 : Int32)).toNatClampNeg then none else some (0, (x_up (x_up σ 9 ((((σ 8 1) + (σ 8 2)) - ((σ 8 1) + (σ 8 2)) / (40 : Int32) * (40 : Int32)).toNatClampNeg) v1) 8 2 (((x_up σ 9 ((((σ 8 1) + (σ 8 2)) - ((σ 8 1) + (σ 8 2)) / (40 : Int32) * (40 : Int32)).toNatClampNeg) v1) 8 2) + (1 : Int32))))) := rfl
-- DeskMachine$KeyQueue.size()I (8,)
set_option maxRecDepth 100000 in
set_option maxHeartbeats 4000000 in
theorem e3_0 (C : xC) (k : xK) (σ : xS) : x_b x_i3 C k 0 [(0, .ref 8)] [] σ = some ((σ 8 2), σ) := rfl
-- DeskMachine.key(I)I (0,)
set_option maxRecDepth 100000 in
set_option maxHeartbeats 4000000 in
theorem e4_0 (C : xC) (k : xK) (v1 : Int32) (σ : xS) : x_b x_i4 C k 0 [(0, .ref 0), (1, .int v1)] [] σ = ((C 0 [.int v1] σ).bind fun r1 => (if r1.1 = 0 then none else ((C 1 [.ref 8] r1.2).bind fun r2 => (if r2.1 = 0 then ((C 2 [.ref 8, .int v1] r2.2).bind fun r3 => ((C 3 [.ref 8] r3.2).bind fun r4 => some (r4.1, r4.2))) else none)))) := rfl
-- DeskMachine$KeyQueue.isEmpty()Z (8,)
set_option maxRecDepth 100000 in
set_option maxHeartbeats 4000000 in
theorem e5_0 (C : xC) (k : xK) (σ : xS) : x_b x_i5 C k 0 [(0, .ref 8)] [] σ = (if (σ 8 2) = 0 then some ((1 : Int32), σ) else some ((0 : Int32), σ)) := rfl
-- DeskMachine$KeyQueue.take()I (8,)
set_option maxRecDepth 100000 in
set_option maxHeartbeats 4000000 in
theorem e6_0 (C : xC) (k : xK) (σ : xS) : x_b x_i6 C k 0 [(0, .ref 8)] [] σ = (if (σ 8 1) < 0 ∨ 40 ≤ (σ 8 1).toNatClampNeg then none else some ((σ 9 (σ 8 1).toNatClampNeg), (x_up (x_up σ 8 1 (((σ 8 1) + (1 : Int32)) - ((σ 8 1) + (1 : Int32)) / (40 : Int32) * (40 : Int32))) 8 2 (((x_up σ 8 1 (((σ 8 1) + (1 : Int32)) - ((σ 8 1) + (1 : Int32)) / (40 : Int32) * (40 : Int32))) 8 2) - (1 : Int32))))) := rfl
-- DeskMachine$Desk.add(I)V (14,)
set_option maxRecDepth 100000 in
set_option maxHeartbeats 4000000 in
theorem e7_0 (C : xC) (k : xK) (v1 : Int32) (σ : xS) : x_b x_i7 C k 0 [(0, .ref 14), (1, .int v1)] [] σ = (if v1 < (32 : Int32) then some (0, σ) else (if (126 : Int32) < v1 then some (0, σ) else (if (20 : Int32) ≤ (σ 14 7) then some (0, σ) else (if (σ 14 7) < 0 ∨ 20 ≤ (σ 14 7).toNatClampNeg then none else some (0, (x_up (x_up σ 15 ((σ 14 7).toNatClampNeg) v1) 14 7 (((x_up σ 15 ((σ 14 7).toNatClampNeg) v1) 14 7) + (1 : Int32)))))))) := rfl
-- DeskMachine$Desk.skip(IZ)I (14,)
set_option maxRecDepth 100000 in
set_option maxHeartbeats 4000000 in
theorem e8_0 (C : xC) (k : xK) (v1 v2 : Int32) (σ : xS) : x_b x_i8 C k 0 [(0, .ref 14), (1, .int v1), (2, .int v2)] [] σ = k 2 [(0, .ref 14), (2, .int v2), (3, .int v1)] [] σ := rfl
set_option maxRecDepth 100000 in
set_option maxHeartbeats 4000000 in
theorem e8_2 (C : xC) (k : xK) (v2 v3 : Int32) (σ : xS) : x_b x_i8 C k 2 [(0, .ref 14), (2, .int v2), (3, .int v3)] [] σ = (if (σ 14 7) ≤ v3 then some (v3, σ) else (if v3 < 0 ∨ 20 ≤ v3.toNatClampNeg then none else (if (σ 15 v3.toNatClampNeg) = (32 : Int32) then (if (1 : Int32) = v2 then k 2 [(0, .ref 14), (2, .int v2), (3, .int (v3 + (1 : Int32)))] [] σ else some (v3, σ)) else (if (0 : Int32) = v2 then k 2 [(0, .ref 14), (2, .int v2), (3, .int (v3 + (1 : Int32)))] [] σ else some (v3, σ))))) := rfl
-- DeskMachine$Desk.findWords()V (14,)
set_option maxRecDepth 100000 in
set_option maxHeartbeats 4000000 in
theorem e9_0 (C : xC) (k : xK) (σ : xS) : x_b x_i9 C k 0 [(0, .ref 14)] [] σ = k 9 [(0, .ref 14), (1, .int (0 : Int32)), (2, .int (0 : Int32))] [] (x_up σ 14 8 (0 : Int32)) := rfl
set_option maxRecDepth 100000 in
set_option maxHeartbeats 4000000 in
theorem e9_9 (C : xC) (k : xK) (v1 v2 : Int32) (σ : xS) : x_b x_i9 C k 9 [(0, .ref 14), (1, .int v1), (2, .int v2)] [] σ = (if (3 : Int32) ≤ v2 then some (0, σ) else ((C 8 [.ref 14, .int v1, .int (1 : Int32)] σ).bind fun r1 => ((C 8 [.ref 14, .int r1.1, .int (0 : Int32)] r1.2).bind fun r2 => (if r2.1 ≤ r1.1 then k 9 [(0, .ref 14), (1, .int r2.1), (2, .int (v2 + (1 : Int32)))] [] r2.2 else (if v2 < 0 ∨ 3 ≤ v2.toNatClampNeg then none else (if v2 < 0 ∨ 3 ≤ v2.toNatClampNeg then none else k 9 [(0, .ref 14), (1, .int r2.1), (2, .int (v2 + (1 : Int32)))] [] (x_up (x_up (x_up r2.2 16 (v2.toNatClampNeg) r1.1) 17 (v2.toNatClampNeg) r2.1) 14 8 (((x_up (x_up r2.2 16 (v2.toNatClampNeg) r1.1) 17 (v2.toNatClampNeg) r2.1) 14 8) + (1 : Int32))))))))) := rfl
-- DeskMachine$Desk.commandOfLine()I (14,)
set_option maxRecDepth 100000 in
set_option maxHeartbeats 4000000 in
theorem e11_0 (C : xC) (k : xK) (σ : xS) : x_b x_i11 C k 0 [(0, .ref 14)] [] σ = (if (σ 14 8) = 0 then some ((6 : Int32), σ) else ((C 10 [.ref 14, .ref 1000] σ).bind fun r1 => (if r1.1 = 0 then ((C 10 [.ref 14, .ref 1001] r1.2).bind fun r2 => (if r2.1 = 0 then ((C 10 [.ref 14, .ref 1002] r2.2).bind fun r3 => (if r3.1 = 0 then ((C 10 [.ref 14, .ref 1003] r3.2).bind fun r4 => (if r4.1 = 0 then ((C 10 [.ref 14, .ref 1004] r4.2).bind fun r5 => (if r5.1 = 0 then some ((5 : Int32), r5.2) else some ((4 : Int32), r5.2))) else some ((3 : Int32), r4.2))) else some ((2 : Int32), r3.2))) else some ((1 : Int32), r2.2))) else some ((0 : Int32), r1.2)))) := rfl
-- DeskMachine$Disk.isFree(I)Z (5,)
set_option maxRecDepth 100000 in
set_option maxHeartbeats 4000000 in
theorem e12_0 (C : xC) (k : xK) (v1 : Int32) (σ : xS) : x_b x_i12 C k 0 [(0, .ref 5), (1, .int v1)] [] σ = (if ((v1 &&& (7 : Int32)) * (16 : Int32)) < 0 ∨ 512 ≤ ((v1 &&& (7 : Int32)) * (16 : Int32)).toNatClampNeg then none else (if (σ 6 ((v1 &&& (7 : Int32)) * (16 : Int32)).toNatClampNeg) = (229 : Int32) then some ((1 : Int32), σ) else some ((0 : Int32), σ))) := rfl
-- DeskMachine$Disk.get(II)I (5,)
set_option maxRecDepth 100000 in
set_option maxHeartbeats 4000000 in
theorem e13_0 (C : xC) (k : xK) (v1 v2 : Int32) (σ : xS) : x_b x_i13 C k 0 [(0, .ref 5), (1, .int v1), (2, .int v2)] [] σ = (if (((v1 &&& (31 : Int32)) * (16 : Int32)) + (v2 &&& (15 : Int32))) < 0 ∨ 512 ≤ (((v1 &&& (31 : Int32)) * (16 : Int32)) + (v2 &&& (15 : Int32))).toNatClampNeg then none else some ((σ 6 (((v1 &&& (31 : Int32)) * (16 : Int32)) + (v2 &&& (15 : Int32))).toNatClampNeg), σ)) := rfl
-- DeskMachine$Screen.show(I)V (10,)
set_option maxRecDepth 100000 in
set_option maxHeartbeats 4000000 in
theorem e14_0 (C : xC) (k : xK) (v1 : Int32) (σ : xS) : x_b x_i14 C k 0 [(0, .ref 10), (1, .int v1)] [] σ = (if ((σ 10 1) &&& (63 : Int32)) < 0 ∨ 64 ≤ ((σ 10 1) &&& (63 : Int32)).toNatClampNeg then none else some (0, (x_up (x_up σ 11 (((σ 10 1) &&& (63 : Int32)).toNatClampNeg) v1) 10 1 (((x_up σ 11 (((σ 10 1) &&& (63 : Int32)).toNatClampNeg) v1) 10 1) + (1 : Int32))))) := rfl
-- DeskMachine$Desk.listFiles()V (14,)
set_option maxRecDepth 100000 in
set_option maxHeartbeats 4000000 in
theorem e15_0 (C : xC) (k : xK) (σ : xS) : x_b x_i15 C k 0 [(0, .ref 14)] [] σ = k 2 [(0, .ref 14), (1, .int (0 : Int32))] [] σ := rfl
set_option maxRecDepth 100000 in
set_option maxHeartbeats 4000000 in
theorem e15_2 (C : xC) (k : xK) (v1 : Int32) (σ : xS) : x_b x_i15 C k 2 [(0, .ref 14), (1, .int v1)] [] σ = (if (8 : Int32) ≤ v1 then some (0, σ) else ((C 12 [.ref 5, .int v1] σ).bind fun r1 => (if r1.1 = 0 then k 21 [(0, .ref 14), (1, .int v1), (2, .int (0 : Int32))] [] r1.2 else k 2 [(0, .ref 14), (1, .int (v1 + (1 : Int32)))] [] r1.2))) := rfl
set_option maxRecDepth 100000 in
set_option maxHeartbeats 4000000 in
theorem e15_21 (C : xC) (k : xK) (v1 v2 : Int32) (σ : xS) : x_b x_i15 C k 21 [(0, .ref 14), (1, .int v1), (2, .int v2)] [] σ = (if (4 : Int32) ≤ v2 then ((C 14 [.ref 10, .int (32 : Int32)] σ).bind fun r1 => k 2 [(0, .ref 14), (1, .int (v1 + (1 : Int32)))] [] r1.2) else ((C 13 [.ref 5, .int v1, .int ((1 : Int32) + v2)] σ).bind fun r2 => ((C 14 [.ref 10, .int r2.1] r2.2).bind fun r3 => k 21 [(0, .ref 14), (1, .int v1), (2, .int (v2 + (1 : Int32)))] [] r3.2))) := rfl
-- DeskMachine$Desk.takeName(I)V (14,)
set_option maxRecDepth 100000 in
set_option maxHeartbeats 4000000 in
theorem e16_0 (C : xC) (k : xK) (v1 : Int32) (σ : xS) : x_b x_i16 C k 0 [(0, .ref 14), (1, .int v1)] [] σ = k 2 [(0, .ref 14), (1, .int v1), (2, .int (0 : Int32))] [] σ := rfl
set_option maxRecDepth 100000 in
set_option maxHeartbeats 4000000 in
theorem e16_2 (C : xC) (k : xK) (v1 v2 : Int32) (σ : xS) : x_b x_i16 C k 2 [(0, .ref 14), (1, .int v1), (2, .int v2)] [] σ = (if (4 : Int32) ≤ v2 then some (0, σ) else (if v1 < 0 ∨ 3 ≤ v1.toNatClampNeg then none else (if v1 < 0 ∨ 3 ≤ v1.toNatClampNeg then none else (if (σ 17 v1.toNatClampNeg) ≤ ((σ 16 v1.toNatClampNeg) + v2) then (if v2 < 0 ∨ 4 ≤ v2.toNatClampNeg then none else k 2 [(0, .ref 14), (1, .int v1), (2, .int (v2 + (1 : Int32)))] [] (x_up σ 18 (v2.toNatClampNeg) (32 : Int32))) else (if ((σ 16 v1.toNatClampNeg) + v2) < 0 ∨ 20 ≤ ((σ 16 v1.toNatClampNeg) + v2).toNatClampNeg then none else (if v2 < 0 ∨ 4 ≤ v2.toNatClampNeg then none else k 2 [(0, .ref 14), (1, .int v1), (2, .int (v2 + (1 : Int32)))] [] (x_up σ 18 (v2.toNatClampNeg) (σ 15 ((σ 16 v1.toNatClampNeg) + v2).toNatClampNeg)))))))) := rfl
-- DeskMachine$Disk.matches(I[IZ)Z (5, 13)
set_option maxRecDepth 100000 in
set_option maxHeartbeats 4000000 in
theorem e17_13_0 (C : xC) (k : xK) (v1 v3 : Int32) (σ : xS) : x_b x_i17 C k 0 [(0, .ref 5), (1, .int v1), (2, .ref 13), (3, .int v3)] [] σ = (if ((v1 &&& (7 : Int32)) * (16 : Int32)) < 0 ∨ 512 ≤ ((v1 &&& (7 : Int32)) * (16 : Int32)).toNatClampNeg then none else (if (σ 6 ((v1 &&& (7 : Int32)) * (16 : Int32)).toNatClampNeg) = (229 : Int32) then some ((0 : Int32), σ) else k 27 [(0, .ref 5), (2, .ref 13), (3, .int v3), (4, .int ((v1 &&& (7 : Int32)) * (16 : Int32))), (5, .int (0 : Int32))] [] σ)) := rfl
set_option maxRecDepth 100000 in
set_option maxHeartbeats 4000000 in
theorem e17_13_27 (C : xC) (k : xK) (v3 v4 v5 : Int32) (σ : xS) : x_b x_i17 C k 27 [(0, .ref 5), (2, .ref 13), (3, .int v3), (4, .int v4), (5, .int v5)] [] σ = (if (4 : Int32) ≤ v5 then some ((1 : Int32), σ) else (if v5 < 0 ∨ 4 ≤ v5.toNatClampNeg then none else (if ((v4 + (1 : Int32)) + v5) < 0 ∨ 512 ≤ ((v4 + (1 : Int32)) + v5).toNatClampNeg then none else (if (σ 13 v5.toNatClampNeg) = (σ 6 ((v4 + (1 : Int32)) + v5).toNatClampNeg) then k 27 [(0, .ref 5), (2, .ref 13), (3, .int v3), (4, .int v4), (5, .int (v5 + (1 : Int32)))] [] σ else (if v3 = 0 then some ((0 : Int32), σ) else (if v5 < 0 ∨ 4 ≤ v5.toNatClampNeg then none else (if (σ 13 v5.toNatClampNeg) = (63 : Int32) then k 27 [(0, .ref 5), (2, .ref 13), (3, .int v3), (4, .int v4), (5, .int (v5 + (1 : Int32)))] [] σ else some ((0 : Int32), σ)))))))) := rfl
-- DeskMachine$Disk.matches(I[IZ)Z (5, 18)
set_option maxRecDepth 100000 in
set_option maxHeartbeats 4000000 in
theorem e17_18_0 (C : xC) (k : xK) (v1 v3 : Int32) (σ : xS) : x_b x_i17 C k 0 [(0, .ref 5), (1, .int v1), (2, .ref 18), (3, .int v3)] [] σ = (if ((v1 &&& (7 : Int32)) * (16 : Int32)) < 0 ∨ 512 ≤ ((v1 &&& (7 : Int32)) * (16 : Int32)).toNatClampNeg then none else (if (σ 6 ((v1 &&& (7 : Int32)) * (16 : Int32)).toNatClampNeg) = (229 : Int32) then some ((0 : Int32), σ) else k 27 [(0, .ref 5), (2, .ref 18), (3, .int v3), (4, .int ((v1 &&& (7 : Int32)) * (16 : Int32))), (5, .int (0 : Int32))] [] σ)) := rfl
set_option maxRecDepth 100000 in
set_option maxHeartbeats 4000000 in
theorem e17_18_27 (C : xC) (k : xK) (v3 v4 v5 : Int32) (σ : xS) : x_b x_i17 C k 27 [(0, .ref 5), (2, .ref 18), (3, .int v3), (4, .int v4), (5, .int v5)] [] σ = (if (4 : Int32) ≤ v5 then some ((1 : Int32), σ) else (if v5 < 0 ∨ 4 ≤ v5.toNatClampNeg then none else (if ((v4 + (1 : Int32)) + v5) < 0 ∨ 512 ≤ ((v4 + (1 : Int32)) + v5).toNatClampNeg then none else (if (σ 18 v5.toNatClampNeg) = (σ 6 ((v4 + (1 : Int32)) + v5).toNatClampNeg) then k 27 [(0, .ref 5), (2, .ref 18), (3, .int v3), (4, .int v4), (5, .int (v5 + (1 : Int32)))] [] σ else (if v3 = 0 then some ((0 : Int32), σ) else (if v5 < 0 ∨ 4 ≤ v5.toNatClampNeg then none else (if (σ 18 v5.toNatClampNeg) = (63 : Int32) then k 27 [(0, .ref 5), (2, .ref 18), (3, .int v3), (4, .int v4), (5, .int (v5 + (1 : Int32)))] [] σ else some ((0 : Int32), σ)))))))) := rfl
-- DeskMachine$Disk.findExact([I)I (5, 13)
set_option maxRecDepth 100000 in
set_option maxHeartbeats 4000000 in
theorem e18_13_0 (C : xC) (k : xK) (σ : xS) : x_b x_i18 C k 0 [(0, .ref 5), (1, .ref 13)] [] σ = k 2 [(0, .ref 5), (1, .ref 13), (2, .int (0 : Int32))] [] σ := rfl
set_option maxRecDepth 100000 in
set_option maxHeartbeats 4000000 in
theorem e18_13_2 (C : xC) (k : xK) (v2 : Int32) (σ : xS) : x_b x_i18 C k 2 [(0, .ref 5), (1, .ref 13), (2, .int v2)] [] σ = (if (8 : Int32) ≤ v2 then some ((-1 : Int32), σ) else ((C 17 [.ref 5, .int v2, .ref 13, .int (0 : Int32)] σ).bind fun r1 => (if r1.1 = 0 then k 2 [(0, .ref 5), (1, .ref 13), (2, .int (v2 + (1 : Int32)))] [] r1.2 else some (v2, r1.2)))) := rfl
-- DeskMachine$Disk.findExact([I)I (5, 18)
set_option maxRecDepth 100000 in
set_option maxHeartbeats 4000000 in
theorem e18_18_0 (C : xC) (k : xK) (σ : xS) : x_b x_i18 C k 0 [(0, .ref 5), (1, .ref 18)] [] σ = k 2 [(0, .ref 5), (1, .ref 18), (2, .int (0 : Int32))] [] σ := rfl
set_option maxRecDepth 100000 in
set_option maxHeartbeats 4000000 in
theorem e18_18_2 (C : xC) (k : xK) (v2 : Int32) (σ : xS) : x_b x_i18 C k 2 [(0, .ref 5), (1, .ref 18), (2, .int v2)] [] σ = (if (8 : Int32) ≤ v2 then some ((-1 : Int32), σ) else ((C 17 [.ref 5, .int v2, .ref 18, .int (0 : Int32)] σ).bind fun r1 => (if r1.1 = 0 then k 2 [(0, .ref 5), (1, .ref 18), (2, .int (v2 + (1 : Int32)))] [] r1.2 else some (v2, r1.2)))) := rfl
-- DeskMachine$Desk.findFile(I)I (14,)
set_option maxRecDepth 100000 in
set_option maxHeartbeats 4000000 in
theorem e19_0 (C : xC) (k : xK) (v1 : Int32) (σ : xS) : x_b x_i19 C k 0 [(0, .ref 14), (1, .int v1)] [] σ = ((C 16 [.ref 14, .int v1] σ).bind fun r1 => ((C 18 [.ref 5, .ref 18] r1.2).bind fun r2 => some (r2.1, r2.2))) := rfl
-- DeskMachine$Disk.recordsOf(I)I (5,)
set_option maxRecDepth 100000 in
set_option maxHeartbeats 4000000 in
theorem e20_0 (C : xC) (k : xK) (v1 : Int32) (σ : xS) : x_b x_i20 C k 0 [(0, .ref 5), (1, .int v1)] [] σ = (if (((v1 &&& (7 : Int32)) * (16 : Int32)) + (5 : Int32)) < 0 ∨ 512 ≤ (((v1 &&& (7 : Int32)) * (16 : Int32)) + (5 : Int32)).toNatClampNeg then none else (if (10 : Int32) ≤ (σ 6 (((v1 &&& (7 : Int32)) * (16 : Int32)) + (5 : Int32)).toNatClampNeg) then some ((10 : Int32), σ) else some ((σ 6 (((v1 &&& (7 : Int32)) * (16 : Int32)) + (5 : Int32)).toNatClampNeg), σ))) := rfl
-- DeskMachine$Disk.isForRecords(I)Z ()
set_option maxRecDepth 100000 in
set_option maxHeartbeats 4000000 in
theorem e21_0 (C : xC) (k : xK) (v0 : Int32) (σ : xS) : x_b x_i21 C k 0 [(0, .int v0)] [] σ = (if v0 < (8 : Int32) then some ((0 : Int32), σ) else (if (32 : Int32) ≤ v0 then some ((0 : Int32), σ) else some ((1 : Int32), σ))) := rfl
-- DeskMachine$Desk.showBlock(I)Z (14,)
set_option maxRecDepth 100000 in
set_option maxHeartbeats 4000000 in
theorem e22_0 (C : xC) (k : xK) (v1 : Int32) (σ : xS) : x_b x_i22 C k 0 [(0, .ref 14), (1, .int v1)] [] σ = k 2 [(0, .ref 14), (1, .int v1), (2, .int (0 : Int32))] [] σ := rfl
set_option maxRecDepth 100000 in
set_option maxHeartbeats 4000000 in
theorem e22_2 (C : xC) (k : xK) (v1 v2 : Int32) (σ : xS) : x_b x_i22 C k 2 [(0, .ref 14), (1, .int v1), (2, .int v2)] [] σ = (if (16 : Int32) ≤ v2 then some ((1 : Int32), σ) else ((C 13 [.ref 5, .int v1, .int v2] σ).bind fun r1 => (if r1.1 = (26 : Int32) then some ((0 : Int32), r1.2) else ((C 14 [.ref 10, .int r1.1] r1.2).bind fun r2 => k 2 [(0, .ref 14), (1, .int v1), (2, .int (v2 + (1 : Int32)))] [] r2.2)))) := rfl
-- DeskMachine$Desk.showFile()Z (14,)
set_option maxRecDepth 100000 in
set_option maxHeartbeats 4000000 in
theorem e23_0 (C : xC) (k : xK) (σ : xS) : x_b x_i23 C k 0 [(0, .ref 14)] [] σ = ((C 19 [.ref 14, .int (1 : Int32)] σ).bind fun r1 => (if r1.1 = (-1 : Int32) then some ((0 : Int32), r1.2) else ((C 20 [.ref 5, .int r1.1] r1.2).bind fun r2 => k 24 [(0, .ref 14), (1, .int r1.1), (2, .int r2.1), (3, .int (0 : Int32))] [] r2.2))) := rfl
set_option maxRecDepth 100000 in
set_option maxHeartbeats 4000000 in
theorem e23_24 (C : xC) (k : xK) (v1 v2 v3 : Int32) (σ : xS) : x_b x_i23 C k 24 [(0, .ref 14), (1, .int v1), (2, .int v2), (3, .int v3)] [] σ = (if v2 ≤ v3 then some ((1 : Int32), σ) else ((C 13 [.ref 5, .int v1, .int ((6 : Int32) + v3)] σ).bind fun r1 => ((C 21 [.int r1.1] r1.2).bind fun r2 => (if r2.1 = 0 then k 24 [(0, .ref 14), (1, .int v1), (2, .int v2), (3, .int (v3 + (1 : Int32)))] [] r2.2 else ((C 22 [.ref 14, .int r1.1] r2.2).bind fun r3 => (if r3.1 = 0 then some ((1 : Int32), r3.2) else k 24 [(0, .ref 14), (1, .int v1), (2, .int v2), (3, .int (v3 + (1 : Int32)))] [] r3.2)))))) := rfl
-- DeskMachine$Disk.put(III)V (5,)
set_option maxRecDepth 100000 in
set_option maxHeartbeats 4000000 in
theorem e24_0 (C : xC) (k : xK) (v1 v2 v3 : Int32) (σ : xS) : x_b x_i24 C k 0 [(0, .ref 5), (1, .int v1), (2, .int v2), (3, .int v3)] [] σ = (if (((v1 &&& (31 : Int32)) * (16 : Int32)) + (v2 &&& (15 : Int32))) < 0 ∨ 512 ≤ (((v1 &&& (31 : Int32)) * (16 : Int32)) + (v2 &&& (15 : Int32))).toNatClampNeg then none else some (0, (x_up σ 6 ((((v1 &&& (31 : Int32)) * (16 : Int32)) + (v2 &&& (15 : Int32))).toNatClampNeg) v3))) := rfl
-- DeskMachine$Disk.free(I)V (5,)
set_option maxRecDepth 100000 in
set_option maxHeartbeats 4000000 in
theorem e25_0 (C : xC) (k : xK) (v1 : Int32) (σ : xS) : x_b x_i25 C k 0 [(0, .ref 5), (1, .int v1)] [] σ = ((C 24 [.ref 5, .int v1, .int (0 : Int32), .int (229 : Int32)] σ).bind fun r1 => some (0, r1.2)) := rfl
-- DeskMachine$Disk.eraseAny([I)Z (5, 13)
set_option maxRecDepth 100000 in
set_option maxHeartbeats 4000000 in
theorem e26_13_0 (C : xC) (k : xK) (σ : xS) : x_b x_i26 C k 0 [(0, .ref 5), (1, .ref 13)] [] σ = k 4 [(0, .ref 5), (1, .ref 13), (2, .int (0 : Int32)), (3, .int (0 : Int32))] [] σ := rfl
set_option maxRecDepth 100000 in
set_option maxHeartbeats 4000000 in
theorem e26_13_4 (C : xC) (k : xK) (v2 v3 : Int32) (σ : xS) : x_b x_i26 C k 4 [(0, .ref 5), (1, .ref 13), (2, .int v2), (3, .int v3)] [] σ = (if (8 : Int32) ≤ v3 then (if v2 = 0 ∨ v2 = 1 then some (v2, σ) else none) else ((C 17 [.ref 5, .int v3, .ref 13, .int (1 : Int32)] σ).bind fun r1 => (if r1.1 = 0 then k 4 [(0, .ref 5), (1, .ref 13), (2, .int v2), (3, .int (v3 + (1 : Int32)))] [] r1.2 else ((C 25 [.ref 5, .int v3] r1.2).bind fun r2 => k 4 [(0, .ref 5), (1, .ref 13), (2, .int (1 : Int32)), (3, .int (v3 + (1 : Int32)))] [] r2.2)))) := rfl
-- DeskMachine$Disk.eraseAny([I)Z (5, 18)
set_option maxRecDepth 100000 in
set_option maxHeartbeats 4000000 in
theorem e26_18_0 (C : xC) (k : xK) (σ : xS) : x_b x_i26 C k 0 [(0, .ref 5), (1, .ref 18)] [] σ = k 4 [(0, .ref 5), (1, .ref 18), (2, .int (0 : Int32)), (3, .int (0 : Int32))] [] σ := rfl
set_option maxRecDepth 100000 in
set_option maxHeartbeats 4000000 in
theorem e26_18_4 (C : xC) (k : xK) (v2 v3 : Int32) (σ : xS) : x_b x_i26 C k 4 [(0, .ref 5), (1, .ref 18), (2, .int v2), (3, .int v3)] [] σ = (if (8 : Int32) ≤ v3 then (if v2 = 0 ∨ v2 = 1 then some (v2, σ) else none) else ((C 17 [.ref 5, .int v3, .ref 18, .int (1 : Int32)] σ).bind fun r1 => (if r1.1 = 0 then k 4 [(0, .ref 5), (1, .ref 18), (2, .int v2), (3, .int (v3 + (1 : Int32)))] [] r1.2 else ((C 25 [.ref 5, .int v3] r1.2).bind fun r2 => k 4 [(0, .ref 5), (1, .ref 18), (2, .int (1 : Int32)), (3, .int (v3 + (1 : Int32)))] [] r2.2)))) := rfl
-- DeskMachine$Disk.rename(I[I)V (5, 13)
set_option maxRecDepth 100000 in
set_option maxHeartbeats 4000000 in
theorem e27_13_0 (C : xC) (k : xK) (v1 : Int32) (σ : xS) : x_b x_i27 C k 0 [(0, .ref 5), (1, .int v1), (2, .ref 13)] [] σ = k 2 [(0, .ref 5), (1, .int v1), (2, .ref 13), (3, .int (0 : Int32))] [] σ := rfl
set_option maxRecDepth 100000 in
set_option maxHeartbeats 4000000 in
theorem e27_13_2 (C : xC) (k : xK) (v1 v3 : Int32) (σ : xS) : x_b x_i27 C k 2 [(0, .ref 5), (1, .int v1), (2, .ref 13), (3, .int v3)] [] σ = (if (4 : Int32) ≤ v3 then some (0, σ) else (if v3 < 0 ∨ 4 ≤ v3.toNatClampNeg then none else ((C 24 [.ref 5, .int v1, .int ((1 : Int32) + v3), .int (σ 13 v3.toNatClampNeg)] σ).bind fun r1 => k 2 [(0, .ref 5), (1, .int v1), (2, .ref 13), (3, .int (v3 + (1 : Int32)))] [] r1.2))) := rfl
-- DeskMachine$Disk.rename(I[I)V (5, 18)
set_option maxRecDepth 100000 in
set_option maxHeartbeats 4000000 in
theorem e27_18_0 (C : xC) (k : xK) (v1 : Int32) (σ : xS) : x_b x_i27 C k 0 [(0, .ref 5), (1, .int v1), (2, .ref 18)] [] σ = k 2 [(0, .ref 5), (1, .int v1), (2, .ref 18), (3, .int (0 : Int32))] [] σ := rfl
set_option maxRecDepth 100000 in
set_option maxHeartbeats 4000000 in
theorem e27_18_2 (C : xC) (k : xK) (v1 v3 : Int32) (σ : xS) : x_b x_i27 C k 2 [(0, .ref 5), (1, .int v1), (2, .ref 18), (3, .int v3)] [] σ = (if (4 : Int32) ≤ v3 then some (0, σ) else (if v3 < 0 ∨ 4 ≤ v3.toNatClampNeg then none else ((C 24 [.ref 5, .int v1, .int ((1 : Int32) + v3), .int (σ 18 v3.toNatClampNeg)] σ).bind fun r1 => k 2 [(0, .ref 5), (1, .int v1), (2, .ref 18), (3, .int (v3 + (1 : Int32)))] [] r1.2))) := rfl
-- DeskMachine$Desk.renameFile()Z (14,)
set_option maxRecDepth 100000 in
set_option maxHeartbeats 4000000 in
theorem e28_0 (C : xC) (k : xK) (σ : xS) : x_b x_i28 C k 0 [(0, .ref 14)] [] σ = ((C 19 [.ref 14, .int (1 : Int32)] σ).bind fun r1 => (if r1.1 = (-1 : Int32) then some ((0 : Int32), r1.2) else ((C 16 [.ref 14, .int (2 : Int32)] r1.2).bind fun r2 => ((C 27 [.ref 5, .int r1.1, .ref 18] r2.2).bind fun r3 => some ((1 : Int32), r3.2))))) := rfl
-- DeskMachine$Disk.make([I)I (5, 13)
set_option maxRecDepth 100000 in
set_option maxHeartbeats 4000000 in
theorem e29_13_0 (C : xC) (k : xK) (σ : xS) : x_b x_i29 C k 0 [(0, .ref 5), (1, .ref 13)] [] σ = k 2 [(0, .ref 5), (1, .ref 13), (2, .int (0 : Int32))] [] σ := rfl
set_option maxRecDepth 100000 in
set_option maxHeartbeats 4000000 in
theorem e29_13_2 (C : xC) (k : xK) (v2 : Int32) (σ : xS) : x_b x_i29 C k 2 [(0, .ref 5), (1, .ref 13), (2, .int v2)] [] σ = (if (8 : Int32) ≤ v2 then some ((-1 : Int32), σ) else ((C 12 [.ref 5, .int v2] σ).bind fun r1 => (if r1.1 = 0 then k 2 [(0, .ref 5), (1, .ref 13), (2, .int (v2 + (1 : Int32)))] [] r1.2 else k 18 [(0, .ref 5), (1, .ref 13), (2, .int v2), (3, .int (0 : Int32))] [] r1.2))) := rfl
set_option maxRecDepth 100000 in
set_option maxHeartbeats 4000000 in
theorem e29_13_18 (C : xC) (k : xK) (v2 v3 : Int32) (σ : xS) : x_b x_i29 C k 18 [(0, .ref 5), (1, .ref 13), (2, .int v2), (3, .int v3)] [] σ = (if (16 : Int32) ≤ v3 then ((C 27 [.ref 5, .int v2, .ref 13] σ).bind fun r1 => some (v2, r1.2)) else ((C 24 [.ref 5, .int v2, .int v3, .int (0 : Int32)] σ).bind fun r2 => k 18 [(0, .ref 5), (1, .ref 13), (2, .int v2), (3, .int (v3 + (1 : Int32)))] [] r2.2)) := rfl
-- DeskMachine$Disk.make([I)I (5, 18)
set_option maxRecDepth 100000 in
set_option maxHeartbeats 4000000 in
theorem e29_18_0 (C : xC) (k : xK) (σ : xS) : x_b x_i29 C k 0 [(0, .ref 5), (1, .ref 18)] [] σ = k 2 [(0, .ref 5), (1, .ref 18), (2, .int (0 : Int32))] [] σ := rfl
set_option maxRecDepth 100000 in
set_option maxHeartbeats 4000000 in
theorem e29_18_2 (C : xC) (k : xK) (v2 : Int32) (σ : xS) : x_b x_i29 C k 2 [(0, .ref 5), (1, .ref 18), (2, .int v2)] [] σ = (if (8 : Int32) ≤ v2 then some ((-1 : Int32), σ) else ((C 12 [.ref 5, .int v2] σ).bind fun r1 => (if r1.1 = 0 then k 2 [(0, .ref 5), (1, .ref 18), (2, .int (v2 + (1 : Int32)))] [] r1.2 else k 18 [(0, .ref 5), (1, .ref 18), (2, .int v2), (3, .int (0 : Int32))] [] r1.2))) := rfl
set_option maxRecDepth 100000 in
set_option maxHeartbeats 4000000 in
theorem e29_18_18 (C : xC) (k : xK) (v2 v3 : Int32) (σ : xS) : x_b x_i29 C k 18 [(0, .ref 5), (1, .ref 18), (2, .int v2), (3, .int v3)] [] σ = (if (16 : Int32) ≤ v3 then ((C 27 [.ref 5, .int v2, .ref 18] σ).bind fun r1 => some (v2, r1.2)) else ((C 24 [.ref 5, .int v2, .int v3, .int (0 : Int32)] σ).bind fun r2 => k 18 [(0, .ref 5), (1, .ref 18), (2, .int v2), (3, .int (v3 + (1 : Int32)))] [] r2.2)) := rfl
-- DeskMachine$Disk.mark(I)V (5,)
set_option maxRecDepth 100000 in
set_option maxHeartbeats 4000000 in
theorem e30_0 (C : xC) (k : xK) (v1 : Int32) (σ : xS) : x_b x_i30 C k 0 [(0, .ref 5), (1, .int v1)] [] σ = (if (v1 &&& (255 : Int32)) < 0 ∨ 256 ≤ (v1 &&& (255 : Int32)).toNatClampNeg then none else some (0, (x_up σ 7 ((v1 &&& (255 : Int32)).toNatClampNeg) (vp_nar .boolean (1 : Int32))))) := rfl
-- DeskMachine$Disk.markUsed()V (5,)
set_option maxRecDepth 100000 in
set_option maxHeartbeats 4000000 in
theorem e31_0 (C : xC) (k : xK) (σ : xS) : x_b x_i31 C k 0 [(0, .ref 5)] [] σ = k 3 [(0, .ref 5), (1, .int (8 : Int32))] [] σ := rfl
set_option maxRecDepth 100000 in
set_option maxHeartbeats 4000000 in
theorem e31_3 (C : xC) (k : xK) (v1 : Int32) (σ : xS) : x_b x_i31 C k 3 [(0, .ref 5), (1, .int v1)] [] σ = (if (32 : Int32) ≤ v1 then k 24 [(0, .ref 5), (1, .int (0 : Int32))] [] σ else (if v1 < 0 ∨ 256 ≤ v1.toNatClampNeg then none else k 3 [(0, .ref 5), (1, .int (v1 + (1 : Int32)))] [] (x_up σ 7 (v1.toNatClampNeg) (vp_nar .boolean (0 : Int32))))) := rfl
set_option maxRecDepth 100000 in
set_option maxHeartbeats 4000000 in
theorem e31_24 (C : xC) (k : xK) (v1 : Int32) (σ : xS) : x_b x_i31 C k 24 [(0, .ref 5), (1, .int v1)] [] σ = (if (8 : Int32) ≤ v1 then some (0, σ) else ((C 12 [.ref 5, .int v1] σ).bind fun r1 => (if r1.1 = 0 then ((C 20 [.ref 5, .int v1] r1.2).bind fun r2 => k 50 [(0, .ref 5), (1, .int v1), (2, .int r2.1), (3, .int (0 : Int32))] [] r2.2) else k 50 [(0, .ref 5), (1, .int v1), (2, .int (0 : Int32)), (3, .int (0 : Int32))] [] r1.2))) := rfl
set_option maxRecDepth 100000 in
set_option maxHeartbeats 4000000 in
theorem e31_50 (C : xC) (k : xK) (v1 v2 v3 : Int32) (σ : xS) : x_b x_i31 C k 50 [(0, .ref 5), (1, .int v1), (2, .int v2), (3, .int v3)] [] σ = (if v2 ≤ v3 then k 24 [(0, .ref 5), (1, .int (v1 + (1 : Int32)))] [] σ else ((C 13 [.ref 5, .int v1, .int ((6 : Int32) + v3)] σ).bind fun r1 => ((C 30 [.ref 5, .int r1.1] r1.2).bind fun r2 => k 50 [(0, .ref 5), (1, .int v1), (2, .int v2), (3, .int (v3 + (1 : Int32)))] [] r2.2))) := rfl
-- DeskMachine$Disk.leastUnmarked()I (5,)
set_option maxRecDepth 100000 in
set_option maxHeartbeats 4000000 in
theorem e32_0 (C : xC) (k : xK) (σ : xS) : x_b x_i32 C k 0 [(0, .ref 5)] [] σ = k 3 [(0, .ref 5), (1, .int (8 : Int32))] [] σ := rfl
set_option maxRecDepth 100000 in
set_option maxHeartbeats 4000000 in
theorem e32_3 (C : xC) (k : xK) (v1 : Int32) (σ : xS) : x_b x_i32 C k 3 [(0, .ref 5), (1, .int v1)] [] σ = (if (32 : Int32) ≤ v1 then some ((-1 : Int32), σ) else (if v1 < 0 ∨ 256 ≤ v1.toNatClampNeg then none else (if (σ 7 v1.toNatClampNeg) = 0 then some (v1, σ) else k 3 [(0, .ref 5), (1, .int (v1 + (1 : Int32)))] [] σ))) := rfl
-- DeskMachine$Memory.get(I)I (1,)
set_option maxRecDepth 100000 in
set_option maxHeartbeats 4000000 in
theorem e33_0 (C : xC) (k : xK) (v1 : Int32) (σ : xS) : x_b x_i33 C k 0 [(0, .ref 1), (1, .int v1)] [] σ = (if (v1 &&& (511 : Int32)) < 0 ∨ 512 ≤ (v1 &&& (511 : Int32)).toNatClampNeg then none else some ((σ 2 (v1 &&& (511 : Int32)).toNatClampNeg), σ)) := rfl
-- DeskMachine$Disk.write(ILDeskMachine$Memory;I)V (5, 1)
set_option maxRecDepth 100000 in
set_option maxHeartbeats 4000000 in
theorem e34_0 (C : xC) (k : xK) (v1 v3 : Int32) (σ : xS) : x_b x_i34 C k 0 [(0, .ref 5), (1, .int v1), (2, .ref 1), (3, .int v3)] [] σ = k 3 [(0, .ref 5), (1, .int v1), (2, .ref 1), (3, .int v3), (4, .int (0 : Int32))] [] σ := rfl
set_option maxRecDepth 100000 in
set_option maxHeartbeats 4000000 in
theorem e34_3 (C : xC) (k : xK) (v1 v3 v4 : Int32) (σ : xS) : x_b x_i34 C k 3 [(0, .ref 5), (1, .int v1), (2, .ref 1), (3, .int v3), (4, .int v4)] [] σ = (if (16 : Int32) ≤ v4 then some (0, σ) else ((C 33 [.ref 1, .int (v3 + v4)] σ).bind fun r1 => ((C 24 [.ref 5, .int v1, .int v4, .int r1.1] r1.2).bind fun r2 => k 3 [(0, .ref 5), (1, .int v1), (2, .ref 1), (3, .int v3), (4, .int (v4 + (1 : Int32)))] [] r2.2))) := rfl
-- DeskMachine$Desk.saveRecords(II)Z (14,)
set_option maxRecDepth 100000 in
set_option maxHeartbeats 4000000 in
theorem e35_0 (C : xC) (k : xK) (v1 v2 : Int32) (σ : xS) : x_b x_i35 C k 0 [(0, .ref 14), (1, .int v1), (2, .int v2)] [] σ = k 2 [(0, .ref 14), (1, .int v1), (2, .int v2), (3, .int (0 : Int32))] [] σ := rfl
set_option maxRecDepth 100000 in
set_option maxHeartbeats 4000000 in
theorem e35_2 (C : xC) (k : xK) (v1 v2 v3 : Int32) (σ : xS) : x_b x_i35 C k 2 [(0, .ref 14), (1, .int v1), (2, .int v2), (3, .int v3)] [] σ = (if v2 ≤ v3 then some ((1 : Int32), σ) else ((C 31 [.ref 5] σ).bind fun r1 => ((C 32 [.ref 5] r1.2).bind fun r2 => (if r2.1 = (-1 : Int32) then some ((0 : Int32), r2.2) else ((C 34 [.ref 5, .int r2.1, .ref 1, .int ((256 : Int32) + ((16 : Int32) * v3))] r2.2).bind fun r3 => ((C 24 [.ref 5, .int v1, .int ((6 : Int32) + v3), .int r2.1] r3.2).bind fun r4 => ((C 24 [.ref 5, .int v1, .int (5 : Int32), .int (v3 + (1 : Int32))] r4.2).bind fun r5 => k 2 [(0, .ref 14), (1, .int v1), (2, .int v2), (3, .int (v3 + (1 : Int32)))] [] r5.2))))))) := rfl
-- DeskMachine$Desk.saveFile()Z (14,)
set_option maxRecDepth 100000 in
set_option maxHeartbeats 4000000 in
theorem e36_0 (C : xC) (k : xK) (σ : xS) : x_b x_i36 C k 0 [(0, .ref 14)] [] σ = (if (σ 16 1) < 0 ∨ 20 ≤ (σ 16 1).toNatClampNeg then none else (if ((σ 17 1) - (σ 16 1)) = (1 : Int32) then (if ((σ 15 (σ 16 1).toNatClampNeg) - (48 : Int32)) < 0 then some ((0 : Int32), σ) else (if ((σ 15 (σ 16 1).toNatClampNeg) - (48 : Int32)) ≤ (9 : Int32) then ((C 19 [.ref 14, .int (2 : Int32)] σ).bind fun r1 => (if r1.1 = (-1 : Int32) then ((C 29 [.ref 5, .ref 18] r1.2).bind fun r2 => (if r2.1 = (-1 : Int32) then some ((0 : Int32), r2.2) else ((C 35 [.ref 14, .int r2.1, .int ((σ 15 (σ 16 1).toNatClampNeg) - (48 : Int32))] r2.2).bind fun r3 => (if r3.1 = 0 then some ((0 : Int32), r3.2) else some ((1 : Int32), r3.2))))) else ((C 25 [.ref 5, .int r1.1] r1.2).bind fun r4 => ((C 29 [.ref 5, .ref 18] r4.2).bind fun r5 => (if r5.1 = (-1 : Int32) then some ((0 : Int32), r5.2) else ((C 35 [.ref 14, .int r5.1, .int ((σ 15 (σ 16 1).toNatClampNeg) - (48 : Int32))] r5.2).bind fun r6 => (if r6.1 = 0 then some ((0 : Int32), r6.2) else some ((1 : Int32), r6.2)))))))) else some ((0 : Int32), σ))) else some ((0 : Int32), σ))) := rfl
-- DeskMachine$Memory.put(II)V (1,)
set_option maxRecDepth 100000 in
set_option maxHeartbeats 4000000 in
theorem e37_0 (C : xC) (k : xK) (v1 v2 : Int32) (σ : xS) : x_b x_i37 C k 0 [(0, .ref 1), (1, .int v1), (2, .int v2)] [] σ = (if (v1 &&& (511 : Int32)) < 0 ∨ 512 ≤ (v1 &&& (511 : Int32)).toNatClampNeg then none else some (0, (x_up σ 2 ((v1 &&& (511 : Int32)).toNatClampNeg) (v2 &&& (255 : Int32))))) := rfl
-- DeskMachine$Disk.read(ILDeskMachine$Memory;I)V (5, 1)
set_option maxRecDepth 100000 in
set_option maxHeartbeats 4000000 in
theorem e38_0 (C : xC) (k : xK) (v1 v3 : Int32) (σ : xS) : x_b x_i38 C k 0 [(0, .ref 5), (1, .int v1), (2, .ref 1), (3, .int v3)] [] σ = k 3 [(0, .ref 5), (1, .int v1), (2, .ref 1), (3, .int v3), (4, .int (0 : Int32))] [] σ := rfl
set_option maxRecDepth 100000 in
set_option maxHeartbeats 4000000 in
theorem e38_3 (C : xC) (k : xK) (v1 v3 v4 : Int32) (σ : xS) : x_b x_i38 C k 3 [(0, .ref 5), (1, .int v1), (2, .ref 1), (3, .int v3), (4, .int v4)] [] σ = (if (16 : Int32) ≤ v4 then some (0, σ) else ((C 13 [.ref 5, .int v1, .int v4] σ).bind fun r1 => ((C 37 [.ref 1, .int (v3 + v4), .int r1.1] r1.2).bind fun r2 => k 3 [(0, .ref 5), (1, .int v1), (2, .ref 1), (3, .int v3), (4, .int (v4 + (1 : Int32)))] [] r2.2))) := rfl
-- DeskMachine$Desk.loadFile()Z (14,)
set_option maxRecDepth 100000 in
set_option maxHeartbeats 4000000 in
theorem e39_0 (C : xC) (k : xK) (σ : xS) : x_b x_i39 C k 0 [(0, .ref 14)] [] σ = ((C 19 [.ref 14, .int (0 : Int32)] σ).bind fun r1 => (if r1.1 = (-1 : Int32) then some ((0 : Int32), r1.2) else ((C 20 [.ref 5, .int r1.1] r1.2).bind fun r2 => k 24 [(0, .ref 14), (1, .int r1.1), (2, .int r2.1), (3, .int (0 : Int32))] [] r2.2))) := rfl
set_option maxRecDepth 100000 in
set_option maxHeartbeats 4000000 in
theorem e39_24 (C : xC) (k : xK) (v1 v2 v3 : Int32) (σ : xS) : x_b x_i39 C k 24 [(0, .ref 14), (1, .int v1), (2, .int v2), (3, .int v3)] [] σ = (if v2 ≤ v3 then some ((1 : Int32), σ) else ((C 13 [.ref 5, .int v1, .int ((6 : Int32) + v3)] σ).bind fun r1 => ((C 21 [.int r1.1] r1.2).bind fun r2 => (if r2.1 = 0 then k 24 [(0, .ref 14), (1, .int v1), (2, .int v2), (3, .int (v3 + (1 : Int32)))] [] r2.2 else ((C 38 [.ref 5, .int r1.1, .ref 1, .int ((256 : Int32) + ((16 : Int32) * v3))] r2.2).bind fun r3 => k 24 [(0, .ref 14), (1, .int v1), (2, .int v2), (3, .int (v3 + (1 : Int32)))] [] r3.2))))) := rfl
-- DeskMachine$Desk.obey(I)Z (14,)
set_option maxRecDepth 100000 in
set_option maxHeartbeats 4000000 in
theorem e40_0 (C : xC) (k : xK) (v1 : Int32) (σ : xS) : x_b x_i40 C k 0 [(0, .ref 14), (1, .int v1)] [] σ = (if v1 = (0 : Int32) then ((C 15 [.ref 14] σ).bind fun r7 => some ((1 : Int32), r7.2)) else (if v1 = (1 : Int32) then ((C 23 [.ref 14] σ).bind fun r6 => (if r6.1 = 0 ∨ r6.1 = 1 then some (r6.1, r6.2) else none)) else (if v1 = (2 : Int32) then ((C 16 [.ref 14, .int (1 : Int32)] σ).bind fun r4 => ((C 26 [.ref 5, .ref 18] r4.2).bind fun r5 => some ((1 : Int32), r5.2))) else (if v1 = (3 : Int32) then ((C 28 [.ref 14] σ).bind fun r3 => (if r3.1 = 0 ∨ r3.1 = 1 then some (r3.1, r3.2) else none)) else (if v1 = (4 : Int32) then ((C 36 [.ref 14] σ).bind fun r2 => (if r2.1 = 0 ∨ r2.1 = 1 then some (r2.1, r2.2) else none)) else (if v1 = (5 : Int32) then ((C 39 [.ref 14] σ).bind fun r1 => (if r1.1 = 0 ∨ r1.1 = 1 then some (r1.1, r1.2) else none)) else some ((1 : Int32), σ))))))) := rfl
-- DeskMachine$Desk.endLine()Z (14,)
set_option maxRecDepth 100000 in
set_option maxHeartbeats 4000000 in
theorem e41_0 (C : xC) (k : xK) (σ : xS) : x_b x_i41 C k 0 [(0, .ref 14)] [] σ = ((C 9 [.ref 14] σ).bind fun r1 => ((C 11 [.ref 14] (x_up r1.2 14 7 (0 : Int32))).bind fun r2 => (if r2.1 < 0 ∨ 7 ≤ r2.1.toNatClampNeg then none else (if (r2.2 14 8) < (([1, 2, 2, 3, 3, 1, 0] : List Int32).getD r2.1.toNatClampNeg 0) then (if (0 : Int32) = 0 then ((C 14 [.ref 10, .int (63 : Int32)] r2.2).bind fun r3 => k 53 [(0, .ref 14), (1, .int r2.1), (2, .int (0 : Int32))] [] r3.2) else k 53 [(0, .ref 14), (1, .int r2.1), (2, .int (0 : Int32))] [] r2.2) else ((C 40 [.ref 14, .int r2.1] r2.2).bind fun r4 => (if r4.1 = 0 then (if (0 : Int32) = 0 then ((C 14 [.ref 10, .int (63 : Int32)] r4.2).bind fun r5 => k 53 [(0, .ref 14), (1, .int r2.1), (2, .int (0 : Int32))] [] r5.2) else k 53 [(0, .ref 14), (1, .int r2.1), (2, .int (0 : Int32))] [] r4.2) else (if (1 : Int32) = 0 then ((C 14 [.ref 10, .int (63 : Int32)] r4.2).bind fun r6 => k 53 [(0, .ref 14), (1, .int r2.1), (2, .int (1 : Int32))] [] r6.2) else k 53 [(0, .ref 14), (1, .int r2.1), (2, .int (1 : Int32))] [] r4.2))))))) := rfl
set_option maxRecDepth 100000 in
set_option maxHeartbeats 4000000 in
theorem e41_53 (C : xC) (k : xK) (v1 v2 : Int32) (σ : xS) : x_b x_i41 C k 53 [(0, .ref 14), (1, .int v1), (2, .int v2)] [] σ = ((C 14 [.ref 10, .int (13 : Int32)] σ).bind fun r1 => (if v2 = 0 then (if (0 : Int32) = 0 then ((C 14 [.ref 10, .int (62 : Int32)] r1.2).bind fun r2 => some ((0 : Int32), r2.2)) else some ((0 : Int32), r1.2)) else (if v1 = (5 : Int32) then (if (1 : Int32) = 0 then ((C 14 [.ref 10, .int (62 : Int32)] r1.2).bind fun r4 => some ((1 : Int32), r4.2)) else some ((1 : Int32), r1.2)) else (if (0 : Int32) = 0 then ((C 14 [.ref 10, .int (62 : Int32)] r1.2).bind fun r3 => some ((0 : Int32), r3.2)) else some ((0 : Int32), r1.2))))) := rfl
-- DeskMachine$Processor.setFlags(I)V (3,)
set_option maxRecDepth 100000 in
set_option maxHeartbeats 4000000 in
theorem e42_0 (C : xC) (k : xK) (v1 : Int32) (σ : xS) : x_b x_i42 C k 0 [(0, .ref 3), (1, .int v1)] [] σ = some (0, (x_up (x_up (x_up (x_up (x_up σ 3 4 ((v1 >>> ((7 : Int32) &&& 31)) &&& (1 : Int32))) 3 5 ((v1 >>> ((6 : Int32) &&& 31)) &&& (1 : Int32))) 3 6 ((v1 >>> ((4 : Int32) &&& 31)) &&& (1 : Int32))) 3 7 ((v1 >>> ((2 : Int32) &&& 31)) &&& (1 : Int32))) 3 8 (v1 &&& (1 : Int32)))) := rfl
-- DeskMachine$Memory.putWord(II)V (1,)
set_option maxRecDepth 100000 in
set_option maxHeartbeats 4000000 in
theorem e43_0 (C : xC) (k : xK) (v1 v2 : Int32) (σ : xS) : x_b x_i43 C k 0 [(0, .ref 1), (1, .int v1), (2, .int v2)] [] σ = (if (v1 &&& (511 : Int32)) < 0 ∨ 512 ≤ (v1 &&& (511 : Int32)).toNatClampNeg then none else (if ((v1 + (1 : Int32)) &&& (511 : Int32)) < 0 ∨ 512 ≤ ((v1 + (1 : Int32)) &&& (511 : Int32)).toNatClampNeg then none else some (0, (x_up (x_up σ 2 ((v1 &&& (511 : Int32)).toNatClampNeg) (v2 &&& (255 : Int32))) 2 (((v1 + (1 : Int32)) &&& (511 : Int32)).toNatClampNeg) ((v2 >>> ((8 : Int32) &&& 31)) &&& (255 : Int32)))))) := rfl
-- DeskMachine$Processor.push(I)V (3,)
set_option maxRecDepth 100000 in
set_option maxHeartbeats 4000000 in
theorem e44_0 (C : xC) (k : xK) (v1 : Int32) (σ : xS) : x_b x_i44 C k 0 [(0, .ref 3), (1, .int v1)] [] σ = ((C 43 [.ref 1, .int ((x_up σ 3 2 (((σ 3 2) - (2 : Int32)) &&& (Int32.ofNat 65535))) 3 2), .int v1] (x_up σ 3 2 (((σ 3 2) - (2 : Int32)) &&& (Int32.ofNat 65535)))).bind fun r1 => some (0, r1.2)) := rfl
-- DeskMachine$Processor.start()V (3,)
set_option maxRecDepth 100000 in
set_option maxHeartbeats 4000000 in
theorem e45_0 (C : xC) (k : xK) (σ : xS) : x_b x_i45 C k 0 [(0, .ref 3)] [] σ = k 2 [(0, .ref 3), (1, .int (0 : Int32))] [] σ := rfl
set_option maxRecDepth 100000 in
set_option maxHeartbeats 4000000 in
theorem e45_2 (C : xC) (k : xK) (v1 : Int32) (σ : xS) : x_b x_i45 C k 2 [(0, .ref 3), (1, .int v1)] [] σ = (if (8 : Int32) ≤ v1 then ((C 42 [.ref 3, .int (0 : Int32)] σ).bind fun r1 => ((C 44 [.ref 3, .int (0 : Int32)] (x_up r1.2 3 2 (496 : Int32))).bind fun r2 => some (0, (x_up r2.2 3 3 (256 : Int32))))) else (if v1 < 0 ∨ 8 ≤ v1.toNatClampNeg then none else k 2 [(0, .ref 3), (1, .int (v1 + (1 : Int32)))] [] (x_up σ 4 (v1.toNatClampNeg) (0 : Int32)))) := rfl
-- DeskMachine.stepAtDesk()Z (0,)
set_option maxRecDepth 100000 in
set_option maxHeartbeats 4000000 in
theorem e46_0 (C : xC) (k : xK) (σ : xS) : x_b x_i46 C k 0 [(0, .ref 0)] [] σ = ((C 5 [.ref 8] σ).bind fun r1 => (if r1.1 = 0 then ((C 6 [.ref 8] r1.2).bind fun r2 => (if r2.1 = (13 : Int32) then ((C 41 [.ref 14] r2.2).bind fun r3 => (if r3.1 = 0 then some ((1 : Int32), r3.2) else ((C 45 [.ref 3] r3.2).bind fun r4 => some ((1 : Int32), (x_up (x_up r4.2 12 3 (128 : Int32)) 0 7 (1 : Int32)))))) else ((C 7 [.ref 14, .int r2.1] r2.2).bind fun r5 => some ((1 : Int32), r5.2)))) else some ((0 : Int32), r1.2))) := rfl
-- DeskMachine$Processor.nextByte()I (3,)
set_option maxRecDepth 100000 in
set_option maxHeartbeats 4000000 in
theorem e47_0 (C : xC) (k : xK) (σ : xS) : x_b x_i47 C k 0 [(0, .ref 3)] [] σ = ((C 33 [.ref 1, .int (σ 3 3)] σ).bind fun r1 => some (r1.1, (x_up r1.2 3 3 (((r1.2 3 3) + (1 : Int32)) &&& (Int32.ofNat 65535))))) := rfl
-- DeskMachine$Processor.nextWord()I (3,)
set_option maxRecDepth 100000 in
set_option maxHeartbeats 4000000 in
theorem e48_0 (C : xC) (k : xK) (σ : xS) : x_b x_i48 C k 0 [(0, .ref 3)] [] σ = ((C 47 [.ref 3] σ).bind fun r1 => ((C 47 [.ref 3] r1.2).bind fun r2 => some ((r1.1 ||| (r2.1 <<< ((8 : Int32) &&& 31))), r2.2))) := rfl
-- DeskMachine$Processor.setPair(II)V (3,)
set_option maxRecDepth 100000 in
set_option maxHeartbeats 4000000 in
theorem e49_0 (C : xC) (k : xK) (v1 v2 : Int32) (σ : xS) : x_b x_i49 C k 0 [(0, .ref 3), (1, .int v1), (2, .int v2)] [] σ = (if v1 = (3 : Int32) then some (0, (x_up σ 3 2 (v2 &&& (Int32.ofNat 65535)))) else (if ((2 : Int32) * v1) < 0 ∨ 8 ≤ ((2 : Int32) * v1).toNatClampNeg then none else (if (((2 : Int32) * v1) + (1 : Int32)) < 0 ∨ 8 ≤ (((2 : Int32) * v1) + (1 : Int32)).toNatClampNeg then none else some (0, (x_up (x_up σ 4 (((2 : Int32) * v1).toNatClampNeg) ((v2 >>> ((8 : Int32) &&& 31)) &&& (255 : Int32))) 4 ((((2 : Int32) * v1) + (1 : Int32)).toNatClampNeg) (v2 &&& (255 : Int32))))))) := rfl
-- DeskMachine$Processor.pair(I)I (3,)
set_option maxRecDepth 100000 in
set_option maxHeartbeats 4000000 in
theorem e50_0 (C : xC) (k : xK) (v1 : Int32) (σ : xS) : x_b x_i50 C k 0 [(0, .ref 3), (1, .int v1)] [] σ = (if v1 = (3 : Int32) then some ((σ 3 2), σ) else (if ((2 : Int32) * v1) < 0 ∨ 8 ≤ ((2 : Int32) * v1).toNatClampNeg then none else (if (((2 : Int32) * v1) + (1 : Int32)) < 0 ∨ 8 ≤ (((2 : Int32) * v1) + (1 : Int32)).toNatClampNeg then none else some ((((σ 4 ((2 : Int32) * v1).toNatClampNeg) <<< ((8 : Int32) &&& 31)) ||| (σ 4 (((2 : Int32) * v1) + (1 : Int32)).toNatClampNeg)), σ)))) := rfl
-- DeskMachine$Processor.addToHL(I)V (3,)
set_option maxRecDepth 100000 in
set_option maxHeartbeats 4000000 in
theorem e51_0 (C : xC) (k : xK) (v1 : Int32) (σ : xS) : x_b x_i51 C k 0 [(0, .ref 3), (1, .int v1)] [] σ = ((C 50 [.ref 3, .int (2 : Int32)] σ).bind fun r1 => ((C 49 [.ref 3, .int (2 : Int32), .int (r1.1 + v1)] r1.2).bind fun r2 => some (0, (x_up r2.2 3 8 ((r1.1 + v1) >>> ((16 : Int32) &&& 31)))))) := rfl
-- DeskMachine$Memory.word(I)I (1,)
set_option maxRecDepth 100000 in
set_option maxHeartbeats 4000000 in
theorem e52_0 (C : xC) (k : xK) (v1 : Int32) (σ : xS) : x_b x_i52 C k 0 [(0, .ref 1), (1, .int v1)] [] σ = (if (v1 &&& (511 : Int32)) < 0 ∨ 512 ≤ (v1 &&& (511 : Int32)).toNatClampNeg then none else (if ((v1 + (1 : Int32)) &&& (511 : Int32)) < 0 ∨ 512 ≤ ((v1 + (1 : Int32)) &&& (511 : Int32)).toNatClampNeg then none else some (((σ 2 (v1 &&& (511 : Int32)).toNatClampNeg) ||| ((σ 2 ((v1 + (1 : Int32)) &&& (511 : Int32)).toNatClampNeg) <<< ((8 : Int32) &&& 31))), σ))) := rfl
-- DeskMachine$Processor.moveByAddress(I)V (3,)
set_option maxRecDepth 100000 in
set_option maxHeartbeats 4000000 in
theorem e53_0 (C : xC) (k : xK) (v1 : Int32) (σ : xS) : x_b x_i53 C k 0 [(0, .ref 3), (1, .int v1)] [] σ = (if v1 = (0 : Int32) then ((C 50 [.ref 3, .int (v1 >>> ((1 : Int32) &&& 31))] σ).bind fun r17 => ((C 37 [.ref 1, .int r17.1, .int (r17.2 4 7)] r17.2).bind fun r18 => some (0, r18.2))) else (if v1 = (1 : Int32) then ((C 50 [.ref 3, .int (v1 >>> ((1 : Int32) &&& 31))] σ).bind fun r15 => ((C 33 [.ref 1, .int r15.1] r15.2).bind fun r16 => some (0, (x_up r16.2 4 7 r16.1)))) else (if v1 = (2 : Int32) then ((C 50 [.ref 3, .int (v1 >>> ((1 : Int32) &&& 31))] σ).bind fun r13 => ((C 37 [.ref 1, .int r13.1, .int (r13.2 4 7)] r13.2).bind fun r14 => some (0, r14.2))) else (if v1 = (3 : Int32) then ((C 50 [.ref 3, .int (v1 >>> ((1 : Int32) &&& 31))] σ).bind fun r11 => ((C 33 [.ref 1, .int r11.1] r11.2).bind fun r12 => some (0, (x_up r12.2 4 7 r12.1)))) else (if v1 = (4 : Int32) then ((C 48 [.ref 3] σ).bind fun r8 => ((C 50 [.ref 3, .int (2 : Int32)] r8.2).bind fun r9 => ((C 43 [.ref 1, .int r8.1, .int r9.1] r9.2).bind fun r10 => some (0, r10.2)))) else (if v1 = (5 : Int32) then ((C 48 [.ref 3] σ).bind fun r5 => ((C 52 [.ref 1, .int r5.1] r5.2).bind fun r6 => ((C 49 [.ref 3, .int (2 : Int32), .int r6.1] r6.2).bind fun r7 => some (0, r7.2)))) else (if v1 = (6 : Int32) then ((C 48 [.ref 3] σ).bind fun r3 => ((C 37 [.ref 1, .int r3.1, .int (r3.2 4 7)] r3.2).bind fun r4 => some (0, r4.2))) else ((C 48 [.ref 3] σ).bind fun r1 => ((C 33 [.ref 1, .int r1.1] r1.2).bind fun r2 => some (0, (x_up r2.2 4 7 r2.1))))))))))) := rfl
-- DeskMachine$Processor.get(I)I (3,)
set_option maxRecDepth 100000 in
set_option maxHeartbeats 4000000 in
theorem e54_0 (C : xC) (k : xK) (v1 : Int32) (σ : xS) : x_b x_i54 C k 0 [(0, .ref 3), (1, .int v1)] [] σ = (if v1 = (6 : Int32) then ((C 50 [.ref 3, .int (2 : Int32)] σ).bind fun r1 => ((C 33 [.ref 1, .int r1.1] r1.2).bind fun r2 => some (r2.1, r2.2))) else (if v1 < 0 ∨ 8 ≤ v1.toNatClampNeg then none else some ((σ 4 v1.toNatClampNeg), σ))) := rfl
-- DeskMachine$Processor.put(II)V (3,)
set_option maxRecDepth 100000 in
set_option maxHeartbeats 4000000 in
theorem e55_0 (C : xC) (k : xK) (v1 v2 : Int32) (σ : xS) : x_b x_i55 C k 0 [(0, .ref 3), (1, .int v1), (2, .int v2)] [] σ = (if v1 = (6 : Int32) then ((C 50 [.ref 3, .int (2 : Int32)] σ).bind fun r1 => ((C 37 [.ref 1, .int r1.1, .int v2] r1.2).bind fun r2 => some (0, r2.2))) else (if v1 < 0 ∨ 8 ≤ v1.toNatClampNeg then none else some (0, (x_up σ 4 (v1.toNatClampNeg) v2)))) := rfl
-- java/lang/Integer.bitCount(I)I ()
set_option maxRecDepth 100000 in
set_option maxHeartbeats 4000000 in
theorem e56_0 (C : xC) (k : xK) (v0 : Int32) (σ : xS) : x_b x_i56 C k 0 [(0, .int v0)] [] σ = some (((((((((v0 - (((v0).toUInt32 >>> (((1 : Int32)).toUInt32 &&& Int32.toUInt32 31)).toInt32 &&& (Int32.ofNat 1431655765))) &&& (Int32.ofNat 858993459)) + ((((v0 - (((v0).toUInt32 >>> (((1 : Int32)).toUInt32 &&& Int32.toUInt32 31)).toInt32 &&& (Int32.ofNat 1431655765)))).toUInt32 >>> (((2 : Int32)).toUInt32 &&& Int32.toUInt32 31)).toInt32 &&& (Int32.ofNat 858993459))) + (((((v0 - (((v0).toUInt32 >>> (((1 : Int32)).toUInt32 &&& Int32.toUInt32 31)).toInt32 &&& (Int32.ofNat 1431655765))) &&& (Int32.ofNat 858993459)) + ((((v0 - (((v0).toUInt32 >>> (((1 : Int32)).toUInt32 &&& Int32.toUInt32 31)).toInt32 &&& (Int32.ofNat 1431655765)))).toUInt32 >>> (((2 : Int32)).toUInt32 &&& Int32.toUInt32 31)).toInt32 &&& (Int32.ofNat 858993459)))).toUInt32 >>> (((4 : Int32)).toUInt32 &&& Int32.toUInt32 31)).toInt32) &&& (Int32.ofNat 252645135)) + (((((((v0 - (((v0).toUInt32 >>> (((1 : Int32)).toUInt32 &&& Int32.toUInt32 31)).toInt32 &&& (Int32.ofNat 1431655765))) &&& (Int32.ofNat 858993459)) + ((((v0 - (((v0).toUInt32 >>> (((1 : Int32)).toUInt32 &&& Int32.toUInt32 31)).toInt32 &&& (Int32.ofNat 1431655765)))).toUInt32 >>> (((2 : Int32)).toUInt32 &&& Int32.toUInt32 31)).toInt32 &&& (Int32.ofNat 858993459))) + (((((v0 - (((v0).toUInt32 >>> (((1 : Int32)).toUInt32 &&& Int32.toUInt32 31)).toInt32 &&& (Int32.ofNat 1431655765))) &&& (Int32.ofNat 858993459)) + ((((v0 - (((v0).toUInt32 >>> (((1 : Int32)).toUInt32 &&& Int32.toUInt32 31)).toInt32 &&& (Int32.ofNat 1431655765)))).toUInt32 >>> (((2 : Int32)).toUInt32 &&& Int32.toUInt32 31)).toInt32 &&& (Int32.ofNat 858993459)))).toUInt32 >>> (((4 : Int32)).toUInt32 &&& Int32.toUInt32 31)).toInt32) &&& (Int32.ofNat 252645135))).toUInt32 >>> (((8 : Int32)).toUInt32 &&& Int32.toUInt32 31)).toInt32) + ((((((((v0 - (((v0).toUInt32 >>> (((1 : Int32)).toUInt32 &&& Int32.toUInt32 31)).toInt32 &&& (Int32.ofNat 1431655765))) &&& (Int32.ofNat 858993459)) + ((((v0 - (((v0).toUInt32 >>> (((1 : Int32)).toUInt32 &&& Int32.toUInt32 31)).toInt32 &&& (Int32.ofNat 1431655765)))).toUInt32 >>> (((2 : Int32)).toUInt32 &&& Int32.toUInt32 31)).toInt32 &&& (Int32.ofNat 858993459))) + (((((v0 - (((v0).toUInt32 >>> (((1 : Int32)).toUInt32 &&& Int32.toUInt32 31)).toInt32 &&& (Int32.ofNat 1431655765))) &&& (Int32.ofNat 858993459)) + ((((v0 - (((v0).toUInt32 >>> (((1 : Int32)).toUInt32 &&& Int32.toUInt32 31)).toInt32 &&& (Int32.ofNat 1431655765)))).toUInt32 >>> (((2 : Int32)).toUInt32 &&& Int32.toUInt32 31)).toInt32 &&& (Int32.ofNat 858993459)))).toUInt32 >>> (((4 : Int32)).toUInt32 &&& Int32.toUInt32 31)).toInt32) &&& (Int32.ofNat 252645135)) + (((((((v0 - (((v0).toUInt32 >>> (((1 : Int32)).toUInt32 &&& Int32.toUInt32 31)).toInt32 &&& (Int32.ofNat 1431655765))) &&& (Int32.ofNat 858993459)) + ((((v0 - (((v0).toUInt32 >>> (((1 : Int32)).toUInt32 &&& Int32.toUInt32 31)).toInt32 &&& (Int32.ofNat 1431655765)))).toUInt32 >>> (((2 : Int32)).toUInt32 &&& Int32.toUInt32 31)).toInt32 &&& (Int32.ofNat 858993459))) + (((((v0 - (((v0).toUInt32 >>> (((1 : Int32)).toUInt32 &&& Int32.toUInt32 31)).toInt32 &&& (Int32.ofNat 1431655765))) &&& (Int32.ofNat 858993459)) + ((((v0 - (((v0).toUInt32 >>> (((1 : Int32)).toUInt32 &&& Int32.toUInt32 31)).toInt32 &&& (Int32.ofNat 1431655765)))).toUInt32 >>> (((2 : Int32)).toUInt32 &&& Int32.toUInt32 31)).toInt32 &&& (Int32.ofNat 858993459)))).toUInt32 >>> (((4 : Int32)).toUInt32 &&& Int32.toUInt32 31)).toInt32) &&& (Int32.ofNat 252645135))).toUInt32 >>> (((8 : Int32)).toUInt32 &&& Int32.toUInt32 31)).toInt32)).toUInt32 >>> (((16 : Int32)).toUInt32 &&& Int32.toUInt32 31)).toInt32) &&& (63 : Int32)), σ) := rfl
-- DeskMachine$Processor.judge(I)V (3,)
set_option maxRecDepth 100000 in
set_option maxHeartbeats 4000000 in
theorem e57_0 (C : xC) (k : xK) (v1 : Int32) (σ : xS) : x_b x_i57 C k 0 [(0, .ref 3), (1, .int v1)] [] σ = (if v1 = 0 then ((C 56 [.int v1] (x_up (x_up σ 3 4 (v1 >>> ((7 : Int32) &&& 31))) 3 5 (1 : Int32))).bind fun r2 => some (0, (x_up r2.2 3 7 ((1 : Int32) - (r2.1 &&& (1 : Int32)))))) else ((C 56 [.int v1] (x_up (x_up σ 3 4 (v1 >>> ((7 : Int32) &&& 31))) 3 5 (0 : Int32))).bind fun r1 => some (0, (x_up r1.2 3 7 ((1 : Int32) - (r1.1 &&& (1 : Int32))))))) := rfl
-- DeskMachine$Processor.grow(I)V (3,)
set_option maxRecDepth 100000 in
set_option maxHeartbeats 4000000 in
theorem e58_0 (C : xC) (k : xK) (v1 : Int32) (σ : xS) : x_b x_i58 C k 0 [(0, .ref 3), (1, .int v1)] [] σ = ((C 54 [.ref 3, .int v1] σ).bind fun r1 => ((C 55 [.ref 3, .int v1, .int ((r1.1 + (1 : Int32)) &&& (255 : Int32))] r1.2).bind fun r2 => ((C 57 [.ref 3, .int ((r1.1 + (1 : Int32)) &&& (255 : Int32))] r2.2).bind fun r3 => (if (((r1.1 + (1 : Int32)) &&& (255 : Int32)) &&& (15 : Int32)) = 0 then some (0, (x_up r3.2 3 6 (1 : Int32))) else some (0, (x_up r3.2 3 6 (0 : Int32))))))) := rfl
-- DeskMachine$Processor.fall(I)V (3,)
set_option maxRecDepth 100000 in
set_option maxHeartbeats 4000000 in
theorem e59_0 (C : xC) (k : xK) (v1 : Int32) (σ : xS) : x_b x_i59 C k 0 [(0, .ref 3), (1, .int v1)] [] σ = ((C 54 [.ref 3, .int v1] σ).bind fun r1 => ((C 55 [.ref 3, .int v1, .int ((r1.1 - (1 : Int32)) &&& (255 : Int32))] r1.2).bind fun r2 => ((C 57 [.ref 3, .int ((r1.1 - (1 : Int32)) &&& (255 : Int32))] r2.2).bind fun r3 => (if (((r1.1 - (1 : Int32)) &&& (255 : Int32)) &&& (15 : Int32)) = (15 : Int32) then some (0, (x_up r3.2 3 6 (0 : Int32))) else some (0, (x_up r3.2 3 6 (1 : Int32))))))) := rfl
-- DeskMachine$Processor.turnLeft(I)V (3,)
set_option maxRecDepth 100000 in
set_option maxHeartbeats 4000000 in
theorem e60_0 (C : xC) (k : xK) (v1 : Int32) (σ : xS) : x_b x_i60 C k 0 [(0, .ref 3), (1, .int v1)] [] σ = some (0, (x_up (x_up σ 4 7 ((((σ 4 7) <<< ((1 : Int32) &&& 31)) &&& (255 : Int32)) ||| v1)) 3 8 ((σ 4 7) >>> ((7 : Int32) &&& 31)))) := rfl
-- DeskMachine$Processor.turnRight(I)V (3,)
set_option maxRecDepth 100000 in
set_option maxHeartbeats 4000000 in
theorem e61_0 (C : xC) (k : xK) (v1 : Int32) (σ : xS) : x_b x_i61 C k 0 [(0, .ref 3), (1, .int v1)] [] σ = some (0, (x_up (x_up σ 4 7 (((σ 4 7) >>> ((1 : Int32) &&& 31)) ||| (v1 <<< ((7 : Int32) &&& 31)))) 3 8 ((σ 4 7) &&& (1 : Int32)))) := rfl
-- DeskMachine$Processor.adjust()V (3,)
set_option maxRecDepth 100000 in
set_option maxHeartbeats 4000000 in
theorem e62_0 (C : xC) (k : xK) (σ : xS) : x_b x_i62 C k 0 [(0, .ref 3)] [] σ = (if (9 : Int32) < ((σ 4 7) &&& (15 : Int32)) then k 31 [(0, .ref 3), (1, .int (σ 4 7))] [.int (6 : Int32)] σ else (if (σ 3 6) = (1 : Int32) then k 31 [(0, .ref 3), (1, .int (σ 4 7))] [.int (6 : Int32)] σ else k 31 [(0, .ref 3), (1, .int (σ 4 7))] [.int (0 : Int32)] σ)) := rfl
set_option maxRecDepth 100000 in
set_option maxHeartbeats 4000000 in
theorem e62_31 (C : xC) (k : xK) (v1 s0 : Int32) (σ : xS) : x_b x_i62 C k 31 [(0, .ref 3), (1, .int v1)] [.int s0] σ = (if (153 : Int32) < v1 then ((C 57 [.ref 3, .int ((x_up (x_up (x_up σ 3 6 (((v1 &&& (15 : Int32)) + s0) >>> ((4 : Int32) &&& 31))) 3 8 (1 : Int32)) 4 7 ((v1 + (s0 + (96 : Int32))) &&& (255 : Int32))) 4 7)] (x_up (x_up (x_up σ 3 6 (((v1 &&& (15 : Int32)) + s0) >>> ((4 : Int32) &&& 31))) 3 8 (1 : Int32)) 4 7 ((v1 + (s0 + (96 : Int32))) &&& (255 : Int32)))).bind fun r1 => some (0, r1.2)) else (if ((x_up σ 3 6 (((v1 &&& (15 : Int32)) + s0) >>> ((4 : Int32) &&& 31))) 3 8) = (1 : Int32) then ((C 57 [.ref 3, .int ((x_up (x_up (x_up σ 3 6 (((v1 &&& (15 : Int32)) + s0) >>> ((4 : Int32) &&& 31))) 3 8 (1 : Int32)) 4 7 ((v1 + (s0 + (96 : Int32))) &&& (255 : Int32))) 4 7)] (x_up (x_up (x_up σ 3 6 (((v1 &&& (15 : Int32)) + s0) >>> ((4 : Int32) &&& 31))) 3 8 (1 : Int32)) 4 7 ((v1 + (s0 + (96 : Int32))) &&& (255 : Int32)))).bind fun r3 => some (0, r3.2)) else ((C 57 [.ref 3, .int ((x_up (x_up σ 3 6 (((v1 &&& (15 : Int32)) + s0) >>> ((4 : Int32) &&& 31))) 4 7 ((v1 + s0) &&& (255 : Int32))) 4 7)] (x_up (x_up σ 3 6 (((v1 &&& (15 : Int32)) + s0) >>> ((4 : Int32) &&& 31))) 4 7 ((v1 + s0) &&& (255 : Int32)))).bind fun r2 => some (0, r2.2)))) := rfl
-- DeskMachine$Processor.changeA(I)V (3,)
set_option maxRecDepth 100000 in
set_option maxHeartbeats 4000000 in
theorem e63_0 (C : xC) (k : xK) (v1 : Int32) (σ : xS) : x_b x_i63 C k 0 [(0, .ref 3), (1, .int v1)] [] σ = (if v1 = (0 : Int32) then ((C 60 [.ref 3, .int ((σ 4 7) >>> ((7 : Int32) &&& 31))] σ).bind fun r5 => some (0, r5.2)) else (if v1 = (1 : Int32) then ((C 61 [.ref 3, .int ((σ 4 7) &&& (1 : Int32))] σ).bind fun r4 => some (0, r4.2)) else (if v1 = (2 : Int32) then ((C 60 [.ref 3, .int (σ 3 8)] σ).bind fun r3 => some (0, r3.2)) else (if v1 = (3 : Int32) then ((C 61 [.ref 3, .int (σ 3 8)] σ).bind fun r2 => some (0, r2.2)) else (if v1 = (4 : Int32) then ((C 62 [.ref 3] σ).bind fun r1 => some (0, r1.2)) else (if v1 = (5 : Int32) then some (0, (x_up σ 4 7 ((255 : Int32) - (σ 4 7)))) else (if v1 = (6 : Int32) then some (0, (x_up σ 3 8 (1 : Int32))) else some (0, (x_up σ 3 8 ((1 : Int32) - (σ 3 8))))))))))) := rfl
-- DeskMachine$Processor.moveOrCount(II)V (3,)
set_option maxRecDepth 100000 in
set_option maxHeartbeats 4000000 in
theorem e64_0 (C : xC) (k : xK) (v1 v2 : Int32) (σ : xS) : x_b x_i64 C k 0 [(0, .ref 3), (1, .int v1), (2, .int v2)] [] σ = (if v2 = (0 : Int32) then some (0, σ) else (if v2 = (1 : Int32) then (if (v1 &&& (1 : Int32)) = 0 then ((C 48 [.ref 3] σ).bind fun r12 => ((C 49 [.ref 3, .int (v1 >>> ((1 : Int32) &&& 31)), .int r12.1] r12.2).bind fun r13 => some (0, r13.2))) else ((C 50 [.ref 3, .int (v1 >>> ((1 : Int32) &&& 31))] σ).bind fun r10 => ((C 51 [.ref 3, .int r10.1] r10.2).bind fun r11 => some (0, r11.2)))) else (if v2 = (2 : Int32) then ((C 53 [.ref 3, .int v1] σ).bind fun r9 => some (0, r9.2)) else (if v2 = (3 : Int32) then ((C 50 [.ref 3, .int (v1 >>> ((1 : Int32) &&& 31))] σ).bind fun r6 => (if (v1 &&& (1 : Int32)) = 0 then ((C 49 [.ref 3, .int (v1 >>> ((1 : Int32) &&& 31)), .int (r6.1 + (1 : Int32))] r6.2).bind fun r8 => some (0, r8.2)) else ((C 49 [.ref 3, .int (v1 >>> ((1 : Int32) &&& 31)), .int (r6.1 + (-1 : Int32))] r6.2).bind fun r7 => some (0, r7.2)))) else (if v2 = (4 : Int32) then ((C 58 [.ref 3, .int v1] σ).bind fun r5 => some (0, r5.2)) else (if v2 = (5 : Int32) then ((C 59 [.ref 3, .int v1] σ).bind fun r4 => some (0, r4.2)) else (if v2 = (6 : Int32) then ((C 47 [.ref 3] σ).bind fun r2 => ((C 55 [.ref 3, .int v1, .int r2.1] r2.2).bind fun r3 => some (0, r3.2))) else ((C 63 [.ref 3, .int v1] σ).bind fun r1 => some (0, r1.2))))))))) := rfl
-- DeskMachine$Processor.plus(II)I (3,)
set_option maxRecDepth 100000 in
set_option maxHeartbeats 4000000 in
theorem e65_0 (C : xC) (k : xK) (v1 v2 : Int32) (σ : xS) : x_b x_i65 C k 0 [(0, .ref 3), (1, .int v1), (2, .int v2)] [] σ = ((C 57 [.ref 3, .int ((((σ 4 7) + v1) + v2) &&& (255 : Int32))] (x_up (x_up σ 3 6 (((((σ 4 7) &&& (15 : Int32)) + (v1 &&& (15 : Int32))) + v2) >>> ((4 : Int32) &&& 31))) 3 8 ((((σ 4 7) + v1) + v2) >>> ((8 : Int32) &&& 31)))).bind fun r1 => some (((((σ 4 7) + v1) + v2) &&& (255 : Int32)), r1.2)) := rfl
-- DeskMachine$Processor.minus(II)I (3,)
set_option maxRecDepth 100000 in
set_option maxHeartbeats 4000000 in
theorem e66_0 (C : xC) (k : xK) (v1 v2 : Int32) (σ : xS) : x_b x_i66 C k 0 [(0, .ref 3), (1, .int v1), (2, .int v2)] [] σ = ((C 65 [.ref 3, .int ((255 : Int32) - v1), .int ((1 : Int32) - v2)] σ).bind fun r1 => some (r1.1, (x_up r1.2 3 8 ((1 : Int32) - (r1.2 3 8))))) := rfl
-- DeskMachine$Processor.setBits(I)V (3,)
set_option maxRecDepth 100000 in
set_option maxHeartbeats 4000000 in
theorem e67_0 (C : xC) (k : xK) (v1 : Int32) (σ : xS) : x_b x_i67 C k 0 [(0, .ref 3), (1, .int v1)] [] σ = ((C 57 [.ref 3, .int v1] (x_up (x_up σ 4 7 v1) 3 8 (0 : Int32))).bind fun r1 => some (0, r1.2)) := rfl
-- DeskMachine$Processor.combine(II)V (3,)
set_option maxRecDepth 100000 in
set_option maxHeartbeats 4000000 in
theorem e68_0 (C : xC) (k : xK) (v1 v2 : Int32) (σ : xS) : x_b x_i68 C k 0 [(0, .ref 3), (1, .int v1), (2, .int v2)] [] σ = (if v1 = (0 : Int32) then ((C 65 [.ref 3, .int v2, .int (0 : Int32)] σ).bind fun r8 => some (0, (x_up r8.2 4 7 r8.1))) else (if v1 = (1 : Int32) then ((C 65 [.ref 3, .int v2, .int (σ 3 8)] σ).bind fun r7 => some (0, (x_up r7.2 4 7 r7.1))) else (if v1 = (2 : Int32) then ((C 66 [.ref 3, .int v2, .int (0 : Int32)] σ).bind fun r6 => some (0, (x_up r6.2 4 7 r6.1))) else (if v1 = (3 : Int32) then ((C 66 [.ref 3, .int v2, .int (σ 3 8)] σ).bind fun r5 => some (0, (x_up r5.2 4 7 r5.1))) else (if v1 = (4 : Int32) then ((C 67 [.ref 3, .int (((x_up σ 3 6 ((((σ 4 7) ||| v2) >>> ((3 : Int32) &&& 31)) &&& (1 : Int32))) 4 7) &&& v2)] (x_up σ 3 6 ((((σ 4 7) ||| v2) >>> ((3 : Int32) &&& 31)) &&& (1 : Int32)))).bind fun r4 => some (0, r4.2)) else (if v1 = (5 : Int32) then ((C 67 [.ref 3, .int (((x_up σ 3 6 (0 : Int32)) 4 7) ^^^ v2)] (x_up σ 3 6 (0 : Int32))).bind fun r3 => some (0, r3.2)) else (if v1 = (6 : Int32) then ((C 67 [.ref 3, .int (((x_up σ 3 6 (0 : Int32)) 4 7) ||| v2)] (x_up σ 3 6 (0 : Int32))).bind fun r2 => some (0, r2.2)) else ((C 66 [.ref 3, .int v2, .int (0 : Int32)] σ).bind fun r1 => some (0, r1.2))))))))) := rfl
-- DeskMachine$Processor.holds(I)Z (3,)
set_option maxRecDepth 100000 in
set_option maxHeartbeats 4000000 in
theorem e69_0 (C : xC) (k : xK) (v1 : Int32) (σ : xS) : x_b x_i69 C k 0 [(0, .ref 3), (1, .int v1)] [] σ = (if (v1 >>> ((1 : Int32) &&& 31)) = (0 : Int32) then (if (σ 3 5) = (v1 &&& (1 : Int32)) then some ((1 : Int32), σ) else some ((0 : Int32), σ)) else (if (v1 >>> ((1 : Int32) &&& 31)) = (1 : Int32) then (if (σ 3 8) = (v1 &&& (1 : Int32)) then some ((1 : Int32), σ) else some ((0 : Int32), σ)) else (if (v1 >>> ((1 : Int32) &&& 31)) = (2 : Int32) then (if (σ 3 7) = (v1 &&& (1 : Int32)) then some ((1 : Int32), σ) else some ((0 : Int32), σ)) else (if (σ 3 4) = (v1 &&& (1 : Int32)) then some ((1 : Int32), σ) else some ((0 : Int32), σ))))) := rfl
-- DeskMachine$Processor.pop()I (3,)
set_option maxRecDepth 100000 in
set_option maxHeartbeats 4000000 in
theorem e70_0 (C : xC) (k : xK) (σ : xS) : x_b x_i70 C k 0 [(0, .ref 3)] [] σ = ((C 52 [.ref 1, .int (σ 3 2)] σ).bind fun r1 => some (r1.1, (x_up r1.2 3 2 (((r1.2 3 2) + (2 : Int32)) &&& (Int32.ofNat 65535))))) := rfl
-- DeskMachine$Processor.popOrReturn(I)V (3,)
set_option maxRecDepth 100000 in
set_option maxHeartbeats 4000000 in
theorem e71_0 (C : xC) (k : xK) (v1 : Int32) (σ : xS) : x_b x_i71 C k 0 [(0, .ref 3), (1, .int v1)] [] σ = (if v1 = (1 : Int32) then ((C 70 [.ref 3] σ).bind fun r12 => some (0, (x_up r12.2 3 3 r12.1))) else (if v1 = (2 : Int32) then ((C 70 [.ref 3] σ).bind fun r10 => ((C 49 [.ref 3, .int (v1 >>> ((1 : Int32) &&& 31)), .int r10.1] r10.2).bind fun r11 => some (0, r11.2))) else (if v1 = (3 : Int32) then ((C 70 [.ref 3] σ).bind fun r9 => some (0, (x_up r9.2 3 3 r9.1))) else (if v1 = (4 : Int32) then ((C 70 [.ref 3] σ).bind fun r7 => ((C 49 [.ref 3, .int (v1 >>> ((1 : Int32) &&& 31)), .int r7.1] r7.2).bind fun r8 => some (0, r8.2))) else (if v1 = (5 : Int32) then ((C 50 [.ref 3, .int (2 : Int32)] σ).bind fun r6 => some (0, (x_up r6.2 3 3 r6.1))) else (if v1 = (6 : Int32) then ((C 70 [.ref 3] σ).bind fun r4 => ((C 42 [.ref 3, .int r4.1] (x_up r4.2 4 7 (r4.1 >>> ((8 : Int32) &&& 31)))).bind fun r5 => some (0, r5.2))) else (if v1 = (7 : Int32) then ((C 50 [.ref 3, .int (2 : Int32)] σ).bind fun r3 => some (0, (x_up r3.2 3 2 r3.1))) else ((C 70 [.ref 3] σ).bind fun r1 => ((C 49 [.ref 3, .int (v1 >>> ((1 : Int32) &&& 31)), .int r1.1] r1.2).bind fun r2 => some (0, r2.2)))))))))) := rfl
-- DeskMachine$Processor.goTo(IZ)V (3,)
set_option maxRecDepth 100000 in
set_option maxHeartbeats 4000000 in
theorem e72_0 (C : xC) (k : xK) (v1 v2 : Int32) (σ : xS) : x_b x_i72 C k 0 [(0, .ref 3), (1, .int v1), (2, .int v2)] [] σ = (if v2 = 0 then some (0, σ) else some (0, (x_up σ 3 3 v1))) := rfl
-- DeskMachine$Processor.goOrExchange(I)V (3,)
set_option maxRecDepth 100000 in
set_option maxHeartbeats 4000000 in
theorem e73_0 (C : xC) (k : xK) (v1 : Int32) (σ : xS) : x_b x_i73 C k 0 [(0, .ref 3), (1, .int v1)] [] σ = (if v1 = (0 : Int32) then ((C 48 [.ref 3] σ).bind fun r13 => ((C 72 [.ref 3, .int r13.1, .int (1 : Int32)] r13.2).bind fun r14 => some (0, r14.2))) else (if v1 = (1 : Int32) then ((C 48 [.ref 3] σ).bind fun r11 => ((C 72 [.ref 3, .int r11.1, .int (1 : Int32)] r11.2).bind fun r12 => some (0, r12.2))) else (if v1 = (2 : Int32) then ((C 47 [.ref 3] σ).bind fun r10 => some (0, r10.2)) else (if v1 = (3 : Int32) then ((C 47 [.ref 3] σ).bind fun r9 => some (0, r9.2)) else (if v1 = (4 : Int32) then ((C 52 [.ref 1, .int (σ 3 2)] σ).bind fun r5 => ((C 50 [.ref 3, .int (2 : Int32)] r5.2).bind fun r6 => ((C 43 [.ref 1, .int (r5.2 3 2), .int r6.1] r6.2).bind fun r7 => ((C 49 [.ref 3, .int (2 : Int32), .int r5.1] r7.2).bind fun r8 => some (0, r8.2))))) else (if v1 = (5 : Int32) then ((C 50 [.ref 3, .int (1 : Int32)] σ).bind fun r1 => ((C 50 [.ref 3, .int (2 : Int32)] r1.2).bind fun r2 => ((C 49 [.ref 3, .int (1 : Int32), .int r2.1] r2.2).bind fun r3 => ((C 49 [.ref 3, .int (2 : Int32), .int r1.1] r3.2).bind fun r4 => some (0, r4.2))))) else some (0, σ))))))) := rfl
-- DeskMachine$Processor.callTo(IZ)V (3,)
set_option maxRecDepth 100000 in
set_option maxHeartbeats 4000000 in
theorem e74_0 (C : xC) (k : xK) (v1 v2 : Int32) (σ : xS) : x_b x_i74 C k 0 [(0, .ref 3), (1, .int v1), (2, .int v2)] [] σ = (if v2 = 0 then some (0, σ) else ((C 44 [.ref 3, .int (σ 3 3)] σ).bind fun r1 => some (0, (x_up r1.2 3 3 v1)))) := rfl
-- DeskMachine$Processor.flags()I (3,)
set_option maxRecDepth 100000 in
set_option maxHeartbeats 4000000 in
theorem e75_0 (C : xC) (k : xK) (σ : xS) : x_b x_i75 C k 0 [(0, .ref 3)] [] σ = some ((((((((σ 3 4) <<< ((7 : Int32) &&& 31)) ||| ((σ 3 5) <<< ((6 : Int32) &&& 31))) ||| ((σ 3 6) <<< ((4 : Int32) &&& 31))) ||| ((σ 3 7) <<< ((2 : Int32) &&& 31))) ||| (2 : Int32)) ||| (σ 3 8)), σ) := rfl
-- DeskMachine$Processor.pushOrCall(I)V (3,)
set_option maxRecDepth 100000 in
set_option maxHeartbeats 4000000 in
theorem e76_0 (C : xC) (k : xK) (v1 : Int32) (σ : xS) : x_b x_i76 C k 0 [(0, .ref 3), (1, .int v1)] [] σ = (if (v1 &&& (1 : Int32)) = (1 : Int32) then ((C 48 [.ref 3] σ).bind fun r5 => ((C 74 [.ref 3, .int r5.1, .int (1 : Int32)] r5.2).bind fun r6 => some (0, r6.2))) else (if v1 = (6 : Int32) then ((C 75 [.ref 3] σ).bind fun r3 => ((C 44 [.ref 3, .int (((σ 4 7) <<< ((8 : Int32) &&& 31)) ||| r3.1)] r3.2).bind fun r4 => some (0, r4.2))) else ((C 50 [.ref 3, .int (v1 >>> ((1 : Int32) &&& 31))] σ).bind fun r1 => ((C 44 [.ref 3, .int r1.1] r1.2).bind fun r2 => some (0, r2.2))))) := rfl
-- DeskMachine$Processor.branchOrStack(II)V (3,)
set_option maxRecDepth 100000 in
set_option maxHeartbeats 4000000 in
theorem e77_0 (C : xC) (k : xK) (v1 v2 : Int32) (σ : xS) : x_b x_i77 C k 0 [(0, .ref 3), (1, .int v1), (2, .int v2)] [] σ = (if v2 = (0 : Int32) then ((C 69 [.ref 3, .int v1] σ).bind fun r11 => (if r11.1 = 0 then some (0, r11.2) else ((C 70 [.ref 3] r11.2).bind fun r12 => some (0, (x_up r12.2 3 3 r12.1))))) else (if v2 = (1 : Int32) then ((C 71 [.ref 3, .int v1] σ).bind fun r10 => some (0, r10.2)) else (if v2 = (2 : Int32) then ((C 48 [.ref 3] σ).bind fun r7 => ((C 69 [.ref 3, .int v1] r7.2).bind fun r8 => ((C 72 [.ref 3, .int r7.1, .int r8.1] r8.2).bind fun r9 => some (0, r9.2)))) else (if v2 = (3 : Int32) then ((C 73 [.ref 3, .int v1] σ).bind fun r6 => some (0, r6.2)) else (if v2 = (4 : Int32) then ((C 48 [.ref 3] σ).bind fun r3 => ((C 69 [.ref 3, .int v1] r3.2).bind fun r4 => ((C 74 [.ref 3, .int r3.1, .int r4.1] r4.2).bind fun r5 => some (0, r5.2)))) else (if v2 = (5 : Int32) then ((C 76 [.ref 3, .int v1] σ).bind fun r2 => some (0, r2.2)) else ((C 74 [.ref 3, .int ((8 : Int32) * v1), .int (1 : Int32)] σ).bind fun r1 => some (0, r1.2)))))))) := rfl
-- DeskMachine$Processor.step()Z (3,)
set_option maxRecDepth 100000 in
set_option maxHeartbeats 4000000 in
theorem e78_0 (C : xC) (k : xK) (σ : xS) : x_b x_i78 C k 0 [(0, .ref 3)] [] σ = ((C 47 [.ref 3] σ).bind fun r1 => (if r1.1 = (118 : Int32) then some ((0 : Int32), r1.2) else (if (r1.1 >>> ((6 : Int32) &&& 31)) = (0 : Int32) then ((C 64 [.ref 3, .int ((r1.1 >>> ((3 : Int32) &&& 31)) &&& (7 : Int32)), .int (r1.1 &&& (7 : Int32))] r1.2).bind fun r9 => some ((1 : Int32), r9.2)) else (if (r1.1 >>> ((6 : Int32) &&& 31)) = (1 : Int32) then ((C 54 [.ref 3, .int (r1.1 &&& (7 : Int32))] r1.2).bind fun r7 => ((C 55 [.ref 3, .int ((r1.1 >>> ((3 : Int32) &&& 31)) &&& (7 : Int32)), .int r7.1] r7.2).bind fun r8 => some ((1 : Int32), r8.2))) else (if (r1.1 >>> ((6 : Int32) &&& 31)) = (2 : Int32) then ((C 54 [.ref 3, .int (r1.1 &&& (7 : Int32))] r1.2).bind fun r5 => ((C 68 [.ref 3, .int ((r1.1 >>> ((3 : Int32) &&& 31)) &&& (7 : Int32)), .int r5.1] r5.2).bind fun r6 => some ((1 : Int32), r6.2))) else (if (r1.1 &&& (7 : Int32)) = (6 : Int32) then ((C 47 [.ref 3] r1.2).bind fun r3 => ((C 68 [.ref 3, .int ((r1.1 >>> ((3 : Int32) &&& 31)) &&& (7 : Int32)), .int r3.1] r3.2).bind fun r4 => some ((1 : Int32), r4.2))) else ((C 77 [.ref 3, .int ((r1.1 >>> ((3 : Int32) &&& 31)) &&& (7 : Int32)), .int (r1.1 &&& (7 : Int32))] r1.2).bind fun r2 => some ((1 : Int32), r2.2)))))))) := rfl
-- DeskMachine$FileCalls.takeName(I)V (12,)
set_option maxRecDepth 100000 in
set_option maxHeartbeats 4000000 in
theorem e79_0 (C : xC) (k : xK) (v1 : Int32) (σ : xS) : x_b x_i79 C k 0 [(0, .ref 12), (1, .int v1)] [] σ = k 2 [(0, .ref 12), (1, .int v1), (2, .int (0 : Int32))] [] σ := rfl
set_option maxRecDepth 100000 in
set_option maxHeartbeats 4000000 in
theorem e79_2 (C : xC) (k : xK) (v1 v2 : Int32) (σ : xS) : x_b x_i79 C k 2 [(0, .ref 12), (1, .int v1), (2, .int v2)] [] σ = (if (4 : Int32) ≤ v2 then some (0, σ) else ((C 33 [.ref 1, .int (v1 + v2)] σ).bind fun r1 => (if v2 < 0 ∨ 4 ≤ v2.toNatClampNeg then none else k 2 [(0, .ref 12), (1, .int v1), (2, .int (v2 + (1 : Int32)))] [] (x_up r1.2 13 (v2.toNatClampNeg) r1.1)))) := rfl
-- DeskMachine$Disk.findFitting([II)I (5, 13)
set_option maxRecDepth 100000 in
set_option maxHeartbeats 4000000 in
theorem e80_0 (C : xC) (k : xK) (v2 : Int32) (σ : xS) : x_b x_i80 C k 0 [(0, .ref 5), (1, .ref 13), (2, .int v2)] [] σ = k 2 [(0, .ref 5), (1, .ref 13), (3, .int v2)] [] σ := rfl
set_option maxRecDepth 100000 in
set_option maxHeartbeats 4000000 in
theorem e80_2 (C : xC) (k : xK) (v3 : Int32) (σ : xS) : x_b x_i80 C k 2 [(0, .ref 5), (1, .ref 13), (3, .int v3)] [] σ = (if (8 : Int32) ≤ v3 then some ((-1 : Int32), σ) else ((C 17 [.ref 5, .int v3, .ref 13, .int (1 : Int32)] σ).bind fun r1 => (if r1.1 = 0 then k 2 [(0, .ref 5), (1, .ref 13), (3, .int (v3 + (1 : Int32)))] [] r1.2 else some (v3, r1.2)))) := rfl
-- DeskMachine$FileCalls.open(I)I (12,)
set_option maxRecDepth 100000 in
set_option maxHeartbeats 4000000 in
theorem e81_0 (C : xC) (k : xK) (v1 : Int32) (σ : xS) : x_b x_i81 C k 0 [(0, .ref 12), (1, .int v1)] [] σ = ((C 80 [.ref 5, .ref 13, .int (0 : Int32)] σ).bind fun r1 => (if r1.1 = (-1 : Int32) then some ((255 : Int32), r1.2) else k 24 [(0, .ref 12), (1, .int v1), (2, .int r1.1), (3, .int (1 : Int32))] [] r1.2)) := rfl
set_option maxRecDepth 100000 in
set_option maxHeartbeats 4000000 in
theorem e81_24 (C : xC) (k : xK) (v1 v2 v3 : Int32) (σ : xS) : x_b x_i81 C k 24 [(0, .ref 12), (1, .int v1), (2, .int v2), (3, .int v3)] [] σ = (if (16 : Int32) ≤ v3 then some (v2, σ) else ((C 13 [.ref 5, .int v2, .int v3] σ).bind fun r1 => ((C 37 [.ref 1, .int (v1 + v3), .int r1.1] r1.2).bind fun r2 => k 24 [(0, .ref 12), (1, .int v1), (2, .int v2), (3, .int (v3 + (1 : Int32)))] [] r2.2))) := rfl
-- DeskMachine$FileCalls.close(I)I (12,)
set_option maxRecDepth 100000 in
set_option maxHeartbeats 4000000 in
theorem e82_0 (C : xC) (k : xK) (v1 : Int32) (σ : xS) : x_b x_i82 C k 0 [(0, .ref 12), (1, .int v1)] [] σ = ((C 18 [.ref 5, .ref 13] σ).bind fun r1 => (if r1.1 = (-1 : Int32) then some ((255 : Int32), r1.2) else k 23 [(0, .ref 12), (1, .int v1), (2, .int r1.1), (3, .int (5 : Int32))] [] r1.2)) := rfl
set_option maxRecDepth 100000 in
set_option maxHeartbeats 4000000 in
theorem e82_23 (C : xC) (k : xK) (v1 v2 v3 : Int32) (σ : xS) : x_b x_i82 C k 23 [(0, .ref 12), (1, .int v1), (2, .int v2), (3, .int v3)] [] σ = (if (16 : Int32) ≤ v3 then some (v2, σ) else ((C 33 [.ref 1, .int (v1 + v3)] σ).bind fun r1 => ((C 24 [.ref 5, .int v2, .int v3, .int r1.1] r1.2).bind fun r2 => k 23 [(0, .ref 12), (1, .int v1), (2, .int v2), (3, .int (v3 + (1 : Int32)))] [] r2.2))) := rfl
-- DeskMachine$FileCalls.search(I)I (12,)
set_option maxRecDepth 100000 in
set_option maxHeartbeats 4000000 in
theorem e83_0 (C : xC) (k : xK) (v1 : Int32) (σ : xS) : x_b x_i83 C k 0 [(0, .ref 12), (1, .int v1)] [] σ = ((C 80 [.ref 5, .ref 13, .int v1] σ).bind fun r1 => (if r1.1 = (-1 : Int32) then some ((255 : Int32), (x_up r1.2 12 4 (8 : Int32))) else ((C 38 [.ref 5, .int r1.1, .ref 1, .int ((x_up r1.2 12 4 (r1.1 + (1 : Int32))) 12 3)] (x_up r1.2 12 4 (r1.1 + (1 : Int32)))).bind fun r2 => some (r1.1, r2.2)))) := rfl
-- DeskMachine$FileCalls.hasRecord(II)Z (12,)
set_option maxRecDepth 100000 in
set_option maxHeartbeats 4000000 in
theorem e84_0 (C : xC) (k : xK) (v1 v2 : Int32) (σ : xS) : x_b x_i84 C k 0 [(0, .ref 12), (1, .int v1), (2, .int v2)] [] σ = ((C 33 [.ref 1, .int (v1 + (5 : Int32))] σ).bind fun r1 => (if r1.1 ≤ v2 then some ((0 : Int32), r1.2) else ((C 33 [.ref 1, .int ((v1 + (6 : Int32)) + v2)] r1.2).bind fun r2 => ((C 21 [.int r2.1] r2.2).bind fun r3 => (if r3.1 = 0 then some ((0 : Int32), r3.2) else some ((1 : Int32), r3.2)))))) := rfl
-- DeskMachine$FileCalls.read(I)I (12,)
set_option maxRecDepth 100000 in
set_option maxHeartbeats 4000000 in
theorem e85_0 (C : xC) (k : xK) (v1 : Int32) (σ : xS) : x_b x_i85 C k 0 [(0, .ref 12), (1, .int v1)] [] σ = ((C 33 [.ref 1, .int (v1 + (16 : Int32))] σ).bind fun r1 => (if (10 : Int32) ≤ r1.1 then some ((1 : Int32), r1.2) else ((C 84 [.ref 12, .int v1, .int r1.1] r1.2).bind fun r2 => (if r2.1 = 0 then some ((1 : Int32), r2.2) else ((C 33 [.ref 1, .int ((v1 + (6 : Int32)) + r1.1)] r2.2).bind fun r3 => ((C 38 [.ref 5, .int r3.1, .ref 1, .int (r3.2 12 3)] r3.2).bind fun r4 => ((C 37 [.ref 1, .int (v1 + (16 : Int32)), .int (r1.1 + (1 : Int32))] r4.2).bind fun r5 => some ((0 : Int32), r5.2)))))))) := rfl
-- DeskMachine$FileCalls.unusedBlock(I)I (12,)
set_option maxRecDepth 100000 in
set_option maxHeartbeats 4000000 in
theorem e86_0 (C : xC) (k : xK) (v1 : Int32) (σ : xS) : x_b x_i86 C k 0 [(0, .ref 12), (1, .int v1)] [] σ = ((C 31 [.ref 5] σ).bind fun r1 => ((C 33 [.ref 1, .int (v1 + (5 : Int32))] r1.2).bind fun r2 => k 20 [(0, .ref 12), (1, .int v1), (2, .int r2.1), (3, .int (0 : Int32))] [] r2.2)) := rfl
set_option maxRecDepth 100000 in
set_option maxHeartbeats 4000000 in
theorem e86_20 (C : xC) (k : xK) (v1 v2 v3 : Int32) (σ : xS) : x_b x_i86 C k 20 [(0, .ref 12), (1, .int v1), (2, .int v2), (3, .int v3)] [] σ = (if v2 ≤ v3 then ((C 32 [.ref 5] σ).bind fun r1 => some (r1.1, r1.2)) else (if (10 : Int32) ≤ v3 then ((C 32 [.ref 5] σ).bind fun r2 => some (r2.1, r2.2)) else ((C 33 [.ref 1, .int ((v1 + (6 : Int32)) + v3)] σ).bind fun r3 => ((C 30 [.ref 5, .int r3.1] r3.2).bind fun r4 => k 20 [(0, .ref 12), (1, .int v1), (2, .int v2), (3, .int (v3 + (1 : Int32)))] [] r4.2)))) := rfl
-- DeskMachine$FileCalls.write(I)I (12,)
set_option maxRecDepth 100000 in
set_option maxHeartbeats 4000000 in
theorem e87_0 (C : xC) (k : xK) (v1 : Int32) (σ : xS) : x_b x_i87 C k 0 [(0, .ref 12), (1, .int v1)] [] σ = ((C 33 [.ref 1, .int (v1 + (16 : Int32))] σ).bind fun r1 => (if r1.1 < (10 : Int32) then ((C 84 [.ref 12, .int v1, .int r1.1] r1.2).bind fun r2 => (if r2.1 = 0 then ((C 86 [.ref 12, .int v1] r2.2).bind fun r3 => (if r3.1 = (-1 : Int32) then some ((2 : Int32), r3.2) else ((C 37 [.ref 1, .int ((v1 + (6 : Int32)) + r1.1), .int r3.1] r3.2).bind fun r4 => k 56 [(0, .ref 12), (1, .int v1), (2, .int r1.1)] [] r4.2))) else k 56 [(0, .ref 12), (1, .int v1), (2, .int r1.1)] [] r2.2)) else some ((1 : Int32), r1.2))) := rfl
set_option maxRecDepth 100000 in
set_option maxHeartbeats 4000000 in
theorem e87_56 (C : xC) (k : xK) (v1 v2 : Int32) (σ : xS) : x_b x_i87 C k 56 [(0, .ref 12), (1, .int v1), (2, .int v2)] [] σ = ((C 33 [.ref 1, .int ((v1 + (6 : Int32)) + v2)] σ).bind fun r1 => ((C 34 [.ref 5, .int r1.1, .ref 1, .int (r1.2 12 3)] r1.2).bind fun r2 => ((C 33 [.ref 1, .int (v1 + (5 : Int32))] r2.2).bind fun r3 => (if (v2 + (1 : Int32)) ≤ r3.1 then ((C 37 [.ref 1, .int (v1 + (16 : Int32)), .int (v2 + (1 : Int32))] r3.2).bind fun r4 => some ((0 : Int32), r4.2)) else ((C 37 [.ref 1, .int (v1 + (5 : Int32)), .int (v2 + (1 : Int32))] r3.2).bind fun r5 => ((C 37 [.ref 1, .int (v1 + (16 : Int32)), .int (v2 + (1 : Int32))] r5.2).bind fun r6 => some ((0 : Int32), r6.2))))))) := rfl
-- DeskMachine$FileCalls.make(I)I (12,)
set_option maxRecDepth 100000 in
set_option maxHeartbeats 4000000 in
theorem e88_0 (C : xC) (k : xK) (v1 : Int32) (σ : xS) : x_b x_i88 C k 0 [(0, .ref 12), (1, .int v1)] [] σ = ((C 29 [.ref 5, .ref 13] σ).bind fun r1 => (if r1.1 = (-1 : Int32) then some ((255 : Int32), r1.2) else k 23 [(0, .ref 12), (1, .int v1), (2, .int r1.1), (3, .int (5 : Int32))] [] r1.2)) := rfl
set_option maxRecDepth 100000 in
set_option maxHeartbeats 4000000 in
theorem e88_23 (C : xC) (k : xK) (v1 v2 v3 : Int32) (σ : xS) : x_b x_i88 C k 23 [(0, .ref 12), (1, .int v1), (2, .int v2), (3, .int v3)] [] σ = (if (16 : Int32) ≤ v3 then some (v2, σ) else ((C 37 [.ref 1, .int (v1 + v3), .int (0 : Int32)] σ).bind fun r1 => k 23 [(0, .ref 12), (1, .int v1), (2, .int v2), (3, .int (v3 + (1 : Int32)))] [] r1.2)) := rfl
-- DeskMachine$FileCalls.rename(I)I (12,)
set_option maxRecDepth 100000 in
set_option maxHeartbeats 4000000 in
theorem e89_0 (C : xC) (k : xK) (v1 : Int32) (σ : xS) : x_b x_i89 C k 0 [(0, .ref 12), (1, .int v1)] [] σ = ((C 18 [.ref 5, .ref 13] σ).bind fun r1 => (if r1.1 = (-1 : Int32) then some ((255 : Int32), r1.2) else ((C 79 [.ref 12, .int (v1 + (17 : Int32))] r1.2).bind fun r2 => ((C 27 [.ref 5, .int r1.1, .ref 13] r2.2).bind fun r3 => some ((0 : Int32), r3.2))))) := rfl
-- DeskMachine$FileCalls.answer(II)I (12,)
set_option maxRecDepth 100000 in
set_option maxHeartbeats 4000000 in
theorem e90_0 (C : xC) (k : xK) (v1 v2 : Int32) (σ : xS) : x_b x_i90 C k 0 [(0, .ref 12), (1, .int v1), (2, .int v2)] [] σ = ((C 79 [.ref 12, .int (v2 + (1 : Int32))] σ).bind fun r1 => (if v1 = (15 : Int32) then ((C 81 [.ref 12, .int v2] r1.2).bind fun r10 => some (r10.1, r10.2)) else (if v1 = (16 : Int32) then ((C 82 [.ref 12, .int v2] r1.2).bind fun r9 => some (r9.1, r9.2)) else (if v1 = (17 : Int32) then ((C 83 [.ref 12, .int (0 : Int32)] r1.2).bind fun r8 => some (r8.1, r8.2)) else (if v1 = (18 : Int32) then ((C 83 [.ref 12, .int (r1.2 12 4)] r1.2).bind fun r7 => some (r7.1, r7.2)) else (if v1 = (19 : Int32) then ((C 26 [.ref 5, .ref 13] r1.2).bind fun r6 => (if r6.1 = 0 then some ((255 : Int32), r6.2) else some ((0 : Int32), r6.2))) else (if v1 = (20 : Int32) then ((C 85 [.ref 12, .int v2] r1.2).bind fun r5 => some (r5.1, r5.2)) else (if v1 = (21 : Int32) then ((C 87 [.ref 12, .int v2] r1.2).bind fun r4 => some (r4.1, r4.2)) else (if v1 = (22 : Int32) then ((C 88 [.ref 12, .int v2] r1.2).bind fun r3 => some (r3.1, r3.2)) else (if v1 = (23 : Int32) then ((C 89 [.ref 12, .int v2] r1.2).bind fun r2 => some (r2.1, r2.2)) else some ((0 : Int32), r1.2))))))))))) := rfl
-- DeskMachine.showText(I)V (0,)
set_option maxRecDepth 100000 in
set_option maxHeartbeats 4000000 in
theorem e91_0 (C : xC) (k : xK) (v1 : Int32) (σ : xS) : x_b x_i91 C k 0 [(0, .ref 0), (1, .int v1)] [] σ = k 2 [(0, .ref 0), (1, .int v1), (2, .int (0 : Int32))] [] σ := rfl
set_option maxRecDepth 100000 in
set_option maxHeartbeats 4000000 in
theorem e91_2 (C : xC) (k : xK) (v1 v2 : Int32) (σ : xS) : x_b x_i91 C k 2 [(0, .ref 0), (1, .int v1), (2, .int v2)] [] σ = (if (64 : Int32) ≤ v2 then some (0, σ) else ((C 33 [.ref 1, .int (v1 + v2)] σ).bind fun r1 => (if r1.1 = (36 : Int32) then some (0, r1.2) else ((C 14 [.ref 10, .int r1.1] r1.2).bind fun r2 => k 2 [(0, .ref 0), (1, .int v1), (2, .int (v2 + (1 : Int32)))] [] r2.2)))) := rfl
-- DeskMachine.answerCall(II)I (0,)
set_option maxRecDepth 100000 in
set_option maxHeartbeats 4000000 in
theorem e92_0 (C : xC) (k : xK) (v1 v2 : Int32) (σ : xS) : x_b x_i92 C k 0 [(0, .ref 0), (1, .int v1), (2, .int v2)] [] σ = (if v1 = (1 : Int32) then ((C 6 [.ref 8] σ).bind fun r4 => some (r4.1, r4.2)) else (if v1 = (2 : Int32) then ((C 14 [.ref 10, .int (v2 &&& (255 : Int32))] σ).bind fun r3 => some ((0 : Int32), r3.2)) else (if v1 = (9 : Int32) then ((C 91 [.ref 0, .int v2] σ).bind fun r2 => some ((0 : Int32), r2.2)) else (if v1 = (11 : Int32) then ((C 5 [.ref 8] σ).bind fun r1 => (if r1.1 = 0 then some ((255 : Int32), r1.2) else some ((0 : Int32), r1.2))) else (if v1 = (26 : Int32) then some ((0 : Int32), (x_up σ 12 3 v2)) else some ((0 : Int32), σ)))))) := rfl
-- DeskMachine.callSystem()V (0,)
set_option maxRecDepth 100000 in
set_option maxHeartbeats 4000000 in
theorem e93_0 (C : xC) (k : xK) (σ : xS) : x_b x_i93 C k 0 [(0, .ref 0)] [] σ = (if (σ 4 1) = 0 then some (0, (x_up σ 0 7 (0 : Int32))) else ((C 50 [.ref 3, .int (1 : Int32)] (x_up σ 0 7 (1 : Int32))).bind fun r1 => (if (σ 4 1) < (15 : Int32) then (if (0 : Int32) = 0 then ((C 92 [.ref 0, .int (σ 4 1), .int r1.1] r1.2).bind fun r2 => ((C 70 [.ref 3] (x_up r2.2 4 7 r2.1)).bind fun r3 => some (0, (x_up r3.2 3 3 r3.1)))) else ((C 90 [.ref 12, .int (σ 4 1), .int r1.1] r1.2).bind fun r4 => ((C 70 [.ref 3] (x_up r4.2 4 7 r4.1)).bind fun r5 => some (0, (x_up r5.2 3 3 r5.1))))) else (if (23 : Int32) < (σ 4 1) then (if (0 : Int32) = 0 then ((C 92 [.ref 0, .int (σ 4 1), .int r1.1] r1.2).bind fun r6 => ((C 70 [.ref 3] (x_up r6.2 4 7 r6.1)).bind fun r7 => some (0, (x_up r7.2 3 3 r7.1)))) else ((C 90 [.ref 12, .int (σ 4 1), .int r1.1] r1.2).bind fun r8 => ((C 70 [.ref 3] (x_up r8.2 4 7 r8.1)).bind fun r9 => some (0, (x_up r9.2 3 3 r9.1))))) else (if (1 : Int32) = 0 then ((C 92 [.ref 0, .int (σ 4 1), .int r1.1] r1.2).bind fun r10 => ((C 70 [.ref 3] (x_up r10.2 4 7 r10.1)).bind fun r11 => some (0, (x_up r11.2 3 3 r11.1)))) else ((C 90 [.ref 12, .int (σ 4 1), .int r1.1] r1.2).bind fun r12 => ((C 70 [.ref 3] (x_up r12.2 4 7 r12.1)).bind fun r13 => some (0, (x_up r13.2 3 3 r13.1))))))))) := rfl
-- DeskMachine.stepOfProgram()Z (0,)
set_option maxRecDepth 100000 in
set_option maxHeartbeats 4000000 in
theorem e94_0 (C : xC) (k : xK) (σ : xS) : x_b x_i94 C k 0 [(0, .ref 0)] [] σ = (if (σ 3 3) = (5 : Int32) then (if (σ 4 1) = (1 : Int32) then ((C 5 [.ref 8] σ).bind fun r2 => (if r2.1 = 0 then ((C 93 [.ref 0] r2.2).bind fun r3 => (if (r3.2 3 3) = 0 then some ((1 : Int32), (x_up r3.2 0 7 (0 : Int32))) else some ((1 : Int32), r3.2))) else some ((0 : Int32), (x_up r2.2 0 7 (2 : Int32))))) else ((C 93 [.ref 0] σ).bind fun r1 => (if (r1.2 3 3) = 0 then some ((1 : Int32), (x_up r1.2 0 7 (0 : Int32))) else some ((1 : Int32), r1.2)))) else ((C 78 [.ref 3] σ).bind fun r4 => (if r4.1 = 0 then (if ((x_up r4.2 0 7 (0 : Int32)) 3 3) = 0 then some ((1 : Int32), (x_up (x_up r4.2 0 7 (0 : Int32)) 0 7 (0 : Int32))) else some ((1 : Int32), (x_up r4.2 0 7 (0 : Int32)))) else (if ((x_up r4.2 0 7 (1 : Int32)) 3 3) = 0 then some ((1 : Int32), (x_up (x_up r4.2 0 7 (1 : Int32)) 0 7 (0 : Int32))) else some ((1 : Int32), (x_up r4.2 0 7 (1 : Int32))))))) := rfl
-- DeskMachine.run(I)I (0,)
set_option maxRecDepth 100000 in
set_option maxHeartbeats 4000000 in
theorem e95_0 (C : xC) (k : xK) (v1 : Int32) (σ : xS) : x_b x_i95 C k 0 [(0, .ref 0), (1, .int v1)] [] σ = (if v1 < (1 : Int32) then none else (if v1 ≤ (1000 : Int32) then k 22 [(0, .ref 0), (1, .int v1), (2, .int (0 : Int32))] [] σ else none)) := rfl
set_option maxRecDepth 100000 in
set_option maxHeartbeats 4000000 in
theorem e95_22 (C : xC) (k : xK) (v1 v2 : Int32) (σ : xS) : x_b x_i95 C k 22 [(0, .ref 0), (1, .int v1), (2, .int v2)] [] σ = (if v1 ≤ v2 then some (v1, σ) else (if (σ 0 7) = 0 then ((C 46 [.ref 0] σ).bind fun r2 => (if r2.1 = 0 then some (v2, r2.2) else k 22 [(0, .ref 0), (1, .int v1), (2, .int (v2 + (1 : Int32)))] [] (x_up r2.2 0 8 ((r2.2 0 8) + (1 : Int32))))) else ((C 94 [.ref 0] σ).bind fun r1 => (if r1.1 = 0 then some (v2, r1.2) else k 22 [(0, .ref 0), (1, .int v1), (2, .int (v2 + (1 : Int32)))] [] (x_up r1.2 0 8 ((r1.2 0 8) + (1 : Int32))))))) := rfl
-- DeskMachine.isAddress(I)Z ()
set_option maxRecDepth 100000 in
set_option maxHeartbeats 4000000 in
theorem e96_0 (C : xC) (k : xK) (v0 : Int32) (σ : xS) : x_b x_i96 C k 0 [(0, .int v0)] [] σ = (if v0 < 0 then some ((0 : Int32), σ) else (if (512 : Int32) ≤ v0 then some ((0 : Int32), σ) else some ((1 : Int32), σ))) := rfl
-- DeskMachine.poke(II)Z (0,)
set_option maxRecDepth 100000 in
set_option maxHeartbeats 4000000 in
theorem e97_0 (C : xC) (k : xK) (v1 v2 : Int32) (σ : xS) : x_b x_i97 C k 0 [(0, .ref 0), (1, .int v1), (2, .int v2)] [] σ = ((C 96 [.int v1] σ).bind fun r1 => (if r1.1 = 0 then none else ((C 0 [.int v2] r1.2).bind fun r2 => (if r2.1 = 0 then none else ((C 37 [.ref 1, .int v1, .int v2] r2.2).bind fun r3 => some ((1 : Int32), r3.2)))))) := rfl
-- DeskMachine.peek(I)I (0,)
set_option maxRecDepth 100000 in
set_option maxHeartbeats 4000000 in
theorem e98_0 (C : xC) (k : xK) (v1 : Int32) (σ : xS) : x_b x_i98 C k 0 [(0, .ref 0), (1, .int v1)] [] σ = ((C 96 [.int v1] σ).bind fun r1 => (if r1.1 = 0 then none else ((C 33 [.ref 1, .int v1] r1.2).bind fun r2 => some (r2.1, r2.2)))) := rfl
-- DeskMachine.isPlaceOnDisk(II)Z ()
set_option maxRecDepth 100000 in
set_option maxHeartbeats 4000000 in
theorem e99_0 (C : xC) (k : xK) (v0 v1 : Int32) (σ : xS) : x_b x_i99 C k 0 [(0, .int v0), (1, .int v1)] [] σ = (if v0 < 0 then some ((0 : Int32), σ) else (if (32 : Int32) ≤ v0 then some ((0 : Int32), σ) else (if v1 < 0 then some ((0 : Int32), σ) else (if (16 : Int32) ≤ v1 then some ((0 : Int32), σ) else some ((1 : Int32), σ))))) := rfl
-- DeskMachine.disk(II)I (0,)
set_option maxRecDepth 100000 in
set_option maxHeartbeats 4000000 in
theorem e100_0 (C : xC) (k : xK) (v1 v2 : Int32) (σ : xS) : x_b x_i100 C k 0 [(0, .ref 0), (1, .int v1), (2, .int v2)] [] σ = ((C 99 [.int v1, .int v2] σ).bind fun r1 => (if r1.1 = 0 then none else ((C 13 [.ref 5, .int v1, .int v2] r1.2).bind fun r2 => some (r2.1, r2.2)))) := rfl
-- DeskMachine.burn(III)Z (0,)
set_option maxRecDepth 100000 in
set_option maxHeartbeats 4000000 in
theorem e101_0 (C : xC) (k : xK) (v1 v2 v3 : Int32) (σ : xS) : x_b x_i101 C k 0 [(0, .ref 0), (1, .int v1), (2, .int v2), (3, .int v3)] [] σ = ((C 99 [.int v1, .int v2] σ).bind fun r1 => (if r1.1 = 0 then none else ((C 0 [.int v3] r1.2).bind fun r2 => (if r2.1 = 0 then none else ((C 24 [.ref 5, .int v1, .int v2, .int v3] r2.2).bind fun r3 => some ((1 : Int32), r3.2)))))) := rfl
-- DeskMachine$Screen.last(I)I (10,)
set_option maxRecDepth 100000 in
set_option maxHeartbeats 4000000 in
theorem e102_0 (C : xC) (k : xK) (v1 : Int32) (σ : xS) : x_b x_i102 C k 0 [(0, .ref 10), (1, .int v1)] [] σ = (if v1 < 0 then some ((-1 : Int32), σ) else (if (64 : Int32) ≤ v1 then some ((-1 : Int32), σ) else (if v1 < (σ 10 1) then (if ((((σ 10 1) - (1 : Int32)) - v1) &&& (63 : Int32)) < 0 ∨ 64 ≤ ((((σ 10 1) - (1 : Int32)) - v1) &&& (63 : Int32)).toNatClampNeg then none else some ((σ 11 ((((σ 10 1) - (1 : Int32)) - v1) &&& (63 : Int32)).toNatClampNeg), σ)) else some ((-1 : Int32), σ)))) := rfl
-- DeskMachine.shown(I)I (0,)
set_option maxRecDepth 100000 in
set_option maxHeartbeats 4000000 in
theorem e103_0 (C : xC) (k : xK) (v1 : Int32) (σ : xS) : x_b x_i103 C k 0 [(0, .ref 0), (1, .int v1)] [] σ = ((C 102 [.ref 10, .int v1] σ).bind fun r1 => some (r1.1, r1.2)) := rfl
-- DeskMachine.register(I)I (0,)
set_option maxRecDepth 100000 in
set_option maxHeartbeats 4000000 in
theorem e104_0 (C : xC) (k : xK) (v1 : Int32) (σ : xS) : x_b x_i104 C k 0 [(0, .ref 0), (1, .int v1)] [] σ = (if v1 = (6 : Int32) then ((C 75 [.ref 3] σ).bind fun r1 => some (r1.1, r1.2)) else (if v1 = (7 : Int32) then (if v1 < 0 then some ((-1 : Int32), σ) else (if (8 : Int32) ≤ v1 then some ((-1 : Int32), σ) else (if v1 < 0 ∨ 8 ≤ v1.toNatClampNeg then none else some ((σ 4 v1.toNatClampNeg), σ)))) else (if v1 = (8 : Int32) then some ((σ 3 2), σ) else (if v1 = (9 : Int32) then some ((σ 3 3), σ) else (if v1 = (10 : Int32) then some ((σ 12 3), σ) else (if v1 < 0 then some ((-1 : Int32), σ) else (if (8 : Int32) ≤ v1 then some ((-1 : Int32), σ) else (if v1 < 0 ∨ 8 ≤ v1.toNatClampNeg then none else some ((σ 4 v1.toNatClampNeg), σ))))))))) := rfl
-- DeskMachine.about(I)I (0,)
set_option maxRecDepth 100000 in
set_option maxHeartbeats 4000000 in
theorem e105_0 (C : xC) (k : xK) (v1 : Int32) (σ : xS) : x_b x_i105 C k 0 [(0, .ref 0), (1, .int v1)] [] σ = (if v1 = (0 : Int32) then some ((σ 0 7), σ) else (if v1 = (1 : Int32) then ((C 3 [.ref 8] σ).bind fun r1 => some (r1.1, r1.2)) else (if v1 = (2 : Int32) then some ((σ 10 1), σ) else (if v1 = (3 : Int32) then some ((σ 0 8), σ) else (if v1 = (4 : Int32) then some ((σ 14 7), σ) else some ((-1 : Int32), σ)))))) := rfl
-- DeskMachineModel.key(I)I (19,)
set_option maxRecDepth 100000 in
set_option maxHeartbeats 4000000 in
theorem e106_0 (C : xC) (k : xK) (v1 : Int32) (σ : xS) : x_b x_i106 C k 0 [(0, .ref 19), (1, .int v1)] [] σ = (if v1 < 0 then k 30 [(0, .ref 19), (1, .int v1)] [.int (1 : Int32), .ref 19] σ else (if v1 ≤ (255 : Int32) then (if (σ 19 13) = (40 : Int32) then k 30 [(0, .ref 19), (1, .int v1)] [.int (2 : Int32), .ref 19] σ else k 30 [(0, .ref 19), (1, .int v1)] [.int (0 : Int32), .ref 19] σ) else k 30 [(0, .ref 19), (1, .int v1)] [.int (1 : Int32), .ref 19] σ)) := rfl
set_option maxRecDepth 100000 in
set_option maxHeartbeats 4000000 in
theorem e106_30 (C : xC) (k : xK) (v1 s0 : Int32) (σ : xS) : x_b x_i106 C k 30 [(0, .ref 19), (1, .int v1)] [.int s0, .ref 19] σ = (if ((x_up σ 19 0 s0) 19 0) = 0 then (if ((x_up σ 19 0 s0) 19 13) < 0 ∨ 40 ≤ ((x_up σ 19 0 s0) 19 13).toNatClampNeg then none else some (((x_up (x_up (x_up σ 19 0 s0) 23 (((x_up σ 19 0 s0) 19 13).toNatClampNeg) v1) 19 13 (((x_up (x_up σ 19 0 s0) 23 (((x_up σ 19 0 s0) 19 13).toNatClampNeg) v1) 19 13) + (1 : Int32))) 19 13), (x_up (x_up (x_up σ 19 0 s0) 23 (((x_up σ 19 0 s0) 19 13).toNatClampNeg) v1) 19 13 (((x_up (x_up σ 19 0 s0) 23 (((x_up σ 19 0 s0) 19 13).toNatClampNeg) v1) 19 13) + (1 : Int32))))) else some (((x_up σ 19 0 s0) 19 13), (x_up σ 19 0 s0))) := rfl
-- DeskMachineModel.takeKey()I (19,)
set_option maxRecDepth 100000 in
set_option maxHeartbeats 4000000 in
theorem e107_0 (C : xC) (k : xK) (σ : xS) : x_b x_i107 C k 0 [(0, .ref 19)] [] σ = k 19 [(0, .ref 19), (1, .int (σ 23 0)), (2, .int (0 : Int32))] [] (x_up σ 19 13 ((σ 19 13) - (1 : Int32))) := rfl
set_option maxRecDepth 100000 in
set_option maxHeartbeats 4000000 in
theorem e107_19 (C : xC) (k : xK) (v1 v2 : Int32) (σ : xS) : x_b x_i107 C k 19 [(0, .ref 19), (1, .int v1), (2, .int v2)] [] σ = (if (σ 19 13) ≤ v2 then some (v1, σ) else (if (v2 + (1 : Int32)) < 0 ∨ 40 ≤ (v2 + (1 : Int32)).toNatClampNeg then none else (if v2 < 0 ∨ 40 ≤ v2.toNatClampNeg then none else k 19 [(0, .ref 19), (1, .int v1), (2, .int (v2 + (1 : Int32)))] [] (x_up σ 23 (v2.toNatClampNeg) (σ 23 (v2 + (1 : Int32)).toNatClampNeg))))) := rfl
-- DeskMachineModel.begins(I)I (19,)
set_option maxRecDepth 100000 in
set_option maxHeartbeats 4000000 in
theorem e108_0 (C : xC) (k : xK) (v1 : Int32) (σ : xS) : x_b x_i108 C k 0 [(0, .ref 19), (1, .int v1)] [] σ = k 4 [(0, .ref 19), (1, .int v1), (2, .int (0 : Int32)), (3, .int (0 : Int32))] [] σ := rfl
set_option maxRecDepth 100000 in
set_option maxHeartbeats 4000000 in
theorem e108_4 (C : xC) (k : xK) (v1 v2 v3 : Int32) (σ : xS) : x_b x_i108 C k 4 [(0, .ref 19), (1, .int v1), (2, .int v2), (3, .int v3)] [] σ = (if v1 < v3 then some (v2, σ) else k 9 [(0, .ref 19), (1, .int v1), (2, .int v2), (3, .int v3)] [] σ) := rfl
set_option maxRecDepth 100000 in
set_option maxHeartbeats 4000000 in
theorem e108_9 (C : xC) (k : xK) (v1 v2 v3 : Int32) (σ : xS) : x_b x_i108 C k 9 [(0, .ref 19), (1, .int v1), (2, .int v2), (3, .int v3)] [] σ = (if v3 ≤ 0 then k 38 [(0, .ref 19), (1, .int v1), (2, .int v2), (3, .int v3)] [] σ else (if (σ 19 15) ≤ v2 then k 38 [(0, .ref 19), (1, .int v1), (2, .int v2), (3, .int v3)] [] σ else (if v2 < 0 ∨ 20 ≤ v2.toNatClampNeg then none else (if (σ 24 v2.toNatClampNeg) = (32 : Int32) then k 38 [(0, .ref 19), (1, .int v1), (2, .int v2), (3, .int v3)] [] σ else k 9 [(0, .ref 19), (1, .int v1), (2, .int (v2 + (1 : Int32))), (3, .int v3)] [] σ)))) := rfl
set_option maxRecDepth 100000 in
set_option maxHeartbeats 4000000 in
theorem e108_38 (C : xC) (k : xK) (v1 v2 v3 : Int32) (σ : xS) : x_b x_i108 C k 38 [(0, .ref 19), (1, .int v1), (2, .int v2), (3, .int v3)] [] σ = (if (σ 19 15) ≤ v2 then k 4 [(0, .ref 19), (1, .int v1), (2, .int v2), (3, .int (v3 + (1 : Int32)))] [] σ else (if v2 < 0 ∨ 20 ≤ v2.toNatClampNeg then none else (if (σ 24 v2.toNatClampNeg) = (32 : Int32) then k 38 [(0, .ref 19), (1, .int v1), (2, .int (v2 + (1 : Int32))), (3, .int v3)] [] σ else k 4 [(0, .ref 19), (1, .int v1), (2, .int v2), (3, .int (v3 + (1 : Int32)))] [] σ))) := rfl
-- DeskMachineModel.there(I)Z (19,)
set_option maxRecDepth 100000 in
set_option maxHeartbeats 4000000 in
theorem e109_0 (C : xC) (k : xK) (v1 : Int32) (σ : xS) : x_b x_i109 C k 0 [(0, .ref 19), (1, .int v1)] [] σ = ((C 108 [.ref 19, .int v1] σ).bind fun r1 => (if (r1.2 19 15) ≤ r1.1 then some ((0 : Int32), r1.2) else some ((1 : Int32), r1.2))) := rfl
-- DeskMachineModel.character(II)I (19,)
set_option maxRecDepth 100000 in
set_option maxHeartbeats 4000000 in
theorem e110_0 (C : xC) (k : xK) (v1 v2 : Int32) (σ : xS) : x_b x_i110 C k 0 [(0, .ref 19), (1, .int v1), (2, .int v2)] [] σ = ((C 108 [.ref 19, .int v1] σ).bind fun r1 => k 9 [(0, .ref 19), (2, .int v2), (3, .int r1.1), (4, .int (0 : Int32))] [] r1.2) := rfl
set_option maxRecDepth 100000 in
set_option maxHeartbeats 4000000 in
theorem e110_9 (C : xC) (k : xK) (v2 v3 v4 : Int32) (σ : xS) : x_b x_i110 C k 9 [(0, .ref 19), (2, .int v2), (3, .int v3), (4, .int v4)] [] σ = (if v2 ≤ v4 then (if (σ 19 15) ≤ v3 then some ((32 : Int32), σ) else (if v3 < 0 ∨ 20 ≤ v3.toNatClampNeg then none else some ((σ 24 v3.toNatClampNeg), σ))) else (if (σ 19 15) ≤ v3 then (if (σ 19 15) ≤ v3 then some ((32 : Int32), σ) else (if v3 < 0 ∨ 20 ≤ v3.toNatClampNeg then none else some ((σ 24 v3.toNatClampNeg), σ))) else (if v3 < 0 ∨ 20 ≤ v3.toNatClampNeg then none else (if (σ 24 v3.toNatClampNeg) = (32 : Int32) then (if (σ 19 15) ≤ v3 then some ((32 : Int32), σ) else (if v3 < 0 ∨ 20 ≤ v3.toNatClampNeg then none else some ((σ 24 v3.toNatClampNeg), σ))) else k 9 [(0, .ref 19), (2, .int v2), (3, .int (v3 + (1 : Int32))), (4, .int (v4 + (1 : Int32)))] [] σ)))) := rfl
-- DeskMachineModel.isWord(IIII)Z (19,)
set_option maxRecDepth 100000 in
set_option maxHeartbeats 4000000 in
theorem e111_0 (C : xC) (k : xK) (v1 v2 v3 v4 : Int32) (σ : xS) : x_b x_i111 C k 0 [(0, .ref 19), (1, .int v1), (2, .int v2), (3, .int v3), (4, .int v4)] [] σ = ((C 110 [.ref 19, .int (0 : Int32), .int (0 : Int32)] σ).bind fun r1 => (if r1.1 = v1 then ((C 110 [.ref 19, .int (0 : Int32), .int (1 : Int32)] r1.2).bind fun r2 => (if r2.1 = v2 then ((C 110 [.ref 19, .int (0 : Int32), .int (2 : Int32)] r2.2).bind fun r3 => (if r3.1 = v3 then ((C 110 [.ref 19, .int (0 : Int32), .int (3 : Int32)] r3.2).bind fun r4 => (if r4.1 = v4 then ((C 110 [.ref 19, .int (0 : Int32), .int (4 : Int32)] r4.2).bind fun r5 => (if r5.1 = (32 : Int32) then some ((1 : Int32), r5.2) else some ((0 : Int32), r5.2))) else some ((0 : Int32), r4.2))) else some ((0 : Int32), r3.2))) else some ((0 : Int32), r2.2))) else some ((0 : Int32), r1.2))) := rfl
-- DeskMachineModel.isFree(I)Z (19,)
set_option maxRecDepth 100000 in
set_option maxHeartbeats 4000000 in
theorem e112_0 (C : xC) (k : xK) (v1 : Int32) (σ : xS) : x_b x_i112 C k 0 [(0, .ref 19), (1, .int v1)] [] σ = (if ((16 : Int32) * v1) < 0 ∨ 512 ≤ ((16 : Int32) * v1).toNatClampNeg then none else (if (σ 21 ((16 : Int32) * v1).toNatClampNeg) = (229 : Int32) then some ((1 : Int32), σ) else some ((0 : Int32), σ))) := rfl
-- DeskMachineModel.show(I)V (19,)
set_option maxRecDepth 100000 in
set_option maxHeartbeats 4000000 in
theorem e113_0 (C : xC) (k : xK) (v1 : Int32) (σ : xS) : x_b x_i113 C k 0 [(0, .ref 19), (1, .int v1)] [] σ = (if ((σ 19 17) - (σ 19 17) / (64 : Int32) * (64 : Int32)) < 0 ∨ 64 ≤ ((σ 19 17) - (σ 19 17) / (64 : Int32) * (64 : Int32)).toNatClampNeg then none else some (0, (x_up (x_up σ 25 (((σ 19 17) - (σ 19 17) / (64 : Int32) * (64 : Int32)).toNatClampNeg) v1) 19 17 (((x_up σ 25 (((σ 19 17) - (σ 19 17) / (64 : Int32) * (64 : Int32)).toNatClampNeg) v1) 19 17) + (1 : Int32))))) := rfl
-- DeskMachineModel.lists()V (19,)
set_option maxRecDepth 100000 in
set_option maxHeartbeats 4000000 in
theorem e114_0 (C : xC) (k : xK) (σ : xS) : x_b x_i114 C k 0 [(0, .ref 19)] [] σ = k 2 [(0, .ref 19), (1, .int (0 : Int32))] [] σ := rfl
set_option maxRecDepth 100000 in
set_option maxHeartbeats 4000000 in
theorem e114_2 (C : xC) (k : xK) (v1 : Int32) (σ : xS) : x_b x_i114 C k 2 [(0, .ref 19), (1, .int v1)] [] σ = (if (8 : Int32) ≤ v1 then some (0, σ) else k 10 [(0, .ref 19), (1, .int v1), (2, .int (1 : Int32))] [] σ) := rfl
set_option maxRecDepth 100000 in
set_option maxHeartbeats 4000000 in
theorem e114_10 (C : xC) (k : xK) (v1 v2 : Int32) (σ : xS) : x_b x_i114 C k 10 [(0, .ref 19), (1, .int v1), (2, .int v2)] [] σ = (if (6 : Int32) ≤ v2 then k 2 [(0, .ref 19), (1, .int (v1 + (1 : Int32)))] [] σ else ((C 112 [.ref 19, .int v1] σ).bind fun r1 => (if r1.1 = 0 then (if (5 : Int32) ≤ v2 then ((C 113 [.ref 19, .int (32 : Int32)] r1.2).bind fun r2 => k 10 [(0, .ref 19), (1, .int v1), (2, .int (v2 + (1 : Int32)))] [] r2.2) else (if (((16 : Int32) * v1) + v2) < 0 ∨ 512 ≤ (((16 : Int32) * v1) + v2).toNatClampNeg then none else ((C 113 [.ref 19, .int (r1.2 21 (((16 : Int32) * v1) + v2).toNatClampNeg)] r1.2).bind fun r3 => k 10 [(0, .ref 19), (1, .int v1), (2, .int (v2 + (1 : Int32)))] [] r3.2))) else k 2 [(0, .ref 19), (1, .int (v1 + (1 : Int32)))] [] r1.2))) := rfl
-- DeskMachineModel.nameOf(I)V (19,)
set_option maxRecDepth 100000 in
set_option maxHeartbeats 4000000 in
theorem e115_0 (C : xC) (k : xK) (v1 : Int32) (σ : xS) : x_b x_i115 C k 0 [(0, .ref 19), (1, .int v1)] [] σ = k 2 [(0, .ref 19), (1, .int v1), (2, .int (0 : Int32))] [] σ := rfl
set_option maxRecDepth 100000 in
set_option maxHeartbeats 4000000 in
theorem e115_2 (C : xC) (k : xK) (v1 v2 : Int32) (σ : xS) : x_b x_i115 C k 2 [(0, .ref 19), (1, .int v1), (2, .int v2)] [] σ = (if (4 : Int32) ≤ v2 then some (0, σ) else ((C 110 [.ref 19, .int v1, .int v2] σ).bind fun r1 => (if v2 < 0 ∨ 4 ≤ v2.toNatClampNeg then none else k 2 [(0, .ref 19), (1, .int v1), (2, .int (v2 + (1 : Int32)))] [] (x_up r1.2 26 (v2.toNatClampNeg) r1.1)))) := rfl
-- DeskMachineModel.find(IZ)I (19,)
set_option maxRecDepth 100000 in
set_option maxHeartbeats 4000000 in
theorem e116_0 (C : xC) (k : xK) (v1 v2 : Int32) (σ : xS) : x_b x_i116 C k 0 [(0, .ref 19), (1, .int v1), (2, .int v2)] [] σ = k 2 [(0, .ref 19), (2, .int v2), (3, .int v1)] [] σ := rfl
set_option maxRecDepth 100000 in
set_option maxHeartbeats 4000000 in
theorem e116_2 (C : xC) (k : xK) (v2 v3 : Int32) (σ : xS) : x_b x_i116 C k 2 [(0, .ref 19), (2, .int v2), (3, .int v3)] [] σ = (if (8 : Int32) ≤ v3 then some ((-1 : Int32), σ) else ((C 112 [.ref 19, .int v3] σ).bind fun r1 => (if r1.1 = 0 then k 26 [(0, .ref 19), (2, .int v2), (3, .int v3), (4, .int (1 : Int32)), (5, .int (0 : Int32))] [] r1.2 else k 26 [(0, .ref 19), (2, .int v2), (3, .int v3), (4, .int (0 : Int32)), (5, .int (0 : Int32))] [] r1.2))) := rfl
set_option maxRecDepth 100000 in
set_option maxHeartbeats 4000000 in
theorem e116_26 (C : xC) (k : xK) (v2 v3 v4 v5 : Int32) (σ : xS) : x_b x_i116 C k 26 [(0, .ref 19), (2, .int v2), (3, .int v3), (4, .int v4), (5, .int v5)] [] σ = (if (4 : Int32) ≤ v5 then (if v4 = 0 then k 2 [(0, .ref 19), (2, .int v2), (3, .int (v3 + (1 : Int32)))] [] σ else some (v3, σ)) else (if v4 = 0 then k 26 [(0, .ref 19), (2, .int v2), (3, .int v3), (4, .int (0 : Int32)), (5, .int (v5 + (1 : Int32)))] [] σ else (if ((((16 : Int32) * v3) + (1 : Int32)) + v5) < 0 ∨ 512 ≤ ((((16 : Int32) * v3) + (1 : Int32)) + v5).toNatClampNeg then none else (if v5 < 0 ∨ 4 ≤ v5.toNatClampNeg then none else (if (σ 21 ((((16 : Int32) * v3) + (1 : Int32)) + v5).toNatClampNeg) = (σ 26 v5.toNatClampNeg) then k 26 [(0, .ref 19), (2, .int v2), (3, .int v3), (4, .int (1 : Int32)), (5, .int (v5 + (1 : Int32)))] [] σ else (if v2 = 0 then k 26 [(0, .ref 19), (2, .int v2), (3, .int v3), (4, .int (0 : Int32)), (5, .int (v5 + (1 : Int32)))] [] σ else (if v5 < 0 ∨ 4 ≤ v5.toNatClampNeg then none else (if (σ 26 v5.toNatClampNeg) = (63 : Int32) then k 26 [(0, .ref 19), (2, .int v2), (3, .int v3), (4, .int (1 : Int32)), (5, .int (v5 + (1 : Int32)))] [] σ else k 26 [(0, .ref 19), (2, .int v2), (3, .int v3), (4, .int (0 : Int32)), (5, .int (v5 + (1 : Int32)))] [] σ)))))))) := rfl
-- DeskMachineModel.erases()I (19,)
set_option maxRecDepth 100000 in
set_option maxHeartbeats 4000000 in
theorem e117_0 (C : xC) (k : xK) (σ : xS) : x_b x_i117 C k 0 [(0, .ref 19)] [] σ = ((C 116 [.ref 19, .int (0 : Int32), .int (1 : Int32)] σ).bind fun r1 => k 9 [(0, .ref 19), (1, .int (0 : Int32)), (2, .int r1.1)] [] r1.2) := rfl
set_option maxRecDepth 100000 in
set_option maxHeartbeats 4000000 in
theorem e117_9 (C : xC) (k : xK) (v1 v2 : Int32) (σ : xS) : x_b x_i117 C k 9 [(0, .ref 19), (1, .int v1), (2, .int v2)] [] σ = (if v2 = (-1 : Int32) then some (v1, σ) else (if ((16 : Int32) * v2) < 0 ∨ 512 ≤ ((16 : Int32) * v2).toNatClampNeg then none else ((C 116 [.ref 19, .int v2, .int (1 : Int32)] (x_up σ 21 (((16 : Int32) * v2).toNatClampNeg) (229 : Int32))).bind fun r1 => k 9 [(0, .ref 19), (1, .int (v1 + (1 : Int32))), (2, .int r1.1)] [] r1.2))) := rfl
-- DeskMachineModel.firstFree()I (19,)
set_option maxRecDepth 100000 in
set_option maxHeartbeats 4000000 in
theorem e118_0 (C : xC) (k : xK) (σ : xS) : x_b x_i118 C k 0 [(0, .ref 19)] [] σ = k 2 [(0, .ref 19), (1, .int (0 : Int32))] [] σ := rfl
set_option maxRecDepth 100000 in
set_option maxHeartbeats 4000000 in
theorem e118_2 (C : xC) (k : xK) (v1 : Int32) (σ : xS) : x_b x_i118 C k 2 [(0, .ref 19), (1, .int v1)] [] σ = (if (8 : Int32) ≤ v1 then some ((-1 : Int32), σ) else ((C 112 [.ref 19, .int v1] σ).bind fun r1 => (if r1.1 = 0 then k 2 [(0, .ref 19), (1, .int (v1 + (1 : Int32)))] [] r1.2 else some (v1, r1.2)))) := rfl
-- DeskMachineModel.makes()I (19,)
set_option maxRecDepth 100000 in
set_option maxHeartbeats 4000000 in
theorem e119_0 (C : xC) (k : xK) (σ : xS) : x_b x_i119 C k 0 [(0, .ref 19)] [] σ = ((C 118 [.ref 19] σ).bind fun r1 => k 7 [(0, .ref 19), (1, .int r1.1), (2, .int (0 : Int32))] [] r1.2) := rfl
set_option maxRecDepth 100000 in
set_option maxHeartbeats 4000000 in
theorem e119_7 (C : xC) (k : xK) (v1 v2 : Int32) (σ : xS) : x_b x_i119 C k 7 [(0, .ref 19), (1, .int v1), (2, .int v2)] [] σ = (if (16 : Int32) ≤ v2 then some (v1, σ) else (if v1 = (-1 : Int32) then some (v1, σ) else (if v2 ≤ 0 then (if (((16 : Int32) * v1) + v2) < 0 ∨ 512 ≤ (((16 : Int32) * v1) + v2).toNatClampNeg then none else k 7 [(0, .ref 19), (1, .int v1), (2, .int (v2 + (1 : Int32)))] [] (x_up σ 21 ((((16 : Int32) * v1) + v2).toNatClampNeg) (0 : Int32))) else (if (5 : Int32) ≤ v2 then (if (((16 : Int32) * v1) + v2) < 0 ∨ 512 ≤ (((16 : Int32) * v1) + v2).toNatClampNeg then none else k 7 [(0, .ref 19), (1, .int v1), (2, .int (v2 + (1 : Int32)))] [] (x_up σ 21 ((((16 : Int32) * v1) + v2).toNatClampNeg) (0 : Int32))) else (if (v2 - (1 : Int32)) < 0 ∨ 4 ≤ (v2 - (1 : Int32)).toNatClampNeg then none else (if (((16 : Int32) * v1) + v2) < 0 ∨ 512 ≤ (((16 : Int32) * v1) + v2).toNatClampNeg then none else k 7 [(0, .ref 19), (1, .int v1), (2, .int (v2 + (1 : Int32)))] [] (x_up σ 21 ((((16 : Int32) * v1) + v2).toNatClampNeg) (σ 26 (v2 - (1 : Int32)).toNatClampNeg)))))))) := rfl
-- DeskMachineModel.least(II)I ()
set_option maxRecDepth 100000 in
set_option maxHeartbeats 4000000 in
theorem e120_0 (C : xC) (k : xK) (v0 v1 : Int32) (σ : xS) : x_b x_i120 C k 0 [(0, .int v0), (1, .int v1)] [] σ = (if v1 ≤ v0 then some (v1, σ) else some (v0, σ)) := rfl
-- DeskMachineModel.used(I)Z (19,)
set_option maxRecDepth 100000 in
set_option maxHeartbeats 4000000 in
theorem e121_0 (C : xC) (k : xK) (v1 : Int32) (σ : xS) : x_b x_i121 C k 0 [(0, .ref 19), (1, .int v1)] [] σ = k 4 [(0, .ref 19), (1, .int v1), (2, .int (0 : Int32)), (3, .int (0 : Int32))] [] σ := rfl
set_option maxRecDepth 100000 in
set_option maxHeartbeats 4000000 in
theorem e121_4 (C : xC) (k : xK) (v1 v2 v3 : Int32) (σ : xS) : x_b x_i121 C k 4 [(0, .ref 19), (1, .int v1), (2, .int v2), (3, .int v3)] [] σ = (if (8 : Int32) ≤ v3 then (if v2 = 0 ∨ v2 = 1 then some (v2, σ) else none) else k 13 [(0, .ref 19), (1, .int v1), (2, .int v2), (3, .int v3), (4, .int (0 : Int32))] [] σ) := rfl
set_option maxRecDepth 100000 in
set_option maxHeartbeats 4000000 in
theorem e121_13 (C : xC) (k : xK) (v1 v2 v3 v4 : Int32) (σ : xS) : x_b x_i121 C k 13 [(0, .ref 19), (1, .int v1), (2, .int v2), (3, .int v3), (4, .int v4)] [] σ = (if (((16 : Int32) * v3) + (5 : Int32)) < 0 ∨ 512 ≤ (((16 : Int32) * v3) + (5 : Int32)).toNatClampNeg then none else ((C 120 [.int (σ 21 (((16 : Int32) * v3) + (5 : Int32)).toNatClampNeg), .int (10 : Int32)] σ).bind fun r1 => (if r1.1 ≤ v4 then k 4 [(0, .ref 19), (1, .int v1), (2, .int v2), (3, .int (v3 + (1 : Int32)))] [] r1.2 else (if v2 = 0 then ((C 112 [.ref 19, .int v3] r1.2).bind fun r2 => (if r2.1 = 0 then (if ((((16 : Int32) * v3) + (6 : Int32)) + v4) < 0 ∨ 512 ≤ ((((16 : Int32) * v3) + (6 : Int32)) + v4).toNatClampNeg then none else (if (r2.2 21 ((((16 : Int32) * v3) + (6 : Int32)) + v4).toNatClampNeg) = v1 then k 13 [(0, .ref 19), (1, .int v1), (2, .int (1 : Int32)), (3, .int v3), (4, .int (v4 + (1 : Int32)))] [] r2.2 else k 13 [(0, .ref 19), (1, .int v1), (2, .int (0 : Int32)), (3, .int v3), (4, .int (v4 + (1 : Int32)))] [] r2.2)) else k 13 [(0, .ref 19), (1, .int v1), (2, .int (0 : Int32)), (3, .int v3), (4, .int (v4 + (1 : Int32)))] [] r2.2)) else k 13 [(0, .ref 19), (1, .int v1), (2, .int (1 : Int32)), (3, .int v3), (4, .int (v4 + (1 : Int32)))] [] r1.2)))) := rfl
-- DeskMachineModel.get(I)I (19,)
set_option maxRecDepth 100000 in
set_option maxHeartbeats 4000000 in
theorem e122_0 (C : xC) (k : xK) (v1 : Int32) (σ : xS) : x_b x_i122 C k 0 [(0, .ref 19), (1, .int v1)] [] σ = (if (v1 &&& (511 : Int32)) < 0 ∨ 512 ≤ (v1 &&& (511 : Int32)).toNatClampNeg then none else some ((σ 20 (v1 &&& (511 : Int32)).toNatClampNeg), σ)) := rfl
-- DeskMachineModel.freeBlock(I)I (19,)
set_option maxRecDepth 100000 in
set_option maxHeartbeats 4000000 in
theorem e123_0 (C : xC) (k : xK) (v1 : Int32) (σ : xS) : x_b x_i123 C k 0 [(0, .ref 19), (1, .int v1)] [] σ = k 3 [(0, .ref 19), (1, .int v1), (2, .int (8 : Int32))] [] σ := rfl
set_option maxRecDepth 100000 in
set_option maxHeartbeats 4000000 in
theorem e123_3 (C : xC) (k : xK) (v1 v2 : Int32) (σ : xS) : x_b x_i123 C k 3 [(0, .ref 19), (1, .int v1), (2, .int v2)] [] σ = (if (32 : Int32) ≤ v2 then some ((-1 : Int32), σ) else ((C 121 [.ref 19, .int v2] σ).bind fun r1 => k 18 [(0, .ref 19), (1, .int v1), (2, .int v2), (3, .int r1.1), (4, .int (0 : Int32))] [] r1.2)) := rfl
set_option maxRecDepth 100000 in
set_option maxHeartbeats 4000000 in
theorem e123_18 (C : xC) (k : xK) (v1 v2 v3 v4 : Int32) (σ : xS) : x_b x_i123 C k 18 [(0, .ref 19), (1, .int v1), (2, .int v2), (3, .int v3), (4, .int v4)] [] σ = (if v1 = (-1 : Int32) then (if v3 = 0 then some (v2, σ) else k 3 [(0, .ref 19), (1, .int v1), (2, .int (v2 + (1 : Int32)))] [] σ) else ((C 122 [.ref 19, .int (v1 + (5 : Int32))] σ).bind fun r1 => ((C 120 [.int r1.1, .int (10 : Int32)] r1.2).bind fun r2 => (if r2.1 ≤ v4 then (if v3 = 0 then some (v2, r2.2) else k 3 [(0, .ref 19), (1, .int v1), (2, .int (v2 + (1 : Int32)))] [] r2.2) else (if v3 = 0 then ((C 122 [.ref 19, .int ((v1 + (6 : Int32)) + v4)] r2.2).bind fun r3 => (if r3.1 = v2 then k 18 [(0, .ref 19), (1, .int v1), (2, .int v2), (3, .int (1 : Int32)), (4, .int (v4 + (1 : Int32)))] [] r3.2 else k 18 [(0, .ref 19), (1, .int v1), (2, .int v2), (3, .int (0 : Int32)), (4, .int (v4 + (1 : Int32)))] [] r3.2)) else k 18 [(0, .ref 19), (1, .int v1), (2, .int v2), (3, .int (1 : Int32)), (4, .int (v4 + (1 : Int32)))] [] r2.2))))) := rfl
-- DeskMachineModel.saves(I)Z (19,)
set_option maxRecDepth 100000 in
set_option maxHeartbeats 4000000 in
theorem e124_0 (C : xC) (k : xK) (v1 : Int32) (σ : xS) : x_b x_i124 C k 0 [(0, .ref 19), (1, .int v1)] [] σ = ((C 116 [.ref 19, .int (0 : Int32), .int (0 : Int32)] σ).bind fun r1 => (if r1.1 = (-1 : Int32) then ((C 119 [.ref 19] r1.2).bind fun r2 => (if r2.1 = (-1 : Int32) then some ((0 : Int32), r2.2) else k 39 [(0, .ref 19), (1, .int v1), (3, .int r2.1), (4, .int (0 : Int32))] [] r2.2)) else (if ((16 : Int32) * r1.1) < 0 ∨ 512 ≤ ((16 : Int32) * r1.1).toNatClampNeg then none else ((C 119 [.ref 19] (x_up r1.2 21 (((16 : Int32) * r1.1).toNatClampNeg) (229 : Int32))).bind fun r3 => (if r3.1 = (-1 : Int32) then some ((0 : Int32), r3.2) else k 39 [(0, .ref 19), (1, .int v1), (3, .int r3.1), (4, .int (0 : Int32))] [] r3.2))))) := rfl
set_option maxRecDepth 100000 in
set_option maxHeartbeats 4000000 in
theorem e124_39 (C : xC) (k : xK) (v1 v3 v4 : Int32) (σ : xS) : x_b x_i124 C k 39 [(0, .ref 19), (1, .int v1), (3, .int v3), (4, .int v4)] [] σ = (if v1 ≤ v4 then some ((1 : Int32), σ) else ((C 123 [.ref 19, .int (-1 : Int32)] σ).bind fun r1 => (if r1.1 = (-1 : Int32) then some ((0 : Int32), r1.2) else (if ((((16 : Int32) * v3) + (6 : Int32)) + v4) < 0 ∨ 512 ≤ ((((16 : Int32) * v3) + (6 : Int32)) + v4).toNatClampNeg then none else (if (((16 : Int32) * v3) + (5 : Int32)) < 0 ∨ 512 ≤ (((16 : Int32) * v3) + (5 : Int32)).toNatClampNeg then none else k 95 [(0, .ref 19), (1, .int v1), (3, .int v3), (4, .int v4), (5, .int r1.1), (6, .int (0 : Int32))] [] (x_up (x_up r1.2 21 (((((16 : Int32) * v3) + (6 : Int32)) + v4).toNatClampNeg) r1.1) 21 ((((16 : Int32) * v3) + (5 : Int32)).toNatClampNeg) (v4 + (1 : Int32)))))))) := rfl
set_option maxRecDepth 100000 in
set_option maxHeartbeats 4000000 in
theorem e124_95 (C : xC) (k : xK) (v1 v3 v4 v5 v6 : Int32) (σ : xS) : x_b x_i124 C k 95 [(0, .ref 19), (1, .int v1), (3, .int v3), (4, .int v4), (5, .int v5), (6, .int v6)] [] σ = (if (16 : Int32) ≤ v6 then k 39 [(0, .ref 19), (1, .int v1), (3, .int v3), (4, .int (v4 + (1 : Int32)))] [] σ else ((C 122 [.ref 19, .int (((256 : Int32) + ((16 : Int32) * v4)) + v6)] σ).bind fun r1 => (if (((16 : Int32) * v5) + v6) < 0 ∨ 512 ≤ (((16 : Int32) * v5) + v6).toNatClampNeg then none else k 95 [(0, .ref 19), (1, .int v1), (3, .int v3), (4, .int v4), (5, .int v5), (6, .int (v6 + (1 : Int32)))] [] (x_up r1.2 21 ((((16 : Int32) * v5) + v6).toNatClampNeg) r1.1)))) := rfl
-- DeskMachineModel.isData(I)Z ()
set_option maxRecDepth 100000 in
set_option maxHeartbeats 4000000 in
theorem e125_0 (C : xC) (k : xK) (v0 : Int32) (σ : xS) : x_b x_i125 C k 0 [(0, .int v0)] [] σ = (if v0 < (8 : Int32) then some ((0 : Int32), σ) else (if (31 : Int32) < v0 then some ((0 : Int32), σ) else some ((1 : Int32), σ))) := rfl
-- DeskMachineModel.types(I)V (19,)
set_option maxRecDepth 100000 in
set_option maxHeartbeats 4000000 in
theorem e126_0 (C : xC) (k : xK) (v1 : Int32) (σ : xS) : x_b x_i126 C k 0 [(0, .ref 19), (1, .int v1)] [] σ = k 4 [(0, .ref 19), (1, .int v1), (2, .int (1 : Int32)), (3, .int (0 : Int32))] [] σ := rfl
set_option maxRecDepth 100000 in
set_option maxHeartbeats 4000000 in
theorem e126_4 (C : xC) (k : xK) (v1 v2 v3 : Int32) (σ : xS) : x_b x_i126 C k 4 [(0, .ref 19), (1, .int v1), (2, .int v2), (3, .int v3)] [] σ = (if (((16 : Int32) * v1) + (5 : Int32)) < 0 ∨ 512 ≤ (((16 : Int32) * v1) + (5 : Int32)).toNatClampNeg then none else ((C 120 [.int (σ 21 (((16 : Int32) * v1) + (5 : Int32)).toNatClampNeg), .int (10 : Int32)] σ).bind fun r1 => (if r1.1 ≤ v3 then some (0, r1.2) else (if ((((16 : Int32) * v1) + (6 : Int32)) + v3) < 0 ∨ 512 ≤ ((((16 : Int32) * v1) + (6 : Int32)) + v3).toNatClampNeg then none else k 43 [(0, .ref 19), (1, .int v1), (2, .int v2), (3, .int v3), (4, .int (r1.2 21 ((((16 : Int32) * v1) + (6 : Int32)) + v3).toNatClampNeg)), (5, .int (0 : Int32))] [] r1.2)))) := rfl
set_option maxRecDepth 100000 in
set_option maxHeartbeats 4000000 in
theorem e126_43 (C : xC) (k : xK) (v1 v2 v3 v4 v5 : Int32) (σ : xS) : x_b x_i126 C k 43 [(0, .ref 19), (1, .int v1), (2, .int v2), (3, .int v3), (4, .int v4), (5, .int v5)] [] σ = (if (16 : Int32) ≤ v5 then k 4 [(0, .ref 19), (1, .int v1), (2, .int v2), (3, .int (v3 + (1 : Int32)))] [] σ else (if v2 = 0 then k 4 [(0, .ref 19), (1, .int v1), (2, .int v2), (3, .int (v3 + (1 : Int32)))] [] σ else ((C 125 [.int v4] σ).bind fun r1 => (if r1.1 = 0 then k 4 [(0, .ref 19), (1, .int v1), (2, .int v2), (3, .int (v3 + (1 : Int32)))] [] r1.2 else (if (((16 : Int32) * v4) + v5) < 0 ∨ 512 ≤ (((16 : Int32) * v4) + v5).toNatClampNeg then none else (if (r1.2 21 (((16 : Int32) * v4) + v5).toNatClampNeg) = (26 : Int32) then (if (0 : Int32) = 0 then k 43 [(0, .ref 19), (1, .int v1), (2, .int (0 : Int32)), (3, .int v3), (4, .int v4), (5, .int (v5 + (1 : Int32)))] [] r1.2 else (if (((16 : Int32) * v4) + v5) < 0 ∨ 512 ≤ (((16 : Int32) * v4) + v5).toNatClampNeg then none else ((C 113 [.ref 19, .int (r1.2 21 (((16 : Int32) * v4) + v5).toNatClampNeg)] r1.2).bind fun r2 => k 43 [(0, .ref 19), (1, .int v1), (2, .int (0 : Int32)), (3, .int v3), (4, .int v4), (5, .int (v5 + (1 : Int32)))] [] r2.2))) else (if (1 : Int32) = 0 then k 43 [(0, .ref 19), (1, .int v1), (2, .int (1 : Int32)), (3, .int v3), (4, .int v4), (5, .int (v5 + (1 : Int32)))] [] r1.2 else (if (((16 : Int32) * v4) + v5) < 0 ∨ 512 ≤ (((16 : Int32) * v4) + v5).toNatClampNeg then none else ((C 113 [.ref 19, .int (r1.2 21 (((16 : Int32) * v4) + v5).toNatClampNeg)] r1.2).bind fun r3 => k 43 [(0, .ref 19), (1, .int v1), (2, .int (1 : Int32)), (3, .int v3), (4, .int v4), (5, .int (v5 + (1 : Int32)))] [] r3.2))))))))) := rfl
-- DeskMachineModel.put(II)V (19,)
set_option maxRecDepth 100000 in
set_option maxHeartbeats 4000000 in
theorem e127_0 (C : xC) (k : xK) (v1 v2 : Int32) (σ : xS) : x_b x_i127 C k 0 [(0, .ref 19), (1, .int v1), (2, .int v2)] [] σ = (if (v1 &&& (511 : Int32)) < 0 ∨ 512 ≤ (v1 &&& (511 : Int32)).toNatClampNeg then none else some (0, (x_up σ 20 ((v1 &&& (511 : Int32)).toNatClampNeg) (v2 &&& (255 : Int32))))) := rfl
-- DeskMachineModel.setFlags(I)V (19,)
set_option maxRecDepth 100000 in
set_option maxHeartbeats 4000000 in
theorem e128_0 (C : xC) (k : xK) (v1 : Int32) (σ : xS) : x_b x_i128 C k 0 [(0, .ref 19), (1, .int v1)] [] σ = some (0, (x_up (x_up (x_up (x_up (x_up σ 19 7 ((v1 >>> ((7 : Int32) &&& 31)) &&& (1 : Int32))) 19 8 ((v1 >>> ((6 : Int32) &&& 31)) &&& (1 : Int32))) 19 10 ((v1 >>> ((4 : Int32) &&& 31)) &&& (1 : Int32))) 19 9 ((v1 >>> ((2 : Int32) &&& 31)) &&& (1 : Int32))) 19 11 (v1 &&& (1 : Int32)))) := rfl
-- DeskMachineModel.putWord(II)V (19,)
set_option maxRecDepth 100000 in
set_option maxHeartbeats 4000000 in
theorem e129_0 (C : xC) (k : xK) (v1 v2 : Int32) (σ : xS) : x_b x_i129 C k 0 [(0, .ref 19), (1, .int v1), (2, .int v2)] [] σ = ((C 127 [.ref 19, .int v1, .int v2] σ).bind fun r1 => ((C 127 [.ref 19, .int (v1 + (1 : Int32)), .int (v2 >>> ((8 : Int32) &&& 31))] r1.2).bind fun r2 => some (0, r2.2))) := rfl
-- DeskMachineModel.push(I)V (19,)
set_option maxRecDepth 100000 in
set_option maxHeartbeats 4000000 in
theorem e130_0 (C : xC) (k : xK) (v1 : Int32) (σ : xS) : x_b x_i130 C k 0 [(0, .ref 19), (1, .int v1)] [] σ = ((C 129 [.ref 19, .int ((x_up σ 19 4 (((σ 19 4) - (2 : Int32)) &&& (Int32.ofNat 65535))) 19 4), .int v1] (x_up σ 19 4 (((σ 19 4) - (2 : Int32)) &&& (Int32.ofNat 65535)))).bind fun r1 => some (0, r1.2)) := rfl
-- DeskMachineModel.loads(I)V (19,)
set_option maxRecDepth 100000 in
set_option maxHeartbeats 4000000 in
theorem e131_0 (C : xC) (k : xK) (v1 : Int32) (σ : xS) : x_b x_i131 C k 0 [(0, .ref 19), (1, .int v1)] [] σ = k 2 [(0, .ref 19), (1, .int v1), (2, .int (0 : Int32))] [] σ := rfl
set_option maxRecDepth 100000 in
set_option maxHeartbeats 4000000 in
theorem e131_2 (C : xC) (k : xK) (v1 v2 : Int32) (σ : xS) : x_b x_i131 C k 2 [(0, .ref 19), (1, .int v1), (2, .int v2)] [] σ = (if (((16 : Int32) * v1) + (5 : Int32)) < 0 ∨ 512 ≤ (((16 : Int32) * v1) + (5 : Int32)).toNatClampNeg then none else ((C 120 [.int (σ 21 (((16 : Int32) * v1) + (5 : Int32)).toNatClampNeg), .int (10 : Int32)] σ).bind fun r1 => (if r1.1 ≤ v2 then k 95 [(0, .ref 19), (2, .int (0 : Int32))] [] r1.2 else (if ((((16 : Int32) * v1) + (6 : Int32)) + v2) < 0 ∨ 512 ≤ ((((16 : Int32) * v1) + (6 : Int32)) + v2).toNatClampNeg then none else k 40 [(0, .ref 19), (1, .int v1), (2, .int v2), (3, .int (r1.2 21 ((((16 : Int32) * v1) + (6 : Int32)) + v2).toNatClampNeg)), (4, .int (0 : Int32))] [] r1.2)))) := rfl
set_option maxRecDepth 100000 in
set_option maxHeartbeats 4000000 in
theorem e131_95 (C : xC) (k : xK) (v2 : Int32) (σ : xS) : x_b x_i131 C k 95 [(0, .ref 19), (2, .int v2)] [] σ = (if (8 : Int32) ≤ v2 then ((C 128 [.ref 19, .int (0 : Int32)] σ).bind fun r1 => ((C 130 [.ref 19, .int (0 : Int32)] (x_up r1.2 19 4 (496 : Int32))).bind fun r2 => some (0, (x_up (x_up (x_up r2.2 19 5 (256 : Int32)) 19 6 (128 : Int32)) 19 12 (1 : Int32))))) else (if v2 < 0 ∨ 8 ≤ v2.toNatClampNeg then none else k 95 [(0, .ref 19), (2, .int (v2 + (1 : Int32)))] [] (x_up σ 22 (v2.toNatClampNeg) (0 : Int32)))) := rfl
set_option maxRecDepth 100000 in
set_option maxHeartbeats 4000000 in
theorem e131_40 (C : xC) (k : xK) (v1 v2 v3 v4 : Int32) (σ : xS) : x_b x_i131 C k 40 [(0, .ref 19), (1, .int v1), (2, .int v2), (3, .int v3), (4, .int v4)] [] σ = (if (16 : Int32) ≤ v4 then k 2 [(0, .ref 19), (1, .int v1), (2, .int (v2 + (1 : Int32)))] [] σ else ((C 125 [.int v3] σ).bind fun r1 => (if r1.1 = 0 then k 2 [(0, .ref 19), (1, .int v1), (2, .int (v2 + (1 : Int32)))] [] r1.2 else (if (((16 : Int32) * v3) + v4) < 0 ∨ 512 ≤ (((16 : Int32) * v3) + v4).toNatClampNeg then none else ((C 127 [.ref 19, .int (((256 : Int32) + ((16 : Int32) * v2)) + v4), .int (r1.2 21 (((16 : Int32) * v3) + v4).toNatClampNeg)] r1.2).bind fun r2 => k 40 [(0, .ref 19), (1, .int v1), (2, .int v2), (3, .int v3), (4, .int (v4 + (1 : Int32)))] [] r2.2))))) := rfl
-- DeskMachineModel.command()Z (19,)
set_option maxRecDepth 100000 in
set_option maxHeartbeats 4000000 in
theorem e132_0 (C : xC) (k : xK) (σ : xS) : x_b x_i132 C k 0 [(0, .ref 19)] [] σ = ((C 109 [.ref 19, .int (0 : Int32)] σ).bind fun r1 => (if r1.1 = 0 then some ((1 : Int32), r1.2) else ((C 111 [.ref 19, .int (76 : Int32), .int (73 : Int32), .int (83 : Int32), .int (84 : Int32)] r1.2).bind fun r2 => (if r2.1 = 0 then ((C 111 [.ref 19, .int (83 : Int32), .int (72 : Int32), .int (79 : Int32), .int (87 : Int32)] r2.2).bind fun r3 => ((C 111 [.ref 19, .int (68 : Int32), .int (82 : Int32), .int (79 : Int32), .int (80 : Int32)] r3.2).bind fun r4 => ((C 111 [.ref 19, .int (67 : Int32), .int (65 : Int32), .int (76 : Int32), .int (76 : Int32)] r4.2).bind fun r5 => ((C 111 [.ref 19, .int (83 : Int32), .int (65 : Int32), .int (86 : Int32), .int (69 : Int32)] r5.2).bind fun r6 => (if r3.1 = 0 then (if r4.1 = 0 then (if r5.1 = 0 then (if r6.1 = 0 then k 119 [(0, .ref 19), (1, .int r3.1), (2, .int r4.1), (3, .int r5.1), (4, .int r6.1)] [] r6.2 else ((C 109 [.ref 19, .int (2 : Int32)] r6.2).bind fun r11 => (if r11.1 = 0 then some ((0 : Int32), r11.2) else k 119 [(0, .ref 19), (1, .int r3.1), (2, .int r4.1), (3, .int r5.1), (4, .int r6.1)] [] r11.2))) else ((C 109 [.ref 19, .int (2 : Int32)] r6.2).bind fun r10 => (if r10.1 = 0 then some ((0 : Int32), r10.2) else k 119 [(0, .ref 19), (1, .int r3.1), (2, .int r4.1), (3, .int r5.1), (4, .int r6.1)] [] r10.2))) else ((C 109 [.ref 19, .int (1 : Int32)] r6.2).bind fun r12 => (if r12.1 = 0 then some ((0 : Int32), r12.2) else (if r5.1 = 0 then (if r6.1 = 0 then k 119 [(0, .ref 19), (1, .int r3.1), (2, .int r4.1), (3, .int r5.1), (4, .int r6.1)] [] r12.2 else ((C 109 [.ref 19, .int (2 : Int32)] r12.2).bind fun r14 => (if r14.1 = 0 then some ((0 : Int32), r14.2) else k 119 [(0, .ref 19), (1, .int r3.1), (2, .int r4.1), (3, .int r5.1), (4, .int r6.1)] [] r14.2))) else ((C 109 [.ref 19, .int (2 : Int32)] r12.2).bind fun r13 => (if r13.1 = 0 then some ((0 : Int32), r13.2) else k 119 [(0, .ref 19), (1, .int r3.1), (2, .int r4.1), (3, .int r5.1), (4, .int r6.1)] [] r13.2)))))) else ((C 109 [.ref 19, .int (1 : Int32)] r6.2).bind fun r7 => (if r7.1 = 0 then some ((0 : Int32), r7.2) else (if r5.1 = 0 then (if r6.1 = 0 then k 119 [(0, .ref 19), (1, .int r3.1), (2, .int r4.1), (3, .int r5.1), (4, .int r6.1)] [] r7.2 else ((C 109 [.ref 19, .int (2 : Int32)] r7.2).bind fun r9 => (if r9.1 = 0 then some ((0 : Int32), r9.2) else k 119 [(0, .ref 19), (1, .int r3.1), (2, .int r4.1), (3, .int r5.1), (4, .int r6.1)] [] r9.2))) else ((C 109 [.ref 19, .int (2 : Int32)] r7.2).bind fun r8 => (if r8.1 = 0 then some ((0 : Int32), r8.2) else k 119 [(0, .ref 19), (1, .int r3.1), (2, .int r4.1), (3, .int r5.1), (4, .int r6.1)] [] r8.2)))))))))) else ((C 114 [.ref 19] r2.2).bind fun r15 => some ((1 : Int32), r15.2)))))) := rfl
set_option maxRecDepth 100000 in
set_option maxHeartbeats 4000000 in
theorem e132_119 (C : xC) (k : xK) (v1 v2 v3 v4 : Int32) (σ : xS) : x_b x_i132 C k 119 [(0, .ref 19), (1, .int v1), (2, .int v2), (3, .int v3), (4, .int v4)] [] σ = (if v2 = 0 then (if v4 = 0 then (if v1 = 0 then (if v3 = 0 then ((C 115 [.ref 19, .int (0 : Int32)] σ).bind fun r6 => ((C 116 [.ref 19, .int (0 : Int32), .int (0 : Int32)] r6.2).bind fun r7 => (if r7.1 = (-1 : Int32) then some ((0 : Int32), r7.2) else (if v1 = 0 then (if v3 = 0 then ((C 131 [.ref 19, .int r7.1] r7.2).bind fun r8 => some ((1 : Int32), r8.2)) else ((C 115 [.ref 19, .int (2 : Int32)] r7.2).bind fun r9 => k 274 [(0, .ref 19), (5, .int r7.1), (6, .int (0 : Int32))] [] r9.2)) else ((C 126 [.ref 19, .int r7.1] r7.2).bind fun r10 => some ((1 : Int32), r10.2)))))) else ((C 115 [.ref 19, .int (1 : Int32)] σ).bind fun r11 => ((C 116 [.ref 19, .int (0 : Int32), .int (0 : Int32)] r11.2).bind fun r12 => (if r12.1 = (-1 : Int32) then some ((0 : Int32), r12.2) else (if v1 = 0 then (if v3 = 0 then ((C 131 [.ref 19, .int r12.1] r12.2).bind fun r13 => some ((1 : Int32), r13.2)) else ((C 115 [.ref 19, .int (2 : Int32)] r12.2).bind fun r14 => k 274 [(0, .ref 19), (5, .int r12.1), (6, .int (0 : Int32))] [] r14.2)) else ((C 126 [.ref 19, .int r12.1] r12.2).bind fun r15 => some ((1 : Int32), r15.2))))))) else ((C 115 [.ref 19, .int (1 : Int32)] σ).bind fun r1 => ((C 116 [.ref 19, .int (0 : Int32), .int (0 : Int32)] r1.2).bind fun r2 => (if r2.1 = (-1 : Int32) then some ((0 : Int32), r2.2) else (if v1 = 0 then (if v3 = 0 then ((C 131 [.ref 19, .int r2.1] r2.2).bind fun r3 => some ((1 : Int32), r3.2)) else ((C 115 [.ref 19, .int (2 : Int32)] r2.2).bind fun r4 => k 274 [(0, .ref 19), (5, .int r2.1), (6, .int (0 : Int32))] [] r4.2)) else ((C 126 [.ref 19, .int r2.1] r2.2).bind fun r5 => some ((1 : Int32), r5.2))))))) else ((C 110 [.ref 19, .int (1 : Int32), .int (0 : Int32)] σ).bind fun r16 => ((C 115 [.ref 19, .int (2 : Int32)] r16.2).bind fun r17 => (if (r16.1 - (48 : Int32)) < 0 then (if (0 : Int32) = 0 then some ((0 : Int32), r17.2) else ((C 124 [.ref 19, .int (r16.1 - (48 : Int32))] r17.2).bind fun r18 => (if r18.1 = 0 then some ((0 : Int32), r18.2) else some ((1 : Int32), r18.2)))) else (if (9 : Int32) < (r16.1 - (48 : Int32)) then (if (0 : Int32) = 0 then some ((0 : Int32), r17.2) else ((C 124 [.ref 19, .int (r16.1 - (48 : Int32))] r17.2).bind fun r19 => (if r19.1 = 0 then some ((0 : Int32), r19.2) else some ((1 : Int32), r19.2)))) else ((C 110 [.ref 19, .int (1 : Int32), .int (1 : Int32)] r17.2).bind fun r20 => (if r20.1 = (32 : Int32) then (if (1 : Int32) = 0 then some ((0 : Int32), r20.2) else ((C 124 [.ref 19, .int (r16.1 - (48 : Int32))] r20.2).bind fun r22 => (if r22.1 = 0 then some ((0 : Int32), r22.2) else some ((1 : Int32), r22.2)))) else (if (0 : Int32) = 0 then some ((0 : Int32), r20.2) else ((C 124 [.ref 19, .int (r16.1 - (48 : Int32))] r20.2).bind fun r21 => (if r21.1 = 0 then some ((0 : Int32), r21.2) else some ((1 : Int32), r21.2))))))))))) else ((C 115 [.ref 19, .int (1 : Int32)] σ).bind fun r23 => ((C 117 [.ref 19] r23.2).bind fun r24 => (if r24.1 < 0 then some ((0 : Int32), r24.2) else some ((1 : Int32), r24.2))))) := rfl
set_option maxRecDepth 100000 in
set_option maxHeartbeats 4000000 in
theorem e132_274 (C : xC) (k : xK) (v5 v6 : Int32) (σ : xS) : x_b x_i132 C k 274 [(0, .ref 19), (5, .int v5), (6, .int v6)] [] σ = (if (4 : Int32) ≤ v6 then some ((1 : Int32), σ) else (if v6 < 0 ∨ 4 ≤ v6.toNatClampNeg then none else (if ((((16 : Int32) * v5) + (1 : Int32)) + v6) < 0 ∨ 512 ≤ ((((16 : Int32) * v5) + (1 : Int32)) + v6).toNatClampNeg then none else k 274 [(0, .ref 19), (5, .int v5), (6, .int (v6 + (1 : Int32)))] [] (x_up σ 21 (((((16 : Int32) * v5) + (1 : Int32)) + v6).toNatClampNeg) (σ 26 v6.toNatClampNeg))))) := rfl
-- DeskMachineModel.typed(I)V (19,)
set_option maxRecDepth 100000 in
set_option maxHeartbeats 4000000 in
theorem e133_0 (C : xC) (k : xK) (v1 : Int32) (σ : xS) : x_b x_i133 C k 0 [(0, .ref 19), (1, .int v1)] [] σ = (if v1 = (13 : Int32) then ((C 132 [.ref 19] σ).bind fun r1 => (if r1.1 = 0 then ((C 113 [.ref 19, .int (63 : Int32)] r1.2).bind fun r4 => ((C 113 [.ref 19, .int (13 : Int32)] r4.2).bind fun r5 => (if (r5.2 19 12) = 0 then ((C 113 [.ref 19, .int (62 : Int32)] r5.2).bind fun r6 => some (0, (x_up r6.2 19 15 (0 : Int32)))) else some (0, (x_up r5.2 19 15 (0 : Int32)))))) else ((C 113 [.ref 19, .int (13 : Int32)] r1.2).bind fun r2 => (if (r2.2 19 12) = 0 then ((C 113 [.ref 19, .int (62 : Int32)] r2.2).bind fun r3 => some (0, (x_up r3.2 19 15 (0 : Int32)))) else some (0, (x_up r2.2 19 15 (0 : Int32))))))) else (if v1 < (32 : Int32) then some (0, σ) else (if (126 : Int32) < v1 then some (0, σ) else (if (20 : Int32) ≤ (σ 19 15) then some (0, σ) else (if (σ 19 15) < 0 ∨ 20 ≤ (σ 19 15).toNatClampNeg then none else some (0, (x_up (x_up σ 24 ((σ 19 15).toNatClampNeg) v1) 19 15 (((x_up σ 24 ((σ 19 15).toNatClampNeg) v1) 19 15) + (1 : Int32))))))))) := rfl
-- DeskMachineModel.pair(I)I (19,)
set_option maxRecDepth 100000 in
set_option maxHeartbeats 4000000 in
theorem e134_0 (C : xC) (k : xK) (v1 : Int32) (σ : xS) : x_b x_i134 C k 0 [(0, .ref 19), (1, .int v1)] [] σ = (if v1 = (3 : Int32) then some ((σ 19 4), σ) else (if ((2 : Int32) * v1) < 0 ∨ 8 ≤ ((2 : Int32) * v1).toNatClampNeg then none else (if (((2 : Int32) * v1) + (1 : Int32)) < 0 ∨ 8 ≤ (((2 : Int32) * v1) + (1 : Int32)).toNatClampNeg then none else some ((((256 : Int32) * (σ 22 ((2 : Int32) * v1).toNatClampNeg)) + (σ 22 (((2 : Int32) * v1) + (1 : Int32)).toNatClampNeg)), σ)))) := rfl
-- DeskMachineModel.nameAt(I)V (19,)
set_option maxRecDepth 100000 in
set_option maxHeartbeats 4000000 in
theorem e135_0 (C : xC) (k : xK) (v1 : Int32) (σ : xS) : x_b x_i135 C k 0 [(0, .ref 19), (1, .int v1)] [] σ = k 2 [(0, .ref 19), (1, .int v1), (2, .int (0 : Int32))] [] σ := rfl
set_option maxRecDepth 100000 in
set_option maxHeartbeats 4000000 in
theorem e135_2 (C : xC) (k : xK) (v1 v2 : Int32) (σ : xS) : x_b x_i135 C k 2 [(0, .ref 19), (1, .int v1), (2, .int v2)] [] σ = (if (4 : Int32) ≤ v2 then some (0, σ) else ((C 122 [.ref 19, .int (v1 + v2)] σ).bind fun r1 => (if v2 < 0 ∨ 4 ≤ v2.toNatClampNeg then none else k 2 [(0, .ref 19), (1, .int v1), (2, .int (v2 + (1 : Int32)))] [] (x_up r1.2 26 (v2.toNatClampNeg) r1.1)))) := rfl
-- DeskMachineModel.searches(I)I (19,)
set_option maxRecDepth 100000 in
set_option maxHeartbeats 4000000 in
theorem e136_0 (C : xC) (k : xK) (v1 : Int32) (σ : xS) : x_b x_i136 C k 0 [(0, .ref 19), (1, .int v1)] [] σ = ((C 116 [.ref 19, .int v1, .int (1 : Int32)] σ).bind fun r1 => k 9 [(0, .ref 19), (2, .int r1.1), (3, .int (0 : Int32))] [] r1.2) := rfl
set_option maxRecDepth 100000 in
set_option maxHeartbeats 4000000 in
theorem e136_9 (C : xC) (k : xK) (v2 v3 : Int32) (σ : xS) : x_b x_i136 C k 9 [(0, .ref 19), (2, .int v2), (3, .int v3)] [] σ = (if (16 : Int32) ≤ v3 then (if v2 = (-1 : Int32) then (if v2 = (-1 : Int32) then some ((255 : Int32), (x_up σ 19 20 (8 : Int32))) else some (v2, (x_up σ 19 20 (8 : Int32)))) else (if v2 = (-1 : Int32) then some ((255 : Int32), (x_up σ 19 20 v2)) else some (v2, (x_up σ 19 20 v2)))) else (if v2 = (-1 : Int32) then (if v2 = (-1 : Int32) then (if v2 = (-1 : Int32) then some ((255 : Int32), (x_up σ 19 20 (8 : Int32))) else some (v2, (x_up σ 19 20 (8 : Int32)))) else (if v2 = (-1 : Int32) then some ((255 : Int32), (x_up σ 19 20 v2)) else some (v2, (x_up σ 19 20 v2)))) else (if (((16 : Int32) * v2) + v3) < 0 ∨ 512 ≤ (((16 : Int32) * v2) + v3).toNatClampNeg then none else ((C 127 [.ref 19, .int ((σ 19 6) + v3), .int (σ 21 (((16 : Int32) * v2) + v3).toNatClampNeg)] σ).bind fun r1 => k 9 [(0, .ref 19), (2, .int v2), (3, .int (v3 + (1 : Int32)))] [] r1.2)))) := rfl
-- DeskMachineModel.reads(I)I (19,)
set_option maxRecDepth 100000 in
set_option maxHeartbeats 4000000 in
theorem e137_0 (C : xC) (k : xK) (v1 : Int32) (σ : xS) : x_b x_i137 C k 0 [(0, .ref 19), (1, .int v1)] [] σ = ((C 122 [.ref 19, .int (v1 + (16 : Int32))] σ).bind fun r1 => (if r1.1 ≤ (9 : Int32) then ((C 122 [.ref 19, .int ((v1 + (6 : Int32)) + r1.1)] r1.2).bind fun r2 => (if (9 : Int32) < r1.1 then some ((1 : Int32), r2.2) else ((C 122 [.ref 19, .int (v1 + (5 : Int32))] r2.2).bind fun r3 => (if r3.1 ≤ r1.1 then some ((1 : Int32), r3.2) else ((C 125 [.int r2.1] r3.2).bind fun r4 => (if r4.1 = 0 then some ((1 : Int32), r4.2) else k 59 [(0, .ref 19), (1, .int v1), (2, .int r1.1), (3, .int r2.1), (4, .int (0 : Int32))] [] r4.2)))))) else (if (9 : Int32) < r1.1 then some ((1 : Int32), r1.2) else ((C 122 [.ref 19, .int (v1 + (5 : Int32))] r1.2).bind fun r5 => (if r5.1 ≤ r1.1 then some ((1 : Int32), r5.2) else ((C 125 [.int (0 : Int32)] r5.2).bind fun r6 => (if r6.1 = 0 then some ((1 : Int32), r6.2) else k 59 [(0, .ref 19), (1, .int v1), (2, .int r1.1), (3, .int (0 : Int32)), (4, .int (0 : Int32))] [] r6.2))))))) := rfl
set_option maxRecDepth 100000 in
set_option maxHeartbeats 4000000 in
theorem e137_59 (C : xC) (k : xK) (v1 v2 v3 v4 : Int32) (σ : xS) : x_b x_i137 C k 59 [(0, .ref 19), (1, .int v1), (2, .int v2), (3, .int v3), (4, .int v4)] [] σ = (if (16 : Int32) ≤ v4 then ((C 127 [.ref 19, .int (v1 + (16 : Int32)), .int (v2 + (1 : Int32))] σ).bind fun r1 => some ((0 : Int32), r1.2)) else (if (((16 : Int32) * v3) + v4) < 0 ∨ 512 ≤ (((16 : Int32) * v3) + v4).toNatClampNeg then none else ((C 127 [.ref 19, .int ((σ 19 6) + v4), .int (σ 21 (((16 : Int32) * v3) + v4).toNatClampNeg)] σ).bind fun r2 => k 59 [(0, .ref 19), (1, .int v1), (2, .int v2), (3, .int v3), (4, .int (v4 + (1 : Int32)))] [] r2.2))) := rfl
-- DeskMachineModel.writes(I)I (19,)
set_option maxRecDepth 100000 in
set_option maxHeartbeats 4000000 in
theorem e138_0 (C : xC) (k : xK) (v1 : Int32) (σ : xS) : x_b x_i138 C k 0 [(0, .ref 19), (1, .int v1)] [] σ = ((C 122 [.ref 19, .int (v1 + (16 : Int32))] σ).bind fun r1 => (if r1.1 ≤ (9 : Int32) then ((C 122 [.ref 19, .int ((v1 + (6 : Int32)) + r1.1)] r1.2).bind fun r2 => ((C 122 [.ref 19, .int (v1 + (5 : Int32))] r2.2).bind fun r3 => (if r3.1 ≤ r1.1 then ((C 123 [.ref 19, .int v1] r3.2).bind fun r4 => (if r4.1 = (-1 : Int32) then some ((2 : Int32), r4.2) else ((C 127 [.ref 19, .int ((v1 + (6 : Int32)) + r1.1), .int r4.1] r4.2).bind fun r5 => k 73 [(0, .ref 19), (1, .int v1), (2, .int r1.1), (3, .int r4.1), (4, .int (0 : Int32))] [] r5.2))) else ((C 125 [.int r2.1] r3.2).bind fun r6 => (if r6.1 = 0 then ((C 123 [.ref 19, .int v1] r6.2).bind fun r7 => (if r7.1 = (-1 : Int32) then some ((2 : Int32), r7.2) else ((C 127 [.ref 19, .int ((v1 + (6 : Int32)) + r1.1), .int r7.1] r7.2).bind fun r8 => k 73 [(0, .ref 19), (1, .int v1), (2, .int r1.1), (3, .int r7.1), (4, .int (0 : Int32))] [] r8.2))) else k 73 [(0, .ref 19), (1, .int v1), (2, .int r1.1), (3, .int r2.1), (4, .int (0 : Int32))] [] r6.2))))) else some ((1 : Int32), r1.2))) := rfl
set_option maxRecDepth 100000 in
set_option maxHeartbeats 4000000 in
theorem e138_73 (C : xC) (k : xK) (v1 v2 v3 v4 : Int32) (σ : xS) : x_b x_i138 C k 73 [(0, .ref 19), (1, .int v1), (2, .int v2), (3, .int v3), (4, .int v4)] [] σ = (if (16 : Int32) ≤ v4 then ((C 122 [.ref 19, .int (v1 + (5 : Int32))] σ).bind fun r1 => (if (v2 + (1 : Int32)) ≤ r1.1 then ((C 122 [.ref 19, .int (v1 + (5 : Int32))] r1.2).bind fun r2 => ((C 127 [.ref 19, .int (v1 + (5 : Int32)), .int r2.1] r2.2).bind fun r3 => ((C 127 [.ref 19, .int (v1 + (16 : Int32)), .int (v2 + (1 : Int32))] r3.2).bind fun r4 => some ((0 : Int32), r4.2)))) else ((C 127 [.ref 19, .int (v1 + (5 : Int32)), .int (v2 + (1 : Int32))] r1.2).bind fun r5 => ((C 127 [.ref 19, .int (v1 + (16 : Int32)), .int (v2 + (1 : Int32))] r5.2).bind fun r6 => some ((0 : Int32), r6.2))))) else ((C 122 [.ref 19, .int ((σ 19 6) + v4)] σ).bind fun r7 => (if (((16 : Int32) * v3) + v4) < 0 ∨ 512 ≤ (((16 : Int32) * v3) + v4).toNatClampNeg then none else k 73 [(0, .ref 19), (1, .int v1), (2, .int v2), (3, .int v3), (4, .int (v4 + (1 : Int32)))] [] (x_up r7.2 21 ((((16 : Int32) * v3) + v4).toNatClampNeg) r7.1)))) := rfl
-- DeskMachineModel.files(II)I (19,)
set_option maxRecDepth 100000 in
set_option maxHeartbeats 4000000 in
theorem e139_0 (C : xC) (k : xK) (v1 v2 : Int32) (σ : xS) : x_b x_i139 C k 0 [(0, .ref 19), (1, .int v1), (2, .int v2)] [] σ = ((C 135 [.ref 19, .int (v2 + (1 : Int32))] σ).bind fun r1 => (if v1 = (17 : Int32) then ((C 136 [.ref 19, .int (0 : Int32)] r1.2).bind fun r9 => some (r9.1, r9.2)) else (if v1 = (18 : Int32) then ((C 136 [.ref 19, .int ((r1.2 19 20) + (1 : Int32))] r1.2).bind fun r8 => some (r8.1, r8.2)) else (if v1 = (19 : Int32) then ((C 117 [.ref 19] r1.2).bind fun r7 => (if r7.1 = 0 then some ((255 : Int32), r7.2) else some ((0 : Int32), r7.2))) else (if v1 = (20 : Int32) then ((C 137 [.ref 19, .int v2] r1.2).bind fun r6 => some (r6.1, r6.2)) else (if v1 = (21 : Int32) then ((C 138 [.ref 19, .int v2] r1.2).bind fun r5 => some (r5.1, r5.2)) else (if v1 = (22 : Int32) then ((C 119 [.ref 19] r1.2).bind fun r4 => k 97 [(0, .ref 19), (2, .int v2), (3, .int r4.1), (4, .int (5 : Int32))] [] r4.2) else (if v1 = (15 : Int32) then ((C 116 [.ref 19, .int (0 : Int32), .int (1 : Int32)] r1.2).bind fun r3 => (if r3.1 = (-1 : Int32) then some ((255 : Int32), r3.2) else k 166 [(0, .ref 19), (1, .int v1), (2, .int v2), (3, .int r3.1), (4, .int (1 : Int32))] [] r3.2)) else ((C 116 [.ref 19, .int (0 : Int32), .int (0 : Int32)] r1.2).bind fun r2 => (if r2.1 = (-1 : Int32) then some ((255 : Int32), r2.2) else k 166 [(0, .ref 19), (1, .int v1), (2, .int v2), (3, .int r2.1), (4, .int (1 : Int32))] [] r2.2)))))))))) := rfl
set_option maxRecDepth 100000 in
set_option maxHeartbeats 4000000 in
theorem e139_166 (C : xC) (k : xK) (v1 v2 v3 v4 : Int32) (σ : xS) : x_b x_i139 C k 166 [(0, .ref 19), (1, .int v1), (2, .int v2), (3, .int v3), (4, .int v4)] [] σ = (if (16 : Int32) ≤ v4 then k 208 [(0, .ref 19), (1, .int v1), (2, .int v2), (3, .int v3), (4, .int (5 : Int32))] [] σ else (if v1 = (15 : Int32) then (if (((16 : Int32) * v3) + v4) < 0 ∨ 512 ≤ (((16 : Int32) * v3) + v4).toNatClampNeg then none else ((C 127 [.ref 19, .int (v2 + v4), .int (σ 21 (((16 : Int32) * v3) + v4).toNatClampNeg)] σ).bind fun r1 => k 166 [(0, .ref 19), (1, .int v1), (2, .int v2), (3, .int v3), (4, .int (v4 + (1 : Int32)))] [] r1.2)) else k 208 [(0, .ref 19), (1, .int v1), (2, .int v2), (3, .int v3), (4, .int (5 : Int32))] [] σ)) := rfl
set_option maxRecDepth 100000 in
set_option maxHeartbeats 4000000 in
theorem e139_97 (C : xC) (k : xK) (v2 v3 v4 : Int32) (σ : xS) : x_b x_i139 C k 97 [(0, .ref 19), (2, .int v2), (3, .int v3), (4, .int v4)] [] σ = (if (16 : Int32) ≤ v4 then (if v3 = (-1 : Int32) then some ((255 : Int32), σ) else some (v3, σ)) else (if v3 = (-1 : Int32) then (if v3 = (-1 : Int32) then some ((255 : Int32), σ) else some (v3, σ)) else ((C 127 [.ref 19, .int (v2 + v4), .int (0 : Int32)] σ).bind fun r1 => k 97 [(0, .ref 19), (2, .int v2), (3, .int v3), (4, .int (v4 + (1 : Int32)))] [] r1.2))) := rfl
set_option maxRecDepth 100000 in
set_option maxHeartbeats 4000000 in
theorem e139_208 (C : xC) (k : xK) (v1 v2 v3 v4 : Int32) (σ : xS) : x_b x_i139 C k 208 [(0, .ref 19), (1, .int v1), (2, .int v2), (3, .int v3), (4, .int v4)] [] σ = (if (16 : Int32) ≤ v4 then k 250 [(0, .ref 19), (1, .int v1), (2, .int v2), (3, .int v3), (4, .int (1 : Int32))] [] σ else (if v1 = (16 : Int32) then ((C 122 [.ref 19, .int (v2 + v4)] σ).bind fun r1 => (if (((16 : Int32) * v3) + v4) < 0 ∨ 512 ≤ (((16 : Int32) * v3) + v4).toNatClampNeg then none else k 208 [(0, .ref 19), (1, .int v1), (2, .int v2), (3, .int v3), (4, .int (v4 + (1 : Int32)))] [] (x_up r1.2 21 ((((16 : Int32) * v3) + v4).toNatClampNeg) r1.1))) else k 250 [(0, .ref 19), (1, .int v1), (2, .int v2), (3, .int v3), (4, .int (1 : Int32))] [] σ)) := rfl
set_option maxRecDepth 100000 in
set_option maxHeartbeats 4000000 in
theorem e139_250 (C : xC) (k : xK) (v1 v2 v3 v4 : Int32) (σ : xS) : x_b x_i139 C k 250 [(0, .ref 19), (1, .int v1), (2, .int v2), (3, .int v3), (4, .int v4)] [] σ = (if (5 : Int32) ≤ v4 then (if v1 = (23 : Int32) then some ((0 : Int32), σ) else some (v3, σ)) else (if v1 = (23 : Int32) then ((C 122 [.ref 19, .int ((v2 + (16 : Int32)) + v4)] σ).bind fun r1 => (if (((16 : Int32) * v3) + v4) < 0 ∨ 512 ≤ (((16 : Int32) * v3) + v4).toNatClampNeg then none else k 250 [(0, .ref 19), (1, .int v1), (2, .int v2), (3, .int v3), (4, .int (v4 + (1 : Int32)))] [] (x_up r1.2 21 ((((16 : Int32) * v3) + v4).toNatClampNeg) r1.1))) else (if v1 = (23 : Int32) then some ((0 : Int32), σ) else some (v3, σ)))) := rfl
-- DeskMachineModel.answer(II)I (19,)
set_option maxRecDepth 100000 in
set_option maxHeartbeats 4000000 in
theorem e140_0 (C : xC) (k : xK) (v1 v2 : Int32) (σ : xS) : x_b x_i140 C k 0 [(0, .ref 19), (1, .int v1), (2, .int v2)] [] σ = (if v1 = (1 : Int32) then (if (σ 19 13) = 0 then some ((-1 : Int32), σ) else ((C 107 [.ref 19] σ).bind fun r3 => some (r3.1, r3.2))) else (if v1 = (2 : Int32) then ((C 113 [.ref 19, .int (σ 22 3)] σ).bind fun r2 => some ((0 : Int32), r2.2)) else (if v1 = (9 : Int32) then k 44 [(0, .ref 19), (2, .int v2), (3, .int (0 : Int32))] [] σ else (if v1 = (11 : Int32) then (if (σ 19 13) ≤ 0 then some ((0 : Int32), σ) else some ((255 : Int32), σ)) else (if v1 = (26 : Int32) then some ((0 : Int32), (x_up σ 19 6 v2)) else (if v1 < (15 : Int32) then some ((0 : Int32), σ) else (if (23 : Int32) < v1 then some ((0 : Int32), σ) else ((C 139 [.ref 19, .int v1, .int v2] σ).bind fun r1 => some (r1.1, r1.2))))))))) := rfl
set_option maxRecDepth 100000 in
set_option maxHeartbeats 4000000 in
theorem e140_44 (C : xC) (k : xK) (v2 v3 : Int32) (σ : xS) : x_b x_i140 C k 44 [(0, .ref 19), (2, .int v2), (3, .int v3)] [] σ = (if (64 : Int32) ≤ v3 then some ((0 : Int32), σ) else ((C 122 [.ref 19, .int (v2 + v3)] σ).bind fun r1 => (if r1.1 = (36 : Int32) then some ((0 : Int32), r1.2) else ((C 122 [.ref 19, .int (v2 + v3)] r1.2).bind fun r2 => ((C 113 [.ref 19, .int r2.1] r2.2).bind fun r3 => k 44 [(0, .ref 19), (2, .int v2), (3, .int (v3 + (1 : Int32)))] [] r3.2))))) := rfl
-- DeskMachineModel.word(I)I (19,)
set_option maxRecDepth 100000 in
set_option maxHeartbeats 4000000 in
theorem e141_0 (C : xC) (k : xK) (v1 : Int32) (σ : xS) : x_b x_i141 C k 0 [(0, .ref 19), (1, .int v1)] [] σ = ((C 122 [.ref 19, .int v1] σ).bind fun r1 => ((C 122 [.ref 19, .int (v1 + (1 : Int32))] r1.2).bind fun r2 => some ((r1.1 + ((256 : Int32) * r2.1)), r2.2))) := rfl
-- DeskMachineModel.pop()I (19,)
set_option maxRecDepth 100000 in
set_option maxHeartbeats 4000000 in
theorem e142_0 (C : xC) (k : xK) (σ : xS) : x_b x_i142 C k 0 [(0, .ref 19)] [] σ = ((C 141 [.ref 19, .int (σ 19 4)] σ).bind fun r1 => some (r1.1, (x_up r1.2 19 4 (((r1.2 19 4) + (2 : Int32)) &&& (Int32.ofNat 65535))))) := rfl
-- DeskMachineModel.call()Z (19,)
set_option maxRecDepth 100000 in
set_option maxHeartbeats 4000000 in
theorem e143_0 (C : xC) (k : xK) (σ : xS) : x_b x_i143 C k 0 [(0, .ref 19)] [] σ = (if (σ 22 1) = 0 then some ((1 : Int32), (x_up σ 19 12 (0 : Int32))) else ((C 134 [.ref 19, .int (1 : Int32)] σ).bind fun r1 => ((C 140 [.ref 19, .int (σ 22 1), .int r1.1] r1.2).bind fun r2 => (if r2.1 = (-1 : Int32) then (if r2.1 = (-1 : Int32) then some ((0 : Int32), (x_up r2.2 19 12 (2 : Int32))) else ((C 142 [.ref 19] (x_up (x_up r2.2 19 12 (2 : Int32)) 22 7 r2.1)).bind fun r4 => some ((1 : Int32), (x_up r4.2 19 5 r4.1)))) else (if r2.1 = (-1 : Int32) then some ((0 : Int32), (x_up r2.2 19 12 (1 : Int32))) else ((C 142 [.ref 19] (x_up (x_up r2.2 19 12 (1 : Int32)) 22 7 r2.1)).bind fun r3 => some ((1 : Int32), (x_up r3.2 19 5 r3.1)))))))) := rfl
-- DeskMachineModel.setPair(II)V (19,)
set_option maxRecDepth 100000 in
set_option maxHeartbeats 4000000 in
theorem e144_0 (C : xC) (k : xK) (v1 v2 : Int32) (σ : xS) : x_b x_i144 C k 0 [(0, .ref 19), (1, .int v1), (2, .int v2)] [] σ = (if v1 = (3 : Int32) then some (0, (x_up σ 19 4 (v2 &&& (Int32.ofNat 65535)))) else (if ((2 : Int32) * v1) < 0 ∨ 8 ≤ ((2 : Int32) * v1).toNatClampNeg then none else (if (((2 : Int32) * v1) + (1 : Int32)) < 0 ∨ 8 ≤ (((2 : Int32) * v1) + (1 : Int32)).toNatClampNeg then none else some (0, (x_up (x_up σ 22 (((2 : Int32) * v1).toNatClampNeg) ((v2 >>> ((8 : Int32) &&& 31)) &&& (255 : Int32))) 22 ((((2 : Int32) * v1) + (1 : Int32)).toNatClampNeg) (v2 &&& (255 : Int32))))))) := rfl
-- DeskMachineModel.moves(II)V (19,)
set_option maxRecDepth 100000 in
set_option maxHeartbeats 4000000 in
theorem e145_0 (C : xC) (k : xK) (v1 v2 : Int32) (σ : xS) : x_b x_i145 C k 0 [(0, .ref 19), (1, .int v1), (2, .int v2)] [] σ = (if (2 : Int32) ≤ v1 then (if (4 : Int32) ≤ v1 then k 27 [(0, .ref 19), (1, .int v1), (2, .int v2)] [.int v2] σ else ((C 134 [.ref 19, .int (1 : Int32)] σ).bind fun r1 => k 27 [(0, .ref 19), (1, .int v1), (2, .int v2)] [.int r1.1] r1.2)) else ((C 134 [.ref 19, .int (0 : Int32)] σ).bind fun r2 => k 27 [(0, .ref 19), (1, .int v1), (2, .int v2)] [.int r2.1] r2.2)) := rfl
set_option maxRecDepth 100000 in
set_option maxHeartbeats 4000000 in
theorem e145_27 (C : xC) (k : xK) (v1 v2 s0 : Int32) (σ : xS) : x_b x_i145 C k 27 [(0, .ref 19), (1, .int v1), (2, .int v2)] [.int s0] σ = (if v1 = (4 : Int32) then ((C 134 [.ref 19, .int (2 : Int32)] σ).bind fun r5 => ((C 129 [.ref 19, .int v2, .int r5.1] r5.2).bind fun r6 => k 101 [(0, .ref 19), (1, .int v1)] [] r6.2)) else (if v1 = (5 : Int32) then ((C 141 [.ref 19, .int v2] σ).bind fun r3 => ((C 144 [.ref 19, .int (2 : Int32), .int r3.1] r3.2).bind fun r4 => k 101 [(0, .ref 19), (1, .int v1)] [] r4.2)) else (if (v1 - v1 / (2 : Int32) * (2 : Int32)) = 0 then ((C 127 [.ref 19, .int s0, .int (σ 22 7)] σ).bind fun r2 => k 101 [(0, .ref 19), (1, .int v1)] [] r2.2) else ((C 122 [.ref 19, .int s0] σ).bind fun r1 => k 101 [(0, .ref 19), (1, .int v1)] [] (x_up r1.2 22 7 r1.1))))) := rfl
set_option maxRecDepth 100000 in
set_option maxHeartbeats 4000000 in
theorem e145_101 (C : xC) (k : xK) (v1 : Int32) (σ : xS) : x_b x_i145 C k 101 [(0, .ref 19), (1, .int v1)] [] σ = (if v1 ≤ (3 : Int32) then some (0, (x_up σ 19 5 ((σ 19 5) + (0 : Int32)))) else some (0, (x_up σ 19 5 ((σ 19 5) + (2 : Int32))))) := rfl
-- DeskMachineModel.valueOf(I)I (19,)
set_option maxRecDepth 100000 in
set_option maxHeartbeats 4000000 in
theorem e146_0 (C : xC) (k : xK) (v1 : Int32) (σ : xS) : x_b x_i146 C k 0 [(0, .ref 19), (1, .int v1)] [] σ = (if v1 = (6 : Int32) then ((C 134 [.ref 19, .int (2 : Int32)] σ).bind fun r1 => ((C 122 [.ref 19, .int r1.1] r1.2).bind fun r2 => some (r2.1, r2.2))) else (if v1 < 0 ∨ 8 ≤ v1.toNatClampNeg then none else some ((σ 22 v1.toNatClampNeg), σ))) := rfl
-- DeskMachineModel.setTo(II)V (19,)
set_option maxRecDepth 100000 in
set_option maxHeartbeats 4000000 in
theorem e147_0 (C : xC) (k : xK) (v1 v2 : Int32) (σ : xS) : x_b x_i147 C k 0 [(0, .ref 19), (1, .int v1), (2, .int v2)] [] σ = (if v1 = (6 : Int32) then ((C 134 [.ref 19, .int (2 : Int32)] σ).bind fun r1 => ((C 127 [.ref 19, .int r1.1, .int v2] r1.2).bind fun r2 => some (0, r2.2))) else (if v1 < 0 ∨ 8 ≤ v1.toNatClampNeg then none else some (0, (x_up σ 22 (v1.toNatClampNeg) (v2 &&& (255 : Int32)))))) := rfl
-- DeskMachineModel.tells(I)V (19,)
set_option maxRecDepth 100000 in
set_option maxHeartbeats 4000000 in
theorem e148_0 (C : xC) (k : xK) (v1 : Int32) (σ : xS) : x_b x_i148 C k 0 [(0, .ref 19), (1, .int v1)] [] σ = k 4 [(0, .ref 19), (1, .int v1), (2, .int (0 : Int32)), (3, .int (0 : Int32))] [] σ := rfl
set_option maxRecDepth 100000 in
set_option maxHeartbeats 4000000 in
theorem e148_4 (C : xC) (k : xK) (v1 v2 v3 : Int32) (σ : xS) : x_b x_i148 C k 4 [(0, .ref 19), (1, .int v1), (2, .int v2), (3, .int v3)] [] σ = (if (8 : Int32) ≤ v3 then (if v1 = 0 then some (0, (x_up (x_up (x_up σ 19 7 ((v1 >>> ((7 : Int32) &&& 31)) &&& (1 : Int32))) 19 8 (1 : Int32)) 19 9 ((1 : Int32) - (v2 - v2 / (2 : Int32) * (2 : Int32))))) else some (0, (x_up (x_up (x_up σ 19 7 ((v1 >>> ((7 : Int32) &&& 31)) &&& (1 : Int32))) 19 8 (0 : Int32)) 19 9 ((1 : Int32) - (v2 - v2 / (2 : Int32) * (2 : Int32)))))) else k 4 [(0, .ref 19), (1, .int v1), (2, .int (v2 + ((v1 >>> (v3 &&& 31)) &&& (1 : Int32)))), (3, .int (v3 + (1 : Int32)))] [] σ) := rfl
-- DeskMachineModel.added(II)I (19,)
set_option maxRecDepth 100000 in
set_option maxHeartbeats 4000000 in
theorem e149_0 (C : xC) (k : xK) (v1 v2 : Int32) (σ : xS) : x_b x_i149 C k 0 [(0, .ref 19), (1, .int v1), (2, .int v2)] [] σ = (if ((((σ 22 7) - (σ 22 7) / (16 : Int32) * (16 : Int32)) + (v1 - v1 / (16 : Int32) * (16 : Int32))) + v2) ≤ (15 : Int32) then (if (((σ 22 7) + v1) + v2) ≤ (255 : Int32) then some (((((σ 22 7) + v1) + v2) &&& (255 : Int32)), (x_up (x_up σ 19 10 (0 : Int32)) 19 11 (0 : Int32))) else some (((((σ 22 7) + v1) + v2) &&& (255 : Int32)), (x_up (x_up σ 19 10 (0 : Int32)) 19 11 (1 : Int32)))) else (if (((σ 22 7) + v1) + v2) ≤ (255 : Int32) then some (((((σ 22 7) + v1) + v2) &&& (255 : Int32)), (x_up (x_up σ 19 10 (1 : Int32)) 19 11 (0 : Int32))) else some (((((σ 22 7) + v1) + v2) &&& (255 : Int32)), (x_up (x_up σ 19 10 (1 : Int32)) 19 11 (1 : Int32))))) := rfl
-- DeskMachineModel.adjusts()V (19,)
set_option maxRecDepth 100000 in
set_option maxHeartbeats 4000000 in
theorem e150_0 (C : xC) (k : xK) (σ : xS) : x_b x_i150 C k 0 [(0, .ref 19)] [] σ = (if (9 : Int32) < ((σ 22 7) - (σ 22 7) / (16 : Int32) * (16 : Int32)) then k 31 [(0, .ref 19), (1, .int (σ 22 7))] [.int (6 : Int32)] σ else (if (σ 19 10) = (1 : Int32) then k 31 [(0, .ref 19), (1, .int (σ 22 7))] [.int (6 : Int32)] σ else k 31 [(0, .ref 19), (1, .int (σ 22 7))] [.int (0 : Int32)] σ)) := rfl
set_option maxRecDepth 100000 in
set_option maxHeartbeats 4000000 in
theorem e150_31 (C : xC) (k : xK) (v1 s0 : Int32) (σ : xS) : x_b x_i150 C k 31 [(0, .ref 19), (1, .int v1)] [.int s0] σ = (if (153 : Int32) < v1 then ((C 149 [.ref 19, .int (s0 + ((96 : Int32) * (1 : Int32))), .int (0 : Int32)] σ).bind fun r1 => ((C 148 [.ref 19, .int r1.1] (x_up (x_up r1.2 19 11 (1 : Int32)) 22 7 r1.1)).bind fun r2 => some (0, r2.2))) else (if (σ 19 11) = (1 : Int32) then ((C 149 [.ref 19, .int (s0 + ((96 : Int32) * (1 : Int32))), .int (0 : Int32)] σ).bind fun r5 => ((C 148 [.ref 19, .int r5.1] (x_up (x_up r5.2 19 11 (1 : Int32)) 22 7 r5.1)).bind fun r6 => some (0, r6.2))) else ((C 149 [.ref 19, .int (s0 + ((96 : Int32) * (0 : Int32))), .int (0 : Int32)] σ).bind fun r3 => ((C 148 [.ref 19, .int r3.1] (x_up (x_up r3.2 19 11 (0 : Int32)) 22 7 r3.1)).bind fun r4 => some (0, r4.2))))) := rfl
-- DeskMachineModel.turns(I)V (19,)
set_option maxRecDepth 100000 in
set_option maxHeartbeats 4000000 in
theorem e151_0 (C : xC) (k : xK) (v1 : Int32) (σ : xS) : x_b x_i151 C k 0 [(0, .ref 19), (1, .int v1)] [] σ = (if v1 = (4 : Int32) then ((C 150 [.ref 19] σ).bind fun r1 => some (0, r1.2)) else (if (4 : Int32) ≤ v1 then k 109 [(0, .ref 19), (1, .int v1), (2, .int (σ 22 7))] [] σ else (if v1 = 0 then k 55 [(0, .ref 19), (1, .int v1), (2, .int (σ 22 7)), (3, .int ((σ 22 7) >>> ((7 : Int32) &&& 31))), (4, .int ((σ 22 7) &&& (1 : Int32)))] [.int ((σ 22 7) >>> ((7 : Int32) &&& 31))] σ else (if v1 = (1 : Int32) then k 55 [(0, .ref 19), (1, .int v1), (2, .int (σ 22 7)), (3, .int ((σ 22 7) >>> ((7 : Int32) &&& 31))), (4, .int ((σ 22 7) &&& (1 : Int32)))] [.int ((σ 22 7) &&& (1 : Int32))] σ else k 55 [(0, .ref 19), (1, .int v1), (2, .int (σ 22 7)), (3, .int ((σ 22 7) >>> ((7 : Int32) &&& 31))), (4, .int ((σ 22 7) &&& (1 : Int32)))] [.int (σ 19 11)] σ)))) := rfl
set_option maxRecDepth 100000 in
set_option maxHeartbeats 4000000 in
theorem e151_109 (C : xC) (k : xK) (v1 v2 : Int32) (σ : xS) : x_b x_i151 C k 109 [(0, .ref 19), (1, .int v1), (2, .int v2)] [] σ = (if v1 = (5 : Int32) then (if v1 = (6 : Int32) then some (0, (x_up (x_up σ 22 7 ((255 : Int32) - v2)) 19 11 (1 : Int32))) else (if v1 = (7 : Int32) then some (0, (x_up (x_up σ 22 7 ((255 : Int32) - v2)) 19 11 ((1 : Int32) - ((x_up σ 22 7 ((255 : Int32) - v2)) 19 11)))) else some (0, (x_up (x_up σ 22 7 ((255 : Int32) - v2)) 19 11 ((x_up σ 22 7 ((255 : Int32) - v2)) 19 11))))) else (if v1 = (6 : Int32) then some (0, (x_up (x_up σ 22 7 (σ 22 7)) 19 11 (1 : Int32))) else (if v1 = (7 : Int32) then some (0, (x_up (x_up σ 22 7 (σ 22 7)) 19 11 ((1 : Int32) - ((x_up σ 22 7 (σ 22 7)) 19 11)))) else some (0, (x_up (x_up σ 22 7 (σ 22 7)) 19 11 ((x_up σ 22 7 (σ 22 7)) 19 11)))))) := rfl
set_option maxRecDepth 100000 in
set_option maxHeartbeats 4000000 in
theorem e151_55 (C : xC) (k : xK) (v1 v2 v3 v4 s0 : Int32) (σ : xS) : x_b x_i151 C k 55 [(0, .ref 19), (1, .int v1), (2, .int v2), (3, .int v3), (4, .int v4)] [.int s0] σ = (if (v1 - v1 / (2 : Int32) * (2 : Int32)) = 0 then (if (v1 - v1 / (2 : Int32) * (2 : Int32)) = 0 then k 109 [(0, .ref 19), (1, .int v1), (2, .int v2)] [] (x_up (x_up σ 22 7 ((((2 : Int32) * v2) - ((2 : Int32) * v2) / (256 : Int32) * (256 : Int32)) + s0)) 19 11 v3) else k 109 [(0, .ref 19), (1, .int v1), (2, .int v2)] [] (x_up (x_up σ 22 7 ((((2 : Int32) * v2) - ((2 : Int32) * v2) / (256 : Int32) * (256 : Int32)) + s0)) 19 11 v4)) else (if (v1 - v1 / (2 : Int32) * (2 : Int32)) = 0 then k 109 [(0, .ref 19), (1, .int v1), (2, .int v2)] [] (x_up (x_up σ 22 7 ((v2 / (2 : Int32)) + ((128 : Int32) * s0))) 19 11 v3) else k 109 [(0, .ref 19), (1, .int v1), (2, .int v2)] [] (x_up (x_up σ 22 7 ((v2 / (2 : Int32)) + ((128 : Int32) * s0))) 19 11 v4))) := rfl
-- DeskMachineModel.steps0(II)V (19,)
set_option maxRecDepth 100000 in
set_option maxHeartbeats 4000000 in
theorem e152_0 (C : xC) (k : xK) (v1 v2 : Int32) (σ : xS) : x_b x_i152 C k 0 [(0, .ref 19), (1, .int v1), (2, .int v2)] [] σ = ((C 122 [.ref 19, .int (σ 19 5)] σ).bind fun r1 => ((C 141 [.ref 19, .int (r1.2 19 5)] r1.2).bind fun r2 => (if v2 = (1 : Int32) then (if (v1 - v1 / (2 : Int32) * (2 : Int32)) = 0 then ((C 144 [.ref 19, .int (v1 / (2 : Int32)), .int r2.1] r2.2).bind fun r3 => some (0, (x_up r3.2 19 5 ((r3.2 19 5) + (2 : Int32))))) else k 56 [(0, .ref 19), (1, .int v1), (2, .int v2), (3, .int r1.1), (4, .int r2.1), (5, .int (v1 / (2 : Int32)))] [] r2.2) else k 56 [(0, .ref 19), (1, .int v1), (2, .int v2), (3, .int r1.1), (4, .int r2.1), (5, .int (v1 / (2 : Int32)))] [] r2.2))) := rfl
set_option maxRecDepth 100000 in
set_option maxHeartbeats 4000000 in
theorem e152_56 (C : xC) (k : xK) (v1 v2 v3 v4 v5 : Int32) (σ : xS) : x_b x_i152 C k 56 [(0, .ref 19), (1, .int v1), (2, .int v2), (3, .int v3), (4, .int v4), (5, .int v5)] [] σ = (if v2 = (1 : Int32) then ((C 134 [.ref 19, .int (2 : Int32)] σ).bind fun r9 => ((C 134 [.ref 19, .int v5] r9.2).bind fun r10 => (if (r9.1 + r10.1) ≤ (Int32.ofNat 65535) then ((C 144 [.ref 19, .int (2 : Int32), .int (r9.1 + r10.1)] (x_up r10.2 19 11 (0 : Int32))).bind fun r11 => some (0, r11.2)) else ((C 144 [.ref 19, .int (2 : Int32), .int (r9.1 + r10.1)] (x_up r10.2 19 11 (1 : Int32))).bind fun r12 => some (0, r12.2))))) else (if v2 = (2 : Int32) then ((C 145 [.ref 19, .int v1, .int v4] σ).bind fun r8 => some (0, r8.2)) else (if v2 = (3 : Int32) then ((C 134 [.ref 19, .int v5] σ).bind fun r5 => (if (v1 - v1 / (2 : Int32) * (2 : Int32)) = 0 then ((C 144 [.ref 19, .int v5, .int (r5.1 + (1 : Int32))] r5.2).bind fun r7 => some (0, r7.2)) else ((C 144 [.ref 19, .int v5, .int (r5.1 + (-1 : Int32))] r5.2).bind fun r6 => some (0, r6.2)))) else (if v2 = (4 : Int32) then ((C 146 [.ref 19, .int v1] σ).bind fun r1 => (if v2 = (4 : Int32) then k 175 [(0, .ref 19), (1, .int v1), (2, .int v2)] [.int (1 : Int32), .int r1.1] r1.2 else k 175 [(0, .ref 19), (1, .int v1), (2, .int v2)] [.int (255 : Int32), .int r1.1] r1.2)) else (if v2 = (5 : Int32) then ((C 146 [.ref 19, .int v1] σ).bind fun r4 => (if v2 = (4 : Int32) then k 175 [(0, .ref 19), (1, .int v1), (2, .int v2)] [.int (1 : Int32), .int r4.1] r4.2 else k 175 [(0, .ref 19), (1, .int v1), (2, .int v2)] [.int (255 : Int32), .int r4.1] r4.2)) else (if v2 = (6 : Int32) then ((C 147 [.ref 19, .int v1, .int v3] σ).bind fun r3 => some (0, (x_up r3.2 19 5 ((r3.2 19 5) + (1 : Int32))))) else (if v2 = (7 : Int32) then ((C 151 [.ref 19, .int v1] σ).bind fun r2 => some (0, r2.2)) else some (0, σ)))))))) := rfl
set_option maxRecDepth 100000 in
set_option maxHeartbeats 4000000 in
theorem e152_175 (C : xC) (k : xK) (v1 v2 s0 s1 : Int32) (σ : xS) : x_b x_i152 C k 175 [(0, .ref 19), (1, .int v1), (2, .int v2)] [.int s0, .int s1] σ = ((C 147 [.ref 19, .int v1, .int ((s1 + s0) &&& (255 : Int32))] σ).bind fun r1 => (if v2 = (4 : Int32) then (if (((s1 + s0) &&& (255 : Int32)) - ((s1 + s0) &&& (255 : Int32)) / (16 : Int32) * (16 : Int32)) = 0 then ((C 148 [.ref 19, .int ((s1 + s0) &&& (255 : Int32))] (x_up r1.2 19 10 (1 : Int32))).bind fun r5 => some (0, r5.2)) else ((C 148 [.ref 19, .int ((s1 + s0) &&& (255 : Int32))] (x_up r1.2 19 10 (0 : Int32))).bind fun r4 => some (0, r4.2))) else (if (((s1 + s0) &&& (255 : Int32)) - ((s1 + s0) &&& (255 : Int32)) / (16 : Int32) * (16 : Int32)) = (15 : Int32) then ((C 148 [.ref 19, .int ((s1 + s0) &&& (255 : Int32))] (x_up r1.2 19 10 (0 : Int32))).bind fun r2 => some (0, r2.2)) else ((C 148 [.ref 19, .int ((s1 + s0) &&& (255 : Int32))] (x_up r1.2 19 10 (1 : Int32))).bind fun r3 => some (0, r3.2))))) := rfl
-- DeskMachineModel.reckons(II)V (19,)
set_option maxRecDepth 100000 in
set_option maxHeartbeats 4000000 in
theorem e153_0 (C : xC) (k : xK) (v1 v2 : Int32) (σ : xS) : x_b x_i153 C k 0 [(0, .ref 19), (1, .int v1), (2, .int v2)] [] σ = (if (2 : Int32) ≤ v1 then (if v1 < (4 : Int32) then k 50 [(0, .ref 19), (1, .int v1), (2, .int v2), (3, .int (σ 22 7))] [] σ else (if v1 = (7 : Int32) then k 50 [(0, .ref 19), (1, .int v1), (2, .int v2), (3, .int (σ 22 7))] [] σ else (if v1 = (4 : Int32) then k 114 [(0, .ref 19), (1, .int v1), (2, .int v2), (3, .int (σ 22 7))] [.int ((σ 22 7) &&& v2)] σ else (if v1 = (5 : Int32) then k 114 [(0, .ref 19), (1, .int v1), (2, .int v2), (3, .int (σ 22 7))] [.int ((σ 22 7) ^^^ v2)] σ else k 114 [(0, .ref 19), (1, .int v1), (2, .int v2), (3, .int (σ 22 7))] [.int ((σ 22 7) ||| v2)] σ)))) else (if v1 = (1 : Int32) then ((C 149 [.ref 19, .int v2, .int (σ 19 11)] σ).bind fun r3 => ((C 148 [.ref 19, .int r3.1] r3.2).bind fun r4 => (if v1 = (7 : Int32) then some (0, (x_up r4.2 22 7 (σ 22 7))) else some (0, (x_up r4.2 22 7 r3.1))))) else ((C 149 [.ref 19, .int v2, .int (0 : Int32)] σ).bind fun r1 => ((C 148 [.ref 19, .int r1.1] r1.2).bind fun r2 => (if v1 = (7 : Int32) then some (0, (x_up r2.2 22 7 (σ 22 7))) else some (0, (x_up r2.2 22 7 r1.1))))))) := rfl
set_option maxRecDepth 100000 in
set_option maxHeartbeats 4000000 in
theorem e153_50 (C : xC) (k : xK) (v1 v2 v3 : Int32) (σ : xS) : x_b x_i153 C k 50 [(0, .ref 19), (1, .int v1), (2, .int v2), (3, .int v3)] [] σ = (if v1 = (3 : Int32) then ((C 149 [.ref 19, .int ((255 : Int32) - v2), .int ((1 : Int32) - (σ 19 11))] σ).bind fun r3 => ((C 148 [.ref 19, .int r3.1] (x_up r3.2 19 11 ((1 : Int32) - (r3.2 19 11)))).bind fun r4 => (if v1 = (7 : Int32) then some (0, (x_up r4.2 22 7 v3)) else some (0, (x_up r4.2 22 7 r3.1))))) else ((C 149 [.ref 19, .int ((255 : Int32) - v2), .int (1 : Int32)] σ).bind fun r1 => ((C 148 [.ref 19, .int r1.1] (x_up r1.2 19 11 ((1 : Int32) - (r1.2 19 11)))).bind fun r2 => (if v1 = (7 : Int32) then some (0, (x_up r2.2 22 7 v3)) else some (0, (x_up r2.2 22 7 r1.1)))))) := rfl
set_option maxRecDepth 100000 in
set_option maxHeartbeats 4000000 in
theorem e153_114 (C : xC) (k : xK) (v1 v2 v3 s0 : Int32) (σ : xS) : x_b x_i153 C k 114 [(0, .ref 19), (1, .int v1), (2, .int v2), (3, .int v3)] [.int s0] σ = (if v1 = (4 : Int32) then ((C 148 [.ref 19, .int s0] (x_up (x_up σ 19 10 (((v3 ||| v2) >>> ((3 : Int32) &&& 31)) &&& (1 : Int32))) 19 11 (0 : Int32))).bind fun r2 => (if v1 = (7 : Int32) then some (0, (x_up r2.2 22 7 v3)) else some (0, (x_up r2.2 22 7 s0)))) else ((C 148 [.ref 19, .int s0] (x_up (x_up σ 19 10 (0 : Int32)) 19 11 (0 : Int32))).bind fun r1 => (if v1 = (7 : Int32) then some (0, (x_up r1.2 22 7 v3)) else some (0, (x_up r1.2 22 7 s0))))) := rfl
-- DeskMachineModel.holds(I)Z (19,)
set_option maxRecDepth 100000 in
set_option maxHeartbeats 4000000 in
theorem e154_0 (C : xC) (k : xK) (v1 : Int32) (σ : xS) : x_b x_i154 C k 0 [(0, .ref 19), (1, .int v1)] [] σ = (if (2 : Int32) ≤ v1 then (if (4 : Int32) ≤ v1 then (if (6 : Int32) ≤ v1 then (if (σ 19 7) = (v1 - v1 / (2 : Int32) * (2 : Int32)) then some ((1 : Int32), σ) else some ((0 : Int32), σ)) else (if (σ 19 9) = (v1 - v1 / (2 : Int32) * (2 : Int32)) then some ((1 : Int32), σ) else some ((0 : Int32), σ))) else (if (σ 19 11) = (v1 - v1 / (2 : Int32) * (2 : Int32)) then some ((1 : Int32), σ) else some ((0 : Int32), σ))) else (if (σ 19 8) = (v1 - v1 / (2 : Int32) * (2 : Int32)) then some ((1 : Int32), σ) else some ((0 : Int32), σ))) := rfl
-- DeskMachineModel.flags()I (19,)
set_option maxRecDepth 100000 in
set_option maxHeartbeats 4000000 in
theorem e155_0 (C : xC) (k : xK) (σ : xS) : x_b x_i155 C k 0 [(0, .ref 19)] [] σ = some ((((((((128 : Int32) * (σ 19 7)) + ((64 : Int32) * (σ 19 8))) + ((16 : Int32) * (σ 19 10))) + ((4 : Int32) * (σ 19 9))) + (2 : Int32)) + (σ 19 11)), σ) := rfl
-- DeskMachineModel.piles(III)V (19,)
set_option maxRecDepth 100000 in
set_option maxHeartbeats 4000000 in
theorem e156_0 (C : xC) (k : xK) (v1 v2 v3 : Int32) (σ : xS) : x_b x_i156 C k 0 [(0, .ref 19), (1, .int v1), (2, .int v2), (3, .int v3)] [] σ = (if v2 = (5 : Int32) then (if (v1 - v1 / (2 : Int32) * (2 : Int32)) = 0 then (if v1 = (6 : Int32) then ((C 155 [.ref 19] σ).bind fun r3 => ((C 130 [.ref 19, .int (((256 : Int32) * (σ 22 7)) + r3.1)] r3.2).bind fun r4 => some (0, r4.2))) else ((C 134 [.ref 19, .int (v1 / (2 : Int32))] σ).bind fun r1 => ((C 130 [.ref 19, .int r1.1] r1.2).bind fun r2 => some (0, r2.2)))) else k 50 [(0, .ref 19), (1, .int v1), (2, .int v2), (3, .int v3)] [] σ) else k 50 [(0, .ref 19), (1, .int v1), (2, .int v2), (3, .int v3)] [] σ) := rfl
set_option maxRecDepth 100000 in
set_option maxHeartbeats 4000000 in
theorem e156_50 (C : xC) (k : xK) (v1 v2 v3 : Int32) (σ : xS) : x_b x_i156 C k 50 [(0, .ref 19), (1, .int v1), (2, .int v2), (3, .int v3)] [] σ = (if v2 = (5 : Int32) then ((C 130 [.ref 19, .int (((σ 19 5) + (2 : Int32)) &&& (Int32.ofNat 65535))] σ).bind fun r8 => some (0, (x_up r8.2 19 5 v3))) else (if v1 = (1 : Int32) then ((C 142 [.ref 19] σ).bind fun r1 => some (0, (x_up r1.2 19 5 r1.1))) else (if v1 = (3 : Int32) then ((C 142 [.ref 19] σ).bind fun r7 => some (0, (x_up r7.2 19 5 r7.1))) else (if v1 = (5 : Int32) then ((C 134 [.ref 19, .int (2 : Int32)] σ).bind fun r6 => some (0, (x_up r6.2 19 5 r6.1))) else (if v1 = (7 : Int32) then ((C 134 [.ref 19, .int (2 : Int32)] σ).bind fun r5 => some (0, (x_up r5.2 19 4 r5.1))) else ((C 142 [.ref 19] σ).bind fun r2 => (if v1 = (6 : Int32) then ((C 128 [.ref 19, .int (r2.1 &&& (255 : Int32))] (x_up r2.2 22 7 (r2.1 >>> ((8 : Int32) &&& 31)))).bind fun r4 => some (0, r4.2)) else ((C 144 [.ref 19, .int (v1 / (2 : Int32)), .int r2.1] r2.2).bind fun r3 => some (0, r3.2))))))))) := rfl
-- DeskMachineModel.exchanges(I)V (19,)
set_option maxRecDepth 100000 in
set_option maxHeartbeats 4000000 in
theorem e157_0 (C : xC) (k : xK) (v1 : Int32) (σ : xS) : x_b x_i157 C k 0 [(0, .ref 19), (1, .int v1)] [] σ = ((C 134 [.ref 19, .int (2 : Int32)] σ).bind fun r1 => (if v1 = (4 : Int32) then ((C 141 [.ref 19, .int (r1.2 19 4)] r1.2).bind fun r5 => ((C 129 [.ref 19, .int (r5.2 19 4), .int r1.1] r5.2).bind fun r6 => ((C 144 [.ref 19, .int (2 : Int32), .int r5.1] r6.2).bind fun r7 => some (0, r7.2)))) else ((C 134 [.ref 19, .int (1 : Int32)] r1.2).bind fun r2 => ((C 144 [.ref 19, .int (2 : Int32), .int r2.1] r2.2).bind fun r3 => ((C 144 [.ref 19, .int (1 : Int32), .int r1.1] r3.2).bind fun r4 => some (0, r4.2)))))) := rfl
-- DeskMachineModel.steps3(II)V (19,)
set_option maxRecDepth 100000 in
set_option maxHeartbeats 4000000 in
theorem e158_0 (C : xC) (k : xK) (v1 v2 : Int32) (σ : xS) : x_b x_i158 C k 0 [(0, .ref 19), (1, .int v1), (2, .int v2)] [] σ = ((C 122 [.ref 19, .int (σ 19 5)] σ).bind fun r1 => ((C 141 [.ref 19, .int (r1.2 19 5)] r1.2).bind fun r2 => ((C 154 [.ref 19, .int v1] r2.2).bind fun r3 => (if v2 = 0 then (if r3.1 = 0 then some (0, (x_up r3.2 19 5 (r3.2 19 5))) else ((C 142 [.ref 19] r3.2).bind fun r8 => some (0, (x_up r8.2 19 5 r8.1)))) else (if v2 = (1 : Int32) then ((C 156 [.ref 19, .int v1, .int v2, .int r2.1] r3.2).bind fun r4 => some (0, r4.2)) else (if v2 = (5 : Int32) then ((C 156 [.ref 19, .int v1, .int v2, .int r2.1] r3.2).bind fun r7 => some (0, r7.2)) else (if v2 = (2 : Int32) then (if r3.1 = 0 then some (0, (x_up r3.2 19 5 ((r3.2 19 5) + (2 : Int32)))) else some (0, (x_up r3.2 19 5 r2.1))) else (if v2 = (3 : Int32) then (if (4 : Int32) ≤ v1 then (if v2 = (3 : Int32) then (if (6 : Int32) ≤ v1 then k 158 [(0, .ref 19), (1, .int v1), (2, .int v2), (3, .int r1.1), (4, .int r2.1), (5, .int r3.1)] [] r3.2 else ((C 157 [.ref 19, .int v1] r3.2).bind fun r6 => some (0, r6.2))) else k 158 [(0, .ref 19), (1, .int v1), (2, .int v2), (3, .int r1.1), (4, .int r2.1), (5, .int r3.1)] [] r3.2) else (if (2 : Int32) ≤ v1 then some (0, (x_up r3.2 19 5 ((r3.2 19 5) + (1 : Int32)))) else some (0, (x_up r3.2 19 5 r2.1)))) else (if v2 = (3 : Int32) then (if (6 : Int32) ≤ v1 then k 158 [(0, .ref 19), (1, .int v1), (2, .int v2), (3, .int r1.1), (4, .int r2.1), (5, .int r3.1)] [] r3.2 else ((C 157 [.ref 19, .int v1] r3.2).bind fun r5 => some (0, r5.2))) else k 158 [(0, .ref 19), (1, .int v1), (2, .int v2), (3, .int r1.1), (4, .int r2.1), (5, .int r3.1)] [] r3.2))))))))) := rfl
set_option maxRecDepth 100000 in
set_option maxHeartbeats 4000000 in
theorem e158_158 (C : xC) (k : xK) (v1 v2 v3 v4 v5 : Int32) (σ : xS) : x_b x_i158 C k 158 [(0, .ref 19), (1, .int v1), (2, .int v2), (3, .int v3), (4, .int v4), (5, .int v5)] [] σ = (if v2 = (4 : Int32) then (if v5 = 0 then (if v5 = 0 then some (0, (x_up σ 19 5 ((σ 19 5) + (2 : Int32)))) else some (0, (x_up σ 19 5 v4))) else ((C 130 [.ref 19, .int (((σ 19 5) + (2 : Int32)) &&& (Int32.ofNat 65535))] σ).bind fun r3 => (if v5 = 0 then some (0, (x_up r3.2 19 5 ((r3.2 19 5) + (2 : Int32)))) else some (0, (x_up r3.2 19 5 v4))))) else (if v2 = (6 : Int32) then ((C 153 [.ref 19, .int v1, .int v3] σ).bind fun r2 => some (0, (x_up r2.2 19 5 ((r2.2 19 5) + (1 : Int32))))) else (if v2 = (7 : Int32) then ((C 130 [.ref 19, .int ((σ 19 5) &&& (Int32.ofNat 65535))] σ).bind fun r1 => some (0, (x_up r1.2 19 5 ((8 : Int32) * v1)))) else some (0, σ)))) := rfl
-- DeskMachineModel.instruction()V (19,)
set_option maxRecDepth 100000 in
set_option maxHeartbeats 4000000 in
theorem e159_0 (C : xC) (k : xK) (σ : xS) : x_b x_i159 C k 0 [(0, .ref 19)] [] σ = ((C 122 [.ref 19, .int (σ 19 5)] σ).bind fun r1 => (if (r1.1 / (64 : Int32)) = 0 then ((C 152 [.ref 19, .int ((r1.1 / (8 : Int32)) - (r1.1 / (8 : Int32)) / (8 : Int32) * (8 : Int32)), .int (r1.1 - r1.1 / (8 : Int32) * (8 : Int32))] (x_up r1.2 19 5 ((r1.2 19 5) + (1 : Int32)))).bind fun r2 => some (0, (x_up r2.2 19 5 ((r2.2 19 5) &&& (Int32.ofNat 65535))))) else (if (r1.1 / (64 : Int32)) = (1 : Int32) then (if ((r1.1 / (8 : Int32)) - (r1.1 / (8 : Int32)) / (8 : Int32) * (8 : Int32)) = (6 : Int32) then (if (r1.1 - r1.1 / (8 : Int32) * (8 : Int32)) = (6 : Int32) then some (0, (x_up (x_up (x_up r1.2 19 5 ((r1.2 19 5) + (1 : Int32))) 19 12 (0 : Int32)) 19 5 (((x_up (x_up r1.2 19 5 ((r1.2 19 5) + (1 : Int32))) 19 12 (0 : Int32)) 19 5) &&& (Int32.ofNat 65535)))) else k 78 [(0, .ref 19), (2, .int (r1.1 / (64 : Int32))), (3, .int ((r1.1 / (8 : Int32)) - (r1.1 / (8 : Int32)) / (8 : Int32) * (8 : Int32))), (4, .int (r1.1 - r1.1 / (8 : Int32) * (8 : Int32)))] [] (x_up r1.2 19 5 ((r1.2 19 5) + (1 : Int32)))) else k 78 [(0, .ref 19), (2, .int (r1.1 / (64 : Int32))), (3, .int ((r1.1 / (8 : Int32)) - (r1.1 / (8 : Int32)) / (8 : Int32) * (8 : Int32))), (4, .int (r1.1 - r1.1 / (8 : Int32) * (8 : Int32)))] [] (x_up r1.2 19 5 ((r1.2 19 5) + (1 : Int32)))) else k 78 [(0, .ref 19), (2, .int (r1.1 / (64 : Int32))), (3, .int ((r1.1 / (8 : Int32)) - (r1.1 / (8 : Int32)) / (8 : Int32) * (8 : Int32))), (4, .int (r1.1 - r1.1 / (8 : Int32) * (8 : Int32)))] [] (x_up r1.2 19 5 ((r1.2 19 5) + (1 : Int32)))))) := rfl
set_option maxRecDepth 100000 in
set_option maxHeartbeats 4000000 in
theorem e159_78 (C : xC) (k : xK) (v2 v3 v4 : Int32) (σ : xS) : x_b x_i159 C k 78 [(0, .ref 19), (2, .int v2), (3, .int v3), (4, .int v4)] [] σ = (if v2 = (1 : Int32) then ((C 146 [.ref 19, .int v4] σ).bind fun r4 => ((C 147 [.ref 19, .int v3, .int r4.1] r4.2).bind fun r5 => some (0, (x_up r5.2 19 5 ((r5.2 19 5) &&& (Int32.ofNat 65535)))))) else (if v2 = (2 : Int32) then ((C 146 [.ref 19, .int v4] σ).bind fun r2 => ((C 153 [.ref 19, .int v3, .int r2.1] r2.2).bind fun r3 => some (0, (x_up r3.2 19 5 ((r3.2 19 5) &&& (Int32.ofNat 65535)))))) else ((C 158 [.ref 19, .int v3, .int v4] σ).bind fun r1 => some (0, (x_up r1.2 19 5 ((r1.2 19 5) &&& (Int32.ofNat 65535))))))) := rfl
-- DeskMachineModel.goes()Z (19,)
set_option maxRecDepth 100000 in
set_option maxHeartbeats 4000000 in
theorem e160_0 (C : xC) (k : xK) (σ : xS) : x_b x_i160 C k 0 [(0, .ref 19)] [] σ = (if (σ 19 12) = 0 then (if (σ 19 13) = 0 then some ((0 : Int32), σ) else ((C 107 [.ref 19] σ).bind fun r3 => ((C 133 [.ref 19, .int r3.1] r3.2).bind fun r4 => some ((1 : Int32), r4.2)))) else (if (σ 19 5) = (5 : Int32) then ((C 143 [.ref 19] σ).bind fun r2 => (if r2.1 = 0 then some ((0 : Int32), r2.2) else (if (r2.2 19 5) = 0 then some ((1 : Int32), (x_up r2.2 19 12 (0 : Int32))) else some ((1 : Int32), (x_up r2.2 19 12 (r2.2 19 12)))))) else ((C 159 [.ref 19] σ).bind fun r1 => (if (r1.2 19 5) = 0 then some ((1 : Int32), (x_up r1.2 19 12 (0 : Int32))) else some ((1 : Int32), (x_up r1.2 19 12 (r1.2 19 12))))))) := rfl
-- DeskMachineModel.run(I)I (19,)
set_option maxRecDepth 100000 in
set_option maxHeartbeats 4000000 in
theorem e161_0 (C : xC) (k : xK) (v1 : Int32) (σ : xS) : x_b x_i161 C k 0 [(0, .ref 19), (1, .int v1)] [] σ = (if v1 < (1 : Int32) then (if ((x_up σ 19 0 (1 : Int32)) 19 0) = 0 then k 36 [(0, .ref 19), (1, .int v1), (2, .int (0 : Int32)), (3, .int (1 : Int32))] [] (x_up σ 19 0 (1 : Int32)) else k 36 [(0, .ref 19), (1, .int v1), (2, .int (0 : Int32)), (3, .int (0 : Int32))] [] (x_up σ 19 0 (1 : Int32))) else (if v1 ≤ (1000 : Int32) then (if ((x_up σ 19 0 (0 : Int32)) 19 0) = 0 then k 36 [(0, .ref 19), (1, .int v1), (2, .int (0 : Int32)), (3, .int (1 : Int32))] [] (x_up σ 19 0 (0 : Int32)) else k 36 [(0, .ref 19), (1, .int v1), (2, .int (0 : Int32)), (3, .int (0 : Int32))] [] (x_up σ 19 0 (0 : Int32))) else (if ((x_up σ 19 0 (1 : Int32)) 19 0) = 0 then k 36 [(0, .ref 19), (1, .int v1), (2, .int (0 : Int32)), (3, .int (1 : Int32))] [] (x_up σ 19 0 (1 : Int32)) else k 36 [(0, .ref 19), (1, .int v1), (2, .int (0 : Int32)), (3, .int (0 : Int32))] [] (x_up σ 19 0 (1 : Int32))))) := rfl
set_option maxRecDepth 100000 in
set_option maxHeartbeats 4000000 in
theorem e161_36 (C : xC) (k : xK) (v1 v2 v3 : Int32) (σ : xS) : x_b x_i161 C k 36 [(0, .ref 19), (1, .int v1), (2, .int v2), (3, .int v3)] [] σ = (if v3 = 0 then some (v2, (x_up σ 19 19 ((σ 19 19) + v2))) else (if v1 ≤ v2 then some (v2, (x_up σ 19 19 ((σ 19 19) + v2))) else ((C 160 [.ref 19] σ).bind fun r1 => (if r1.1 = 0 then k 36 [(0, .ref 19), (1, .int v1), (2, .int (v2 + (0 : Int32))), (3, .int r1.1)] [] r1.2 else k 36 [(0, .ref 19), (1, .int v1), (2, .int (v2 + (1 : Int32))), (3, .int r1.1)] [] r1.2)))) := rfl
-- DeskMachineModel.isByte(I)Z ()
set_option maxRecDepth 100000 in
set_option maxHeartbeats 4000000 in
theorem e162_0 (C : xC) (k : xK) (v0 : Int32) (σ : xS) : x_b x_i162 C k 0 [(0, .int v0)] [] σ = (if v0 < 0 then some ((0 : Int32), σ) else (if (255 : Int32) < v0 then some ((0 : Int32), σ) else some ((1 : Int32), σ))) := rfl
-- DeskMachineModel.poke(II)Z (19,)
set_option maxRecDepth 100000 in
set_option maxHeartbeats 4000000 in
theorem e163_0 (C : xC) (k : xK) (v1 v2 : Int32) (σ : xS) : x_b x_i163 C k 0 [(0, .ref 19), (1, .int v1), (2, .int v2)] [] σ = (if v1 < 0 then k 19 [(0, .ref 19), (1, .int v1), (2, .int v2)] [.ref 19] σ else (if (511 : Int32) < v1 then k 19 [(0, .ref 19), (1, .int v1), (2, .int v2)] [.ref 19] σ else ((C 162 [.int v2] σ).bind fun r1 => (if r1.1 = 0 then k 19 [(0, .ref 19), (1, .int v1), (2, .int v2)] [.ref 19] r1.2 else (if ((x_up r1.2 19 0 (0 : Int32)) 19 0) = 0 then (if v1 < 0 ∨ 512 ≤ v1.toNatClampNeg then none else (if ((x_up (x_up r1.2 19 0 (0 : Int32)) 20 (v1.toNatClampNeg) v2) 19 0) = 0 then some ((1 : Int32), (x_up (x_up r1.2 19 0 (0 : Int32)) 20 (v1.toNatClampNeg) v2)) else some ((0 : Int32), (x_up (x_up r1.2 19 0 (0 : Int32)) 20 (v1.toNatClampNeg) v2)))) else (if ((x_up r1.2 19 0 (0 : Int32)) 19 0) = 0 then some ((1 : Int32), (x_up r1.2 19 0 (0 : Int32))) else some ((0 : Int32), (x_up r1.2 19 0 (0 : Int32))))))))) := rfl
set_option maxRecDepth 100000 in
set_option maxHeartbeats 4000000 in
theorem e163_19 (C : xC) (k : xK) (v1 v2 : Int32) (σ : xS) : x_b x_i163 C k 19 [(0, .ref 19), (1, .int v1), (2, .int v2)] [.ref 19] σ = (if ((x_up σ 19 0 (1 : Int32)) 19 0) = 0 then (if v1 < 0 ∨ 512 ≤ v1.toNatClampNeg then none else (if ((x_up (x_up σ 19 0 (1 : Int32)) 20 (v1.toNatClampNeg) v2) 19 0) = 0 then some ((1 : Int32), (x_up (x_up σ 19 0 (1 : Int32)) 20 (v1.toNatClampNeg) v2)) else some ((0 : Int32), (x_up (x_up σ 19 0 (1 : Int32)) 20 (v1.toNatClampNeg) v2)))) else (if ((x_up σ 19 0 (1 : Int32)) 19 0) = 0 then some ((1 : Int32), (x_up σ 19 0 (1 : Int32))) else some ((0 : Int32), (x_up σ 19 0 (1 : Int32))))) := rfl
-- DeskMachineModel.peek(I)I (19,)
set_option maxRecDepth 100000 in
set_option maxHeartbeats 4000000 in
theorem e164_0 (C : xC) (k : xK) (v1 : Int32) (σ : xS) : x_b x_i164 C k 0 [(0, .ref 19), (1, .int v1)] [] σ = (if v1 < 0 then (if ((x_up σ 19 0 (1 : Int32)) 19 0) = 0 then (if v1 < 0 ∨ 512 ≤ v1.toNatClampNeg then none else some (((x_up σ 19 0 (1 : Int32)) 20 v1.toNatClampNeg), (x_up σ 19 0 (1 : Int32)))) else some ((0 : Int32), (x_up σ 19 0 (1 : Int32)))) else (if v1 ≤ (511 : Int32) then (if ((x_up σ 19 0 (0 : Int32)) 19 0) = 0 then (if v1 < 0 ∨ 512 ≤ v1.toNatClampNeg then none else some (((x_up σ 19 0 (0 : Int32)) 20 v1.toNatClampNeg), (x_up σ 19 0 (0 : Int32)))) else some ((0 : Int32), (x_up σ 19 0 (0 : Int32)))) else (if ((x_up σ 19 0 (1 : Int32)) 19 0) = 0 then (if v1 < 0 ∨ 512 ≤ v1.toNatClampNeg then none else some (((x_up σ 19 0 (1 : Int32)) 20 v1.toNatClampNeg), (x_up σ 19 0 (1 : Int32)))) else some ((0 : Int32), (x_up σ 19 0 (1 : Int32)))))) := rfl
-- DeskMachineModel.isPlace(II)Z ()
set_option maxRecDepth 100000 in
set_option maxHeartbeats 4000000 in
theorem e165_0 (C : xC) (k : xK) (v0 v1 : Int32) (σ : xS) : x_b x_i165 C k 0 [(0, .int v0), (1, .int v1)] [] σ = (if v0 < 0 then some ((0 : Int32), σ) else (if (31 : Int32) < v0 then some ((0 : Int32), σ) else (if v1 < 0 then some ((0 : Int32), σ) else (if (15 : Int32) < v1 then some ((0 : Int32), σ) else some ((1 : Int32), σ))))) := rfl
-- DeskMachineModel.disk(II)I (19,)
set_option maxRecDepth 100000 in
set_option maxHeartbeats 4000000 in
theorem e166_0 (C : xC) (k : xK) (v1 v2 : Int32) (σ : xS) : x_b x_i166 C k 0 [(0, .ref 19), (1, .int v1), (2, .int v2)] [] σ = ((C 165 [.int v1, .int v2] σ).bind fun r1 => (if r1.1 = 0 then (if ((x_up r1.2 19 0 (1 : Int32)) 19 0) = 0 then (if (((16 : Int32) * v1) + v2) < 0 ∨ 512 ≤ (((16 : Int32) * v1) + v2).toNatClampNeg then none else some (((x_up r1.2 19 0 (1 : Int32)) 21 (((16 : Int32) * v1) + v2).toNatClampNeg), (x_up r1.2 19 0 (1 : Int32)))) else some ((0 : Int32), (x_up r1.2 19 0 (1 : Int32)))) else (if ((x_up r1.2 19 0 (0 : Int32)) 19 0) = 0 then (if (((16 : Int32) * v1) + v2) < 0 ∨ 512 ≤ (((16 : Int32) * v1) + v2).toNatClampNeg then none else some (((x_up r1.2 19 0 (0 : Int32)) 21 (((16 : Int32) * v1) + v2).toNatClampNeg), (x_up r1.2 19 0 (0 : Int32)))) else some ((0 : Int32), (x_up r1.2 19 0 (0 : Int32)))))) := rfl
-- DeskMachineModel.burn(III)Z (19,)
set_option maxRecDepth 100000 in
set_option maxHeartbeats 4000000 in
theorem e167_0 (C : xC) (k : xK) (v1 v2 v3 : Int32) (σ : xS) : x_b x_i167 C k 0 [(0, .ref 19), (1, .int v1), (2, .int v2), (3, .int v3)] [] σ = ((C 165 [.int v1, .int v2] σ).bind fun r1 => (if r1.1 = 0 then (if ((x_up r1.2 19 0 (1 : Int32)) 19 0) = 0 then (if (((16 : Int32) * v1) + v2) < 0 ∨ 512 ≤ (((16 : Int32) * v1) + v2).toNatClampNeg then none else (if ((x_up (x_up r1.2 19 0 (1 : Int32)) 21 ((((16 : Int32) * v1) + v2).toNatClampNeg) v3) 19 0) = 0 then some ((1 : Int32), (x_up (x_up r1.2 19 0 (1 : Int32)) 21 ((((16 : Int32) * v1) + v2).toNatClampNeg) v3)) else some ((0 : Int32), (x_up (x_up r1.2 19 0 (1 : Int32)) 21 ((((16 : Int32) * v1) + v2).toNatClampNeg) v3)))) else (if ((x_up r1.2 19 0 (1 : Int32)) 19 0) = 0 then some ((1 : Int32), (x_up r1.2 19 0 (1 : Int32))) else some ((0 : Int32), (x_up r1.2 19 0 (1 : Int32))))) else ((C 162 [.int v3] r1.2).bind fun r2 => (if r2.1 = 0 then (if ((x_up r2.2 19 0 (1 : Int32)) 19 0) = 0 then (if (((16 : Int32) * v1) + v2) < 0 ∨ 512 ≤ (((16 : Int32) * v1) + v2).toNatClampNeg then none else (if ((x_up (x_up r2.2 19 0 (1 : Int32)) 21 ((((16 : Int32) * v1) + v2).toNatClampNeg) v3) 19 0) = 0 then some ((1 : Int32), (x_up (x_up r2.2 19 0 (1 : Int32)) 21 ((((16 : Int32) * v1) + v2).toNatClampNeg) v3)) else some ((0 : Int32), (x_up (x_up r2.2 19 0 (1 : Int32)) 21 ((((16 : Int32) * v1) + v2).toNatClampNeg) v3)))) else (if ((x_up r2.2 19 0 (1 : Int32)) 19 0) = 0 then some ((1 : Int32), (x_up r2.2 19 0 (1 : Int32))) else some ((0 : Int32), (x_up r2.2 19 0 (1 : Int32))))) else (if ((x_up r2.2 19 0 (0 : Int32)) 19 0) = 0 then (if (((16 : Int32) * v1) + v2) < 0 ∨ 512 ≤ (((16 : Int32) * v1) + v2).toNatClampNeg then none else (if ((x_up (x_up r2.2 19 0 (0 : Int32)) 21 ((((16 : Int32) * v1) + v2).toNatClampNeg) v3) 19 0) = 0 then some ((1 : Int32), (x_up (x_up r2.2 19 0 (0 : Int32)) 21 ((((16 : Int32) * v1) + v2).toNatClampNeg) v3)) else some ((0 : Int32), (x_up (x_up r2.2 19 0 (0 : Int32)) 21 ((((16 : Int32) * v1) + v2).toNatClampNeg) v3)))) else (if ((x_up r2.2 19 0 (0 : Int32)) 19 0) = 0 then some ((1 : Int32), (x_up r2.2 19 0 (0 : Int32))) else some ((0 : Int32), (x_up r2.2 19 0 (0 : Int32))))))))) := rfl
-- DeskMachineModel.shown(I)I (19,)
set_option maxRecDepth 100000 in
set_option maxHeartbeats 4000000 in
theorem e168_0 (C : xC) (k : xK) (v1 : Int32) (σ : xS) : x_b x_i168 C k 0 [(0, .ref 19), (1, .int v1)] [] σ = (if v1 < 0 then some ((-1 : Int32), (x_up σ 19 0 (0 : Int32))) else (if (63 : Int32) < v1 then some ((-1 : Int32), (x_up σ 19 0 (0 : Int32))) else (if v1 < ((x_up σ 19 0 (0 : Int32)) 19 17) then (if (((((x_up σ 19 0 (0 : Int32)) 19 17) - (1 : Int32)) - v1) - ((((x_up σ 19 0 (0 : Int32)) 19 17) - (1 : Int32)) - v1) / (64 : Int32) * (64 : Int32)) < 0 ∨ 64 ≤ (((((x_up σ 19 0 (0 : Int32)) 19 17) - (1 : Int32)) - v1) - ((((x_up σ 19 0 (0 : Int32)) 19 17) - (1 : Int32)) - v1) / (64 : Int32) * (64 : Int32)).toNatClampNeg then none else some (((x_up σ 19 0 (0 : Int32)) 25 (((((x_up σ 19 0 (0 : Int32)) 19 17) - (1 : Int32)) - v1) - ((((x_up σ 19 0 (0 : Int32)) 19 17) - (1 : Int32)) - v1) / (64 : Int32) * (64 : Int32)).toNatClampNeg), (x_up σ 19 0 (0 : Int32)))) else some ((-1 : Int32), (x_up σ 19 0 (0 : Int32)))))) := rfl
-- DeskMachineModel.register(I)I (19,)
set_option maxRecDepth 100000 in
set_option maxHeartbeats 4000000 in
theorem e169_0 (C : xC) (k : xK) (v1 : Int32) (σ : xS) : x_b x_i169 C k 0 [(0, .ref 19), (1, .int v1)] [] σ = (if v1 < 0 then some ((-1 : Int32), (x_up σ 19 0 (0 : Int32))) else (if v1 ≤ (10 : Int32) then (if v1 = (6 : Int32) then ((C 155 [.ref 19] (x_up σ 19 0 (0 : Int32))).bind fun r1 => some (r1.1, r1.2)) else (if (8 : Int32) ≤ v1 then (if v1 = (8 : Int32) then some (((x_up σ 19 0 (0 : Int32)) 19 4), (x_up σ 19 0 (0 : Int32))) else (if v1 = (9 : Int32) then some (((x_up σ 19 0 (0 : Int32)) 19 5), (x_up σ 19 0 (0 : Int32))) else some (((x_up σ 19 0 (0 : Int32)) 19 6), (x_up σ 19 0 (0 : Int32))))) else (if v1 < 0 ∨ 8 ≤ v1.toNatClampNeg then none else some (((x_up σ 19 0 (0 : Int32)) 22 v1.toNatClampNeg), (x_up σ 19 0 (0 : Int32)))))) else some ((-1 : Int32), (x_up σ 19 0 (0 : Int32))))) := rfl
-- DeskMachineModel.about(I)I (19,)
set_option maxRecDepth 100000 in
set_option maxHeartbeats 4000000 in
theorem e170_0 (C : xC) (k : xK) (v1 : Int32) (σ : xS) : x_b x_i170 C k 0 [(0, .ref 19), (1, .int v1)] [] σ = (if v1 = (0 : Int32) then some (((x_up σ 19 0 (0 : Int32)) 19 12), (x_up σ 19 0 (0 : Int32))) else (if v1 = (1 : Int32) then some (((x_up σ 19 0 (0 : Int32)) 19 13), (x_up σ 19 0 (0 : Int32))) else (if v1 = (2 : Int32) then some (((x_up σ 19 0 (0 : Int32)) 19 17), (x_up σ 19 0 (0 : Int32))) else (if v1 = (3 : Int32) then some (((x_up σ 19 0 (0 : Int32)) 19 19), (x_up σ 19 0 (0 : Int32))) else (if v1 = (4 : Int32) then some (((x_up σ 19 0 (0 : Int32)) 19 15), (x_up σ 19 0 (0 : Int32))) else some ((-1 : Int32), (x_up σ 19 0 (0 : Int32)))))))) := rfl
-- DeskMachineModel.thrown()I (19,)
set_option maxRecDepth 100000 in
set_option maxHeartbeats 4000000 in
theorem e171_0 (C : xC) (k : xK) (σ : xS) : x_b x_i171 C k 0 [(0, .ref 19)] [] σ = some ((σ 19 0), σ) := rfl
