theorem d_L_law_391 : decode code 391 = .ok (.bipush 7, 2) := by decide +kernel
theorem d_L_law_393 : decode code 393 = .ok (.iadd, 1) := by decide +kernel
theorem d_L_law_394 : decode code 394 = .ok (.iaload, 1) := by decide +kernel
theorem d_L_law_395 : decode code 395 = .ok (.invokevirtual 68, 3) := by decide +kernel
theorem d_L_law_398 : decode code 398 = .ok (.istore 6, 2) := by decide +kernel
theorem d_L_law_400 : decode code 400 = .ok (.aload_n 2, 1) := by decide +kernel
theorem d_L_law_401 : decode code 401 = .ok (.invokevirtual 58, 3) := by decide +kernel
theorem d_L_law_404 : decode code 404 = .ok (.iload 5, 2) := by decide +kernel
theorem d_L_law_406 : decode code 406 = .ok (.if_icmp .eq 5, 3) := by decide +kernel
theorem d_L_law_409 : decode code 409 = .ok (.iconst 0, 1) := by decide +kernel
theorem d_L_law_410 : decode code 410 = .ok (.ireturn, 1) := by decide +kernel
theorem d_L_law_411 : decode code 411 = .ok (.iload 5, 2) := by decide +kernel
theorem d_L_law_413 : decode code 413 = .ok (.ifCond .ne 15, 3) := by decide +kernel
theorem d_L_law_416 : decode code 416 = .ok (.aload_n 3, 1) := by decide +kernel
theorem d_L_law_417 : decode code 417 = .ok (.iconst 0, 1) := by decide +kernel
theorem d_L_law_418 : decode code 418 = .ok (.laload, 1) := by decide +kernel
theorem d_L_law_419 : decode code 419 = .ok (.iload 6, 2) := by decide +kernel
theorem d_L_law_421 : decode code 421 = .ok (.i2l, 1) := by decide +kernel
theorem d_L_law_422 : decode code 422 = .ok (.lcmp, 1) := by decide +kernel
theorem d_L_law_423 : decode code 423 = .ok (.ifCond .eq 5, 3) := by decide +kernel
theorem d_L_law_426 : decode code 426 = .ok (.iconst 0, 1) := by decide +kernel
theorem d_L_law_427 : decode code 427 = .ok (.ireturn, 1) := by decide +kernel
theorem d_L_law_428 : decode code 428 = .ok (.goto 550, 3) := by decide +kernel
theorem d_L_law_431 : decode code 431 = .ok (.aload_n 1, 1) := by decide +kernel
theorem d_L_law_432 : decode code 432 = .ok (.aload_n 0, 1) := by decide +kernel
theorem d_L_law_433 : decode code 433 = .ok (.iload 4, 2) := by decide +kernel
theorem d_L_law_435 : decode code 435 = .ok (.iconst 1, 1) := by decide +kernel
theorem d_L_law_436 : decode code 436 = .ok (.iadd, 1) := by decide +kernel
theorem d_L_law_437 : decode code 437 = .ok (.iaload, 1) := by decide +kernel
theorem d_L_law_438 : decode code 438 = .ok (.aload_n 0, 1) := by decide +kernel
theorem d_L_law_439 : decode code 439 = .ok (.iload 4, 2) := by decide +kernel
theorem d_L_law_441 : decode code 441 = .ok (.iconst 2, 1) := by decide +kernel
theorem d_L_law_442 : decode code 442 = .ok (.iadd, 1) := by decide +kernel
theorem d_L_law_443 : decode code 443 = .ok (.iaload, 1) := by decide +kernel
theorem d_L_law_444 : decode code 444 = .ok (.invokevirtual 69, 3) := by decide +kernel
theorem d_L_law_447 : decode code 447 = .ok (.aload_n 2, 1) := by decide +kernel
theorem d_L_law_448 : decode code 448 = .ok (.aload_n 0, 1) := by decide +kernel
theorem d_L_law_449 : decode code 449 = .ok (.iload 4, 2) := by decide +kernel
theorem d_L_law_451 : decode code 451 = .ok (.iconst 1, 1) := by decide +kernel
theorem d_L_law_452 : decode code 452 = .ok (.iadd, 1) := by decide +kernel
theorem d_L_law_453 : decode code 453 = .ok (.iaload, 1) := by decide +kernel
theorem d_L_law_454 : decode code 454 = .ok (.aload_n 0, 1) := by decide +kernel
theorem d_L_law_455 : decode code 455 = .ok (.iload 4, 2) := by decide +kernel
theorem d_L_law_457 : decode code 457 = .ok (.iconst 2, 1) := by decide +kernel
theorem d_L_law_458 : decode code 458 = .ok (.iadd, 1) := by decide +kernel
theorem d_L_law_459 : decode code 459 = .ok (.iaload, 1) := by decide +kernel
theorem d_L_law_460 : decode code 460 = .ok (.invokevirtual 72, 3) := by decide +kernel
theorem d_L_law_463 : decode code 463 = .ok (.if_icmp .eq 515, 3) := by decide +kernel
theorem d_L_law_466 : decode code 466 = .ok (.iconst 0, 1) := by decide +kernel
theorem d_L_law_467 : decode code 467 = .ok (.ireturn, 1) := by decide +kernel
theorem d_L_law_468 : decode code 468 = .ok (.aload_n 1, 1) := by decide +kernel
theorem d_L_law_469 : decode code 469 = .ok (.aload_n 0, 1) := by decide +kernel
theorem d_L_law_470 : decode code 470 = .ok (.iload 4, 2) := by decide +kernel
theorem d_L_law_472 : decode code 472 = .ok (.iconst 1, 1) := by decide +kernel
theorem d_L_law_473 : decode code 473 = .ok (.iadd, 1) := by decide +kernel
theorem d_L_law_474 : decode code 474 = .ok (.iaload, 1) := by decide +kernel
theorem d_L_law_475 : decode code 475 = .ok (.aload_n 0, 1) := by decide +kernel
theorem d_L_law_476 : decode code 476 = .ok (.iload 4, 2) := by decide +kernel
theorem d_L_law_478 : decode code 478 = .ok (.iconst 2, 1) := by decide +kernel
theorem d_L_law_479 : decode code 479 = .ok (.iadd, 1) := by decide +kernel
theorem d_L_law_480 : decode code 480 = .ok (.iaload, 1) := by decide +kernel
theorem d_L_law_481 : decode code 481 = .ok (.invokevirtual 73, 3) := by decide +kernel
theorem d_L_law_484 : decode code 484 = .ok (.aload_n 2, 1) := by decide +kernel
theorem d_L_law_485 : decode code 485 = .ok (.aload_n 0, 1) := by decide +kernel
theorem d_L_law_486 : decode code 486 = .ok (.iload 4, 2) := by decide +kernel
theorem d_L_law_488 : decode code 488 = .ok (.iconst 1, 1) := by decide +kernel
theorem d_L_law_489 : decode code 489 = .ok (.iadd, 1) := by decide +kernel
theorem d_L_law_490 : decode code 490 = .ok (.iaload, 1) := by decide +kernel
theorem d_L_law_491 : decode code 491 = .ok (.aload_n 0, 1) := by decide +kernel
theorem d_L_law_492 : decode code 492 = .ok (.iload 4, 2) := by decide +kernel
theorem d_L_law_494 : decode code 494 = .ok (.iconst 2, 1) := by decide +kernel
theorem d_L_law_495 : decode code 495 = .ok (.iadd, 1) := by decide +kernel
theorem d_L_law_496 : decode code 496 = .ok (.iaload, 1) := by decide +kernel
theorem d_L_law_497 : decode code 497 = .ok (.invokevirtual 76, 3) := by decide +kernel
theorem d_L_law_500 : decode code 500 = .ok (.if_icmp .eq 478, 3) := by decide +kernel
theorem d_L_law_503 : decode code 503 = .ok (.iconst 0, 1) := by decide +kernel
theorem d_L_law_504 : decode code 504 = .ok (.ireturn, 1) := by decide +kernel
theorem d_L_law_505 : decode code 505 = .ok (.aload_n 1, 1) := by decide +kernel
theorem d_L_law_506 : decode code 506 = .ok (.aload_n 0, 1) := by decide +kernel
theorem d_L_law_507 : decode code 507 = .ok (.iload 4, 2) := by decide +kernel
theorem d_L_law_509 : decode code 509 = .ok (.iconst 1, 1) := by decide +kernel
theorem d_L_law_510 : decode code 510 = .ok (.iadd, 1) := by decide +kernel
theorem d_L_law_511 : decode code 511 = .ok (.iaload, 1) := by decide +kernel
theorem d_L_law_512 : decode code 512 = .ok (.aload_n 0, 1) := by decide +kernel
theorem d_L_law_513 : decode code 513 = .ok (.iload 4, 2) := by decide +kernel
theorem d_L_law_515 : decode code 515 = .ok (.iconst 2, 1) := by decide +kernel
theorem d_L_law_516 : decode code 516 = .ok (.iadd, 1) := by decide +kernel
theorem d_L_law_517 : decode code 517 = .ok (.iaload, 1) := by decide +kernel
theorem d_L_law_518 : decode code 518 = .ok (.aload_n 0, 1) := by decide +kernel
theorem d_L_law_519 : decode code 519 = .ok (.iload 4, 2) := by decide +kernel
theorem d_L_law_521 : decode code 521 = .ok (.iconst 3, 1) := by decide +kernel
theorem d_L_law_522 : decode code 522 = .ok (.iadd, 1) := by decide +kernel
theorem d_L_law_523 : decode code 523 = .ok (.iaload, 1) := by decide +kernel
theorem d_L_law_524 : decode code 524 = .ok (.aload_n 3, 1) := by decide +kernel
theorem d_L_law_525 : decode code 525 = .ok (.invokestatic 77, 3) := by decide +kernel
theorem d_L_law_528 : decode code 528 = .ok (.istore 5, 2) := by decide +kernel
theorem d_L_law_530 : decode code 530 = .ok (.aload_n 2, 1) := by decide +kernel
theorem d_L_law_531 : decode code 531 = .ok (.aload_n 0, 1) := by decide +kernel
theorem d_L_law_532 : decode code 532 = .ok (.iload 4, 2) := by decide +kernel
theorem d_L_law_534 : decode code 534 = .ok (.iconst 1, 1) := by decide +kernel
theorem d_L_law_535 : decode code 535 = .ok (.iadd, 1) := by decide +kernel
theorem d_L_law_536 : decode code 536 = .ok (.iaload, 1) := by decide +kernel
theorem d_L_law_537 : decode code 537 = .ok (.aload_n 0, 1) := by decide +kernel
theorem d_L_law_538 : decode code 538 = .ok (.iload 4, 2) := by decide +kernel
theorem d_L_law_540 : decode code 540 = .ok (.iconst 2, 1) := by decide +kernel
theorem d_L_law_541 : decode code 541 = .ok (.iadd, 1) := by decide +kernel
theorem d_L_law_542 : decode code 542 = .ok (.iaload, 1) := by decide +kernel
theorem d_L_law_543 : decode code 543 = .ok (.aload_n 0, 1) := by decide +kernel
theorem d_L_law_544 : decode code 544 = .ok (.iload 4, 2) := by decide +kernel
theorem d_L_law_546 : decode code 546 = .ok (.iconst 3, 1) := by decide +kernel
theorem d_L_law_547 : decode code 547 = .ok (.iadd, 1) := by decide +kernel
theorem d_L_law_548 : decode code 548 = .ok (.iaload, 1) := by decide +kernel
theorem d_L_law_549 : decode code 549 = .ok (.invokevirtual 80, 3) := by decide +kernel
theorem d_L_law_552 : decode code 552 = .ok (.istore 6, 2) := by decide +kernel
theorem d_L_law_554 : decode code 554 = .ok (.aload_n 2, 1) := by decide +kernel
theorem d_L_law_555 : decode code 555 = .ok (.invokevirtual 58, 3) := by decide +kernel
theorem d_L_law_558 : decode code 558 = .ok (.iload 5, 2) := by decide +kernel
theorem d_L_law_560 : decode code 560 = .ok (.if_icmp .eq 5, 3) := by decide +kernel
theorem d_L_law_563 : decode code 563 = .ok (.iconst 0, 1) := by decide +kernel
theorem d_L_law_564 : decode code 564 = .ok (.ireturn, 1) := by decide +kernel
theorem d_L_law_565 : decode code 565 = .ok (.iload 5, 2) := by decide +kernel
theorem d_L_law_567 : decode code 567 = .ok (.ifCond .ne 15, 3) := by decide +kernel
theorem d_L_law_570 : decode code 570 = .ok (.aload_n 3, 1) := by decide +kernel
theorem d_L_law_571 : decode code 571 = .ok (.iconst 0, 1) := by decide +kernel
theorem d_L_law_572 : decode code 572 = .ok (.laload, 1) := by decide +kernel
theorem d_L_law_573 : decode code 573 = .ok (.iload 6, 2) := by decide +kernel
theorem d_L_law_575 : decode code 575 = .ok (.i2l, 1) := by decide +kernel
theorem d_L_law_576 : decode code 576 = .ok (.lcmp, 1) := by decide +kernel
theorem d_L_law_577 : decode code 577 = .ok (.ifCond .eq 5, 3) := by decide +kernel
theorem d_L_law_580 : decode code 580 = .ok (.iconst 0, 1) := by decide +kernel
theorem d_L_law_581 : decode code 581 = .ok (.ireturn, 1) := by decide +kernel
theorem d_L_law_582 : decode code 582 = .ok (.goto 396, 3) := by decide +kernel
theorem d_L_law_585 : decode code 585 = .ok (.aload_n 1, 1) := by decide +kernel
theorem d_L_law_586 : decode code 586 = .ok (.aload_n 0, 1) := by decide +kernel
theorem d_L_law_587 : decode code 587 = .ok (.iload 4, 2) := by decide +kernel
theorem d_L_law_589 : decode code 589 = .ok (.iconst 1, 1) := by decide +kernel
theorem d_L_law_590 : decode code 590 = .ok (.iadd, 1) := by decide +kernel
theorem d_L_law_591 : decode code 591 = .ok (.iaload, 1) := by decide +kernel
theorem d_L_law_592 : decode code 592 = .ok (.invokevirtual 81, 3) := by decide +kernel
theorem d_L_law_595 : decode code 595 = .ok (.aload_n 2, 1) := by decide +kernel
theorem d_L_law_596 : decode code 596 = .ok (.aload_n 0, 1) := by decide +kernel
theorem d_L_law_597 : decode code 597 = .ok (.iload 4, 2) := by decide +kernel
theorem d_L_law_599 : decode code 599 = .ok (.iconst 1, 1) := by decide +kernel
theorem d_L_law_600 : decode code 600 = .ok (.iadd, 1) := by decide +kernel
theorem d_L_law_601 : decode code 601 = .ok (.iaload, 1) := by decide +kernel
theorem d_L_law_602 : decode code 602 = .ok (.invokevirtual 85, 3) := by decide +kernel
theorem d_L_law_605 : decode code 605 = .ok (.goto 373, 3) := by decide +kernel
theorem d_L_law_608 : decode code 608 = .ok (.aload_n 1, 1) := by decide +kernel
theorem d_L_law_609 : decode code 609 = .ok (.aload_n 0, 1) := by decide +kernel
theorem d_L_law_610 : decode code 610 = .ok (.iload 4, 2) := by decide +kernel
theorem d_L_law_612 : decode code 612 = .ok (.iconst 1, 1) := by decide +kernel
theorem d_L_law_613 : decode code 613 = .ok (.iadd, 1) := by decide +kernel
theorem d_L_law_614 : decode code 614 = .ok (.iaload, 1) := by decide +kernel
theorem d_L_law_615 : decode code 615 = .ok (.aload_n 0, 1) := by decide +kernel
theorem d_L_law_616 : decode code 616 = .ok (.iload 4, 2) := by decide +kernel
theorem d_L_law_618 : decode code 618 = .ok (.iconst 2, 1) := by decide +kernel
theorem d_L_law_619 : decode code 619 = .ok (.iadd, 1) := by decide +kernel
theorem d_L_law_620 : decode code 620 = .ok (.iaload, 1) := by decide +kernel
theorem d_L_law_621 : decode code 621 = .ok (.aload_n 0, 1) := by decide +kernel
theorem d_L_law_622 : decode code 622 = .ok (.iload 4, 2) := by decide +kernel
theorem d_L_law_624 : decode code 624 = .ok (.iconst 3, 1) := by decide +kernel
theorem d_L_law_625 : decode code 625 = .ok (.iadd, 1) := by decide +kernel
theorem d_L_law_626 : decode code 626 = .ok (.iaload, 1) := by decide +kernel
theorem d_L_law_627 : decode code 627 = .ok (.aload_n 0, 1) := by decide +kernel
theorem d_L_law_628 : decode code 628 = .ok (.iload 4, 2) := by decide +kernel
theorem d_L_law_630 : decode code 630 = .ok (.iconst 4, 1) := by decide +kernel
theorem d_L_law_631 : decode code 631 = .ok (.iadd, 1) := by decide +kernel
theorem d_L_law_632 : decode code 632 = .ok (.iaload, 1) := by decide +kernel
theorem d_L_law_633 : decode code 633 = .ok (.aload_n 3, 1) := by decide +kernel
theorem d_L_law_634 : decode code 634 = .ok (.invokestatic 86, 3) := by decide +kernel
theorem d_L_law_637 : decode code 637 = .ok (.istore 5, 2) := by decide +kernel
theorem d_L_law_639 : decode code 639 = .ok (.aload_n 2, 1) := by decide +kernel
theorem d_L_law_640 : decode code 640 = .ok (.aload_n 0, 1) := by decide +kernel
theorem d_L_law_641 : decode code 641 = .ok (.iload 4, 2) := by decide +kernel
theorem d_L_law_643 : decode code 643 = .ok (.iconst 1, 1) := by decide +kernel
theorem d_L_law_644 : decode code 644 = .ok (.iadd, 1) := by decide +kernel
theorem d_L_law_645 : decode code 645 = .ok (.iaload, 1) := by decide +kernel
theorem d_L_law_646 : decode code 646 = .ok (.aload_n 0, 1) := by decide +kernel
theorem d_L_law_647 : decode code 647 = .ok (.iload 4, 2) := by decide +kernel
theorem d_L_law_649 : decode code 649 = .ok (.iconst 2, 1) := by decide +kernel
theorem d_L_law_650 : decode code 650 = .ok (.iadd, 1) := by decide +kernel
theorem d_L_law_651 : decode code 651 = .ok (.iaload, 1) := by decide +kernel
theorem d_L_law_652 : decode code 652 = .ok (.aload_n 0, 1) := by decide +kernel
theorem d_L_law_653 : decode code 653 = .ok (.iload 4, 2) := by decide +kernel
theorem d_L_law_655 : decode code 655 = .ok (.iconst 3, 1) := by decide +kernel
theorem d_L_law_656 : decode code 656 = .ok (.iadd, 1) := by decide +kernel
theorem d_L_law_657 : decode code 657 = .ok (.iaload, 1) := by decide +kernel
theorem d_L_law_658 : decode code 658 = .ok (.aload_n 0, 1) := by decide +kernel
theorem d_L_law_659 : decode code 659 = .ok (.iload 4, 2) := by decide +kernel
theorem d_L_law_661 : decode code 661 = .ok (.iconst 4, 1) := by decide +kernel
theorem d_L_law_662 : decode code 662 = .ok (.iadd, 1) := by decide +kernel
theorem d_L_law_663 : decode code 663 = .ok (.iaload, 1) := by decide +kernel
theorem d_L_law_664 : decode code 664 = .ok (.invokevirtual 89, 3) := by decide +kernel
theorem d_L_law_667 : decode code 667 = .ok (.istore 6, 2) := by decide +kernel
theorem d_L_law_669 : decode code 669 = .ok (.aload_n 2, 1) := by decide +kernel
theorem d_L_law_670 : decode code 670 = .ok (.invokevirtual 58, 3) := by decide +kernel
theorem d_L_law_673 : decode code 673 = .ok (.iload 5, 2) := by decide +kernel
theorem d_L_law_675 : decode code 675 = .ok (.if_icmp .eq 5, 3) := by decide +kernel
theorem d_L_law_678 : decode code 678 = .ok (.iconst 0, 1) := by decide +kernel
theorem d_L_law_679 : decode code 679 = .ok (.ireturn, 1) := by decide +kernel
theorem d_L_law_680 : decode code 680 = .ok (.iload 5, 2) := by decide +kernel
theorem d_L_law_682 : decode code 682 = .ok (.ifCond .ne 15, 3) := by decide +kernel
theorem d_L_law_685 : decode code 685 = .ok (.aload_n 3, 1) := by decide +kernel
theorem d_L_law_686 : decode code 686 = .ok (.iconst 0, 1) := by decide +kernel
theorem d_L_law_687 : decode code 687 = .ok (.laload, 1) := by decide +kernel
theorem d_L_law_688 : decode code 688 = .ok (.iload 6, 2) := by decide +kernel
theorem d_L_law_690 : decode code 690 = .ok (.i2l, 1) := by decide +kernel
theorem d_L_law_691 : decode code 691 = .ok (.lcmp, 1) := by decide +kernel
theorem d_L_law_692 : decode code 692 = .ok (.ifCond .eq 5, 3) := by decide +kernel
theorem d_L_law_695 : decode code 695 = .ok (.iconst 0, 1) := by decide +kernel
