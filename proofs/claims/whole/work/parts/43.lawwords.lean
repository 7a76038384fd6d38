theorem d_Lw_law_366 : decode code 366 = .ok (.iaload, 1) := by decide +kernel
theorem d_Lw_law_367 : decode code 367 = .ok (.invokevirtual 41, 3) := by decide +kernel
theorem d_Lw_law_370 : decode code 370 = .ok (.aload_n 2, 1) := by decide +kernel
theorem d_Lw_law_371 : decode code 371 = .ok (.aload_n 0, 1) := by decide +kernel
theorem d_Lw_law_372 : decode code 372 = .ok (.iload_n 3, 1) := by decide +kernel
theorem d_Lw_law_373 : decode code 373 = .ok (.iconst 1, 1) := by decide +kernel
theorem d_Lw_law_374 : decode code 374 = .ok (.iadd, 1) := by decide +kernel
theorem d_Lw_law_375 : decode code 375 = .ok (.iaload, 1) := by decide +kernel
theorem d_Lw_law_376 : decode code 376 = .ok (.aload_n 0, 1) := by decide +kernel
theorem d_Lw_law_377 : decode code 377 = .ok (.iload_n 3, 1) := by decide +kernel
theorem d_Lw_law_378 : decode code 378 = .ok (.iconst 2, 1) := by decide +kernel
theorem d_Lw_law_379 : decode code 379 = .ok (.iadd, 1) := by decide +kernel
theorem d_Lw_law_380 : decode code 380 = .ok (.iaload, 1) := by decide +kernel
theorem d_Lw_law_381 : decode code 381 = .ok (.invokevirtual 44, 3) := by decide +kernel
theorem d_Lw_law_384 : decode code 384 = .ok (.if_icmp .eq 305, 3) := by decide +kernel
theorem d_Lw_law_387 : decode code 387 = .ok (.iconst 0, 1) := by decide +kernel
theorem d_Lw_law_388 : decode code 388 = .ok (.ireturn, 1) := by decide +kernel
theorem d_Lw_law_389 : decode code 389 = .ok (.aload_n 1, 1) := by decide +kernel
theorem d_Lw_law_390 : decode code 390 = .ok (.aload_n 0, 1) := by decide +kernel
theorem d_Lw_law_391 : decode code 391 = .ok (.iload_n 3, 1) := by decide +kernel
theorem d_Lw_law_392 : decode code 392 = .ok (.iconst 1, 1) := by decide +kernel
theorem d_Lw_law_393 : decode code 393 = .ok (.iadd, 1) := by decide +kernel
theorem d_Lw_law_394 : decode code 394 = .ok (.iaload, 1) := by decide +kernel
theorem d_Lw_law_395 : decode code 395 = .ok (.invokevirtual 45, 3) := by decide +kernel
theorem d_Lw_law_398 : decode code 398 = .ok (.aload_n 2, 1) := by decide +kernel
theorem d_Lw_law_399 : decode code 399 = .ok (.aload_n 0, 1) := by decide +kernel
theorem d_Lw_law_400 : decode code 400 = .ok (.iload_n 3, 1) := by decide +kernel
theorem d_Lw_law_401 : decode code 401 = .ok (.iconst 1, 1) := by decide +kernel
theorem d_Lw_law_402 : decode code 402 = .ok (.iadd, 1) := by decide +kernel
theorem d_Lw_law_403 : decode code 403 = .ok (.iaload, 1) := by decide +kernel
theorem d_Lw_law_404 : decode code 404 = .ok (.invokevirtual 49, 3) := by decide +kernel
theorem d_Lw_law_407 : decode code 407 = .ok (.if_icmp .eq 282, 3) := by decide +kernel
theorem d_Lw_law_410 : decode code 410 = .ok (.iconst 0, 1) := by decide +kernel
theorem d_Lw_law_411 : decode code 411 = .ok (.ireturn, 1) := by decide +kernel
theorem d_Lw_law_412 : decode code 412 = .ok (.aload_n 1, 1) := by decide +kernel
theorem d_Lw_law_413 : decode code 413 = .ok (.aload_n 0, 1) := by decide +kernel
theorem d_Lw_law_414 : decode code 414 = .ok (.iload_n 3, 1) := by decide +kernel
theorem d_Lw_law_415 : decode code 415 = .ok (.iconst 1, 1) := by decide +kernel
theorem d_Lw_law_416 : decode code 416 = .ok (.iadd, 1) := by decide +kernel
theorem d_Lw_law_417 : decode code 417 = .ok (.iaload, 1) := by decide +kernel
theorem d_Lw_law_418 : decode code 418 = .ok (.invokevirtual 50, 3) := by decide +kernel
theorem d_Lw_law_421 : decode code 421 = .ok (.aload_n 2, 1) := by decide +kernel
theorem d_Lw_law_422 : decode code 422 = .ok (.aload_n 0, 1) := by decide +kernel
theorem d_Lw_law_423 : decode code 423 = .ok (.iload_n 3, 1) := by decide +kernel
theorem d_Lw_law_424 : decode code 424 = .ok (.iconst 1, 1) := by decide +kernel
theorem d_Lw_law_425 : decode code 425 = .ok (.iadd, 1) := by decide +kernel
theorem d_Lw_law_426 : decode code 426 = .ok (.iaload, 1) := by decide +kernel
theorem d_Lw_law_427 : decode code 427 = .ok (.invokevirtual 53, 3) := by decide +kernel
theorem d_Lw_law_430 : decode code 430 = .ok (.if_icmp .eq 259, 3) := by decide +kernel
theorem d_Lw_law_433 : decode code 433 = .ok (.iconst 0, 1) := by decide +kernel
theorem d_Lw_law_434 : decode code 434 = .ok (.ireturn, 1) := by decide +kernel
theorem d_Lw_law_435 : decode code 435 = .ok (.aload_n 1, 1) := by decide +kernel
theorem d_Lw_law_436 : decode code 436 = .ok (.aload_n 0, 1) := by decide +kernel
theorem d_Lw_law_437 : decode code 437 = .ok (.iload_n 3, 1) := by decide +kernel
theorem d_Lw_law_438 : decode code 438 = .ok (.iconst 1, 1) := by decide +kernel
theorem d_Lw_law_439 : decode code 439 = .ok (.iadd, 1) := by decide +kernel
theorem d_Lw_law_440 : decode code 440 = .ok (.iaload, 1) := by decide +kernel
theorem d_Lw_law_441 : decode code 441 = .ok (.invokevirtual 54, 3) := by decide +kernel
theorem d_Lw_law_444 : decode code 444 = .ok (.aload_n 2, 1) := by decide +kernel
theorem d_Lw_law_445 : decode code 445 = .ok (.aload_n 0, 1) := by decide +kernel
theorem d_Lw_law_446 : decode code 446 = .ok (.iload_n 3, 1) := by decide +kernel
theorem d_Lw_law_447 : decode code 447 = .ok (.iconst 1, 1) := by decide +kernel
theorem d_Lw_law_448 : decode code 448 = .ok (.iadd, 1) := by decide +kernel
theorem d_Lw_law_449 : decode code 449 = .ok (.iaload, 1) := by decide +kernel
theorem d_Lw_law_450 : decode code 450 = .ok (.invokevirtual 58, 3) := by decide +kernel
theorem d_Lw_law_453 : decode code 453 = .ok (.if_icmp .eq 236, 3) := by decide +kernel
theorem d_Lw_law_456 : decode code 456 = .ok (.iconst 0, 1) := by decide +kernel
theorem d_Lw_law_457 : decode code 457 = .ok (.ireturn, 1) := by decide +kernel
theorem d_Lw_law_458 : decode code 458 = .ok (.aload_n 1, 1) := by decide +kernel
theorem d_Lw_law_459 : decode code 459 = .ok (.aload_n 0, 1) := by decide +kernel
theorem d_Lw_law_460 : decode code 460 = .ok (.iload_n 3, 1) := by decide +kernel
theorem d_Lw_law_461 : decode code 461 = .ok (.iconst 1, 1) := by decide +kernel
theorem d_Lw_law_462 : decode code 462 = .ok (.iadd, 1) := by decide +kernel
theorem d_Lw_law_463 : decode code 463 = .ok (.iaload, 1) := by decide +kernel
theorem d_Lw_law_464 : decode code 464 = .ok (.aload_n 0, 1) := by decide +kernel
theorem d_Lw_law_465 : decode code 465 = .ok (.iload_n 3, 1) := by decide +kernel
theorem d_Lw_law_466 : decode code 466 = .ok (.iconst 2, 1) := by decide +kernel
theorem d_Lw_law_467 : decode code 467 = .ok (.iadd, 1) := by decide +kernel
theorem d_Lw_law_468 : decode code 468 = .ok (.iaload, 1) := by decide +kernel
theorem d_Lw_law_469 : decode code 469 = .ok (.invokevirtual 59, 3) := by decide +kernel
theorem d_Lw_law_472 : decode code 472 = .ok (.aload_n 2, 1) := by decide +kernel
theorem d_Lw_law_473 : decode code 473 = .ok (.aload_n 0, 1) := by decide +kernel
theorem d_Lw_law_474 : decode code 474 = .ok (.iload_n 3, 1) := by decide +kernel
theorem d_Lw_law_475 : decode code 475 = .ok (.iconst 1, 1) := by decide +kernel
theorem d_Lw_law_476 : decode code 476 = .ok (.iadd, 1) := by decide +kernel
theorem d_Lw_law_477 : decode code 477 = .ok (.iaload, 1) := by decide +kernel
theorem d_Lw_law_478 : decode code 478 = .ok (.aload_n 0, 1) := by decide +kernel
theorem d_Lw_law_479 : decode code 479 = .ok (.iload_n 3, 1) := by decide +kernel
theorem d_Lw_law_480 : decode code 480 = .ok (.iconst 2, 1) := by decide +kernel
theorem d_Lw_law_481 : decode code 481 = .ok (.iadd, 1) := by decide +kernel
theorem d_Lw_law_482 : decode code 482 = .ok (.iaload, 1) := by decide +kernel
theorem d_Lw_law_483 : decode code 483 = .ok (.invokevirtual 62, 3) := by decide +kernel
theorem d_Lw_law_486 : decode code 486 = .ok (.if_icmp .eq 203, 3) := by decide +kernel
theorem d_Lw_law_489 : decode code 489 = .ok (.iconst 0, 1) := by decide +kernel
theorem d_Lw_law_490 : decode code 490 = .ok (.ireturn, 1) := by decide +kernel
theorem d_Lw_law_491 : decode code 491 = .ok (.aload_n 1, 1) := by decide +kernel
theorem d_Lw_law_492 : decode code 492 = .ok (.aload_n 0, 1) := by decide +kernel
theorem d_Lw_law_493 : decode code 493 = .ok (.iload_n 3, 1) := by decide +kernel
theorem d_Lw_law_494 : decode code 494 = .ok (.iconst 1, 1) := by decide +kernel
theorem d_Lw_law_495 : decode code 495 = .ok (.iadd, 1) := by decide +kernel
theorem d_Lw_law_496 : decode code 496 = .ok (.iaload, 1) := by decide +kernel
theorem d_Lw_law_497 : decode code 497 = .ok (.aload_n 0, 1) := by decide +kernel
theorem d_Lw_law_498 : decode code 498 = .ok (.iload_n 3, 1) := by decide +kernel
theorem d_Lw_law_499 : decode code 499 = .ok (.iconst 2, 1) := by decide +kernel
theorem d_Lw_law_500 : decode code 500 = .ok (.iadd, 1) := by decide +kernel
theorem d_Lw_law_501 : decode code 501 = .ok (.iaload, 1) := by decide +kernel
theorem d_Lw_law_502 : decode code 502 = .ok (.invokevirtual 63, 3) := by decide +kernel
theorem d_Lw_law_505 : decode code 505 = .ok (.aload_n 2, 1) := by decide +kernel
theorem d_Lw_law_506 : decode code 506 = .ok (.aload_n 0, 1) := by decide +kernel
theorem d_Lw_law_507 : decode code 507 = .ok (.iload_n 3, 1) := by decide +kernel
theorem d_Lw_law_508 : decode code 508 = .ok (.iconst 1, 1) := by decide +kernel
theorem d_Lw_law_509 : decode code 509 = .ok (.iadd, 1) := by decide +kernel
theorem d_Lw_law_510 : decode code 510 = .ok (.iaload, 1) := by decide +kernel
theorem d_Lw_law_511 : decode code 511 = .ok (.aload_n 0, 1) := by decide +kernel
theorem d_Lw_law_512 : decode code 512 = .ok (.iload_n 3, 1) := by decide +kernel
theorem d_Lw_law_513 : decode code 513 = .ok (.iconst 2, 1) := by decide +kernel
theorem d_Lw_law_514 : decode code 514 = .ok (.iadd, 1) := by decide +kernel
theorem d_Lw_law_515 : decode code 515 = .ok (.iaload, 1) := by decide +kernel
theorem d_Lw_law_516 : decode code 516 = .ok (.invokevirtual 66, 3) := by decide +kernel
theorem d_Lw_law_519 : decode code 519 = .ok (.if_icmp .eq 170, 3) := by decide +kernel
theorem d_Lw_law_522 : decode code 522 = .ok (.iconst 0, 1) := by decide +kernel
theorem d_Lw_law_523 : decode code 523 = .ok (.ireturn, 1) := by decide +kernel
theorem d_Lw_law_524 : decode code 524 = .ok (.aload_n 1, 1) := by decide +kernel
theorem d_Lw_law_525 : decode code 525 = .ok (.aload_n 0, 1) := by decide +kernel
theorem d_Lw_law_526 : decode code 526 = .ok (.iload_n 3, 1) := by decide +kernel
theorem d_Lw_law_527 : decode code 527 = .ok (.iconst 1, 1) := by decide +kernel
theorem d_Lw_law_528 : decode code 528 = .ok (.iadd, 1) := by decide +kernel
theorem d_Lw_law_529 : decode code 529 = .ok (.iaload, 1) := by decide +kernel
theorem d_Lw_law_530 : decode code 530 = .ok (.aload_n 0, 1) := by decide +kernel
theorem d_Lw_law_531 : decode code 531 = .ok (.iload_n 3, 1) := by decide +kernel
theorem d_Lw_law_532 : decode code 532 = .ok (.iconst 2, 1) := by decide +kernel
theorem d_Lw_law_533 : decode code 533 = .ok (.iadd, 1) := by decide +kernel
theorem d_Lw_law_534 : decode code 534 = .ok (.iaload, 1) := by decide +kernel
theorem d_Lw_law_535 : decode code 535 = .ok (.aload_n 0, 1) := by decide +kernel
theorem d_Lw_law_536 : decode code 536 = .ok (.iload_n 3, 1) := by decide +kernel
theorem d_Lw_law_537 : decode code 537 = .ok (.iconst 3, 1) := by decide +kernel
theorem d_Lw_law_538 : decode code 538 = .ok (.iadd, 1) := by decide +kernel
theorem d_Lw_law_539 : decode code 539 = .ok (.iaload, 1) := by decide +kernel
theorem d_Lw_law_540 : decode code 540 = .ok (.invokevirtual 67, 3) := by decide +kernel
theorem d_Lw_law_543 : decode code 543 = .ok (.aload_n 2, 1) := by decide +kernel
theorem d_Lw_law_544 : decode code 544 = .ok (.aload_n 0, 1) := by decide +kernel
theorem d_Lw_law_545 : decode code 545 = .ok (.iload_n 3, 1) := by decide +kernel
theorem d_Lw_law_546 : decode code 546 = .ok (.iconst 1, 1) := by decide +kernel
theorem d_Lw_law_547 : decode code 547 = .ok (.iadd, 1) := by decide +kernel
theorem d_Lw_law_548 : decode code 548 = .ok (.iaload, 1) := by decide +kernel
theorem d_Lw_law_549 : decode code 549 = .ok (.aload_n 0, 1) := by decide +kernel
theorem d_Lw_law_550 : decode code 550 = .ok (.iload_n 3, 1) := by decide +kernel
theorem d_Lw_law_551 : decode code 551 = .ok (.iconst 2, 1) := by decide +kernel
theorem d_Lw_law_552 : decode code 552 = .ok (.iadd, 1) := by decide +kernel
theorem d_Lw_law_553 : decode code 553 = .ok (.iaload, 1) := by decide +kernel
theorem d_Lw_law_554 : decode code 554 = .ok (.aload_n 0, 1) := by decide +kernel
theorem d_Lw_law_555 : decode code 555 = .ok (.iload_n 3, 1) := by decide +kernel
theorem d_Lw_law_556 : decode code 556 = .ok (.iconst 3, 1) := by decide +kernel
theorem d_Lw_law_557 : decode code 557 = .ok (.iadd, 1) := by decide +kernel
theorem d_Lw_law_558 : decode code 558 = .ok (.iaload, 1) := by decide +kernel
theorem d_Lw_law_559 : decode code 559 = .ok (.invokevirtual 70, 3) := by decide +kernel
theorem d_Lw_law_562 : decode code 562 = .ok (.if_icmp .eq 127, 3) := by decide +kernel
theorem d_Lw_law_565 : decode code 565 = .ok (.iconst 0, 1) := by decide +kernel
theorem d_Lw_law_566 : decode code 566 = .ok (.ireturn, 1) := by decide +kernel
theorem d_Lw_law_567 : decode code 567 = .ok (.aload_n 1, 1) := by decide +kernel
theorem d_Lw_law_568 : decode code 568 = .ok (.aload_n 0, 1) := by decide +kernel
theorem d_Lw_law_569 : decode code 569 = .ok (.iload_n 3, 1) := by decide +kernel
theorem d_Lw_law_570 : decode code 570 = .ok (.iconst 1, 1) := by decide +kernel
theorem d_Lw_law_571 : decode code 571 = .ok (.iadd, 1) := by decide +kernel
theorem d_Lw_law_572 : decode code 572 = .ok (.iaload, 1) := by decide +kernel
theorem d_Lw_law_573 : decode code 573 = .ok (.aload_n 0, 1) := by decide +kernel
theorem d_Lw_law_574 : decode code 574 = .ok (.iload_n 3, 1) := by decide +kernel
theorem d_Lw_law_575 : decode code 575 = .ok (.iconst 2, 1) := by decide +kernel
theorem d_Lw_law_576 : decode code 576 = .ok (.iadd, 1) := by decide +kernel
theorem d_Lw_law_577 : decode code 577 = .ok (.iaload, 1) := by decide +kernel
theorem d_Lw_law_578 : decode code 578 = .ok (.aload_n 0, 1) := by decide +kernel
theorem d_Lw_law_579 : decode code 579 = .ok (.iload_n 3, 1) := by decide +kernel
theorem d_Lw_law_580 : decode code 580 = .ok (.iconst 3, 1) := by decide +kernel
theorem d_Lw_law_581 : decode code 581 = .ok (.iadd, 1) := by decide +kernel
theorem d_Lw_law_582 : decode code 582 = .ok (.iaload, 1) := by decide +kernel
theorem d_Lw_law_583 : decode code 583 = .ok (.invokevirtual 71, 3) := by decide +kernel
theorem d_Lw_law_586 : decode code 586 = .ok (.aload_n 2, 1) := by decide +kernel
theorem d_Lw_law_587 : decode code 587 = .ok (.aload_n 0, 1) := by decide +kernel
theorem d_Lw_law_588 : decode code 588 = .ok (.iload_n 3, 1) := by decide +kernel
theorem d_Lw_law_589 : decode code 589 = .ok (.iconst 1, 1) := by decide +kernel
theorem d_Lw_law_590 : decode code 590 = .ok (.iadd, 1) := by decide +kernel
theorem d_Lw_law_591 : decode code 591 = .ok (.iaload, 1) := by decide +kernel
theorem d_Lw_law_592 : decode code 592 = .ok (.aload_n 0, 1) := by decide +kernel
theorem d_Lw_law_593 : decode code 593 = .ok (.iload_n 3, 1) := by decide +kernel
theorem d_Lw_law_594 : decode code 594 = .ok (.iconst 2, 1) := by decide +kernel
theorem d_Lw_law_595 : decode code 595 = .ok (.iadd, 1) := by decide +kernel
theorem d_Lw_law_596 : decode code 596 = .ok (.iaload, 1) := by decide +kernel
theorem d_Lw_law_597 : decode code 597 = .ok (.aload_n 0, 1) := by decide +kernel
theorem d_Lw_law_598 : decode code 598 = .ok (.iload_n 3, 1) := by decide +kernel
theorem d_Lw_law_599 : decode code 599 = .ok (.iconst 3, 1) := by decide +kernel
theorem d_Lw_law_600 : decode code 600 = .ok (.iadd, 1) := by decide +kernel
theorem d_Lw_law_601 : decode code 601 = .ok (.iaload, 1) := by decide +kernel
theorem d_Lw_law_602 : decode code 602 = .ok (.invokevirtual 74, 3) := by decide +kernel
theorem d_Lw_law_605 : decode code 605 = .ok (.if_icmp .eq 84, 3) := by decide +kernel
theorem d_Lw_law_608 : decode code 608 = .ok (.iconst 0, 1) := by decide +kernel
theorem d_Lw_law_609 : decode code 609 = .ok (.ireturn, 1) := by decide +kernel
theorem d_Lw_law_610 : decode code 610 = .ok (.aload_n 1, 1) := by decide +kernel
theorem d_Lw_law_611 : decode code 611 = .ok (.aload_n 0, 1) := by decide +kernel
theorem d_Lw_law_612 : decode code 612 = .ok (.iload_n 3, 1) := by decide +kernel
theorem d_Lw_law_613 : decode code 613 = .ok (.iconst 1, 1) := by decide +kernel
theorem d_Lw_law_614 : decode code 614 = .ok (.iadd, 1) := by decide +kernel
theorem d_Lw_law_615 : decode code 615 = .ok (.iaload, 1) := by decide +kernel
theorem d_Lw_law_616 : decode code 616 = .ok (.aload_n 0, 1) := by decide +kernel
theorem d_Lw_law_617 : decode code 617 = .ok (.iload_n 3, 1) := by decide +kernel
theorem d_Lw_law_618 : decode code 618 = .ok (.iconst 2, 1) := by decide +kernel
theorem d_Lw_law_619 : decode code 619 = .ok (.iadd, 1) := by decide +kernel
theorem d_Lw_law_620 : decode code 620 = .ok (.iaload, 1) := by decide +kernel
theorem d_Lw_law_621 : decode code 621 = .ok (.invokevirtual 75, 3) := by decide +kernel
theorem d_Lw_law_624 : decode code 624 = .ok (.aload_n 2, 1) := by decide +kernel
theorem d_Lw_law_625 : decode code 625 = .ok (.aload_n 0, 1) := by decide +kernel
theorem d_Lw_law_626 : decode code 626 = .ok (.iload_n 3, 1) := by decide +kernel
theorem d_Lw_law_627 : decode code 627 = .ok (.iconst 1, 1) := by decide +kernel
theorem d_Lw_law_628 : decode code 628 = .ok (.iadd, 1) := by decide +kernel
theorem d_Lw_law_629 : decode code 629 = .ok (.iaload, 1) := by decide +kernel
theorem d_Lw_law_630 : decode code 630 = .ok (.aload_n 0, 1) := by decide +kernel
theorem d_Lw_law_631 : decode code 631 = .ok (.iload_n 3, 1) := by decide +kernel
theorem d_Lw_law_632 : decode code 632 = .ok (.iconst 2, 1) := by decide +kernel
theorem d_Lw_law_633 : decode code 633 = .ok (.iadd, 1) := by decide +kernel
theorem d_Lw_law_634 : decode code 634 = .ok (.iaload, 1) := by decide +kernel
theorem d_Lw_law_635 : decode code 635 = .ok (.invokevirtual 78, 3) := by decide +kernel
theorem d_Lw_law_638 : decode code 638 = .ok (.if_icmp .eq 51, 3) := by decide +kernel
theorem d_Lw_law_641 : decode code 641 = .ok (.iconst 0, 1) := by decide +kernel
theorem d_Lw_law_642 : decode code 642 = .ok (.ireturn, 1) := by decide +kernel
theorem d_Lw_law_643 : decode code 643 = .ok (.aload_n 1, 1) := by decide +kernel
theorem d_Lw_law_644 : decode code 644 = .ok (.aload_n 0, 1) := by decide +kernel
theorem d_Lw_law_645 : decode code 645 = .ok (.iload_n 3, 1) := by decide +kernel
theorem d_Lw_law_646 : decode code 646 = .ok (.iconst 1, 1) := by decide +kernel
theorem d_Lw_law_647 : decode code 647 = .ok (.iadd, 1) := by decide +kernel
theorem d_Lw_law_648 : decode code 648 = .ok (.iaload, 1) := by decide +kernel
theorem d_Lw_law_649 : decode code 649 = .ok (.invokevirtual 79, 3) := by decide +kernel
theorem d_Lw_law_652 : decode code 652 = .ok (.aload_n 2, 1) := by decide +kernel
theorem d_Lw_law_653 : decode code 653 = .ok (.aload_n 0, 1) := by decide +kernel
theorem d_Lw_law_654 : decode code 654 = .ok (.iload_n 3, 1) := by decide +kernel
theorem d_Lw_law_655 : decode code 655 = .ok (.iconst 1, 1) := by decide +kernel
theorem d_Lw_law_656 : decode code 656 = .ok (.iadd, 1) := by decide +kernel
theorem d_Lw_law_657 : decode code 657 = .ok (.iaload, 1) := by decide +kernel
theorem d_Lw_law_658 : decode code 658 = .ok (.invokevirtual 82, 3) := by decide +kernel
theorem d_Lw_law_661 : decode code 661 = .ok (.if_icmp .eq 28, 3) := by decide +kernel
theorem d_Lw_law_664 : decode code 664 = .ok (.iconst 0, 1) := by decide +kernel
theorem d_Lw_law_665 : decode code 665 = .ok (.ireturn, 1) := by decide +kernel
theorem d_Lw_law_666 : decode code 666 = .ok (.aload_n 1, 1) := by decide +kernel
theorem d_Lw_law_667 : decode code 667 = .ok (.aload_n 0, 1) := by decide +kernel
theorem d_Lw_law_668 : decode code 668 = .ok (.iload_n 3, 1) := by decide +kernel
theorem d_Lw_law_669 : decode code 669 = .ok (.iconst 1, 1) := by decide +kernel
theorem d_Lw_law_670 : decode code 670 = .ok (.iadd, 1) := by decide +kernel
theorem d_Lw_law_671 : decode code 671 = .ok (.iaload, 1) := by decide +kernel
theorem d_Lw_law_672 : decode code 672 = .ok (.invokevirtual 83, 3) := by decide +kernel
theorem d_Lw_law_675 : decode code 675 = .ok (.aload_n 2, 1) := by decide +kernel
theorem d_Lw_law_676 : decode code 676 = .ok (.aload_n 0, 1) := by decide +kernel
theorem d_Lw_law_677 : decode code 677 = .ok (.iload_n 3, 1) := by decide +kernel
theorem d_Lw_law_678 : decode code 678 = .ok (.iconst 1, 1) := by decide +kernel
theorem d_Lw_law_679 : decode code 679 = .ok (.iadd, 1) := by decide +kernel
theorem d_Lw_law_680 : decode code 680 = .ok (.iaload, 1) := by decide +kernel
theorem d_Lw_law_681 : decode code 681 = .ok (.invokevirtual 86, 3) := by decide +kernel
theorem d_Lw_law_684 : decode code 684 = .ok (.if_icmp .eq 5, 3) := by decide +kernel
theorem d_Lw_law_687 : decode code 687 = .ok (.iconst 0, 1) := by decide +kernel
theorem d_Lw_law_688 : decode code 688 = .ok (.ireturn, 1) := by decide +kernel
theorem d_Lw_law_689 : decode code 689 = .ok (.iinc 3 4, 3) := by decide +kernel
theorem d_Lw_law_692 : decode code 692 = .ok (.goto (-674), 3) := by decide +kernel
theorem d_Lw_law_695 : decode code 695 = .ok (.iconst 1, 1) := by decide +kernel
theorem d_Lw_law_696 : decode code 696 = .ok (.ireturn, 1) := by decide +kernel
